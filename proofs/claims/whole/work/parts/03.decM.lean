theorem dX8_init_0 : decode cX8_init 0 = .ok (.aload_n 0, 1) := by decide +kernel
theorem dX8_init_1 : decode cX8_init 1 = .ok (.invokespecial 1, 3) := by decide +kernel
theorem dX8_init_4 : decode cX8_init 4 = .ok (.aload_n 0, 1) := by decide +kernel
theorem dX8_init_5 : decode cX8_init 5 = .ok (.sipush 250, 3) := by decide +kernel
theorem dX8_init_8 : decode cX8_init 8 = .ok (.putfield 7, 3) := by decide +kernel
theorem dX8_init_11 : decode cX8_init 11 = .ok (.aload_n 0, 1) := by decide +kernel
theorem dX8_init_12 : decode cX8_init 12 = .ok (.iconst 4, 1) := by decide +kernel
theorem dX8_init_13 : decode cX8_init 13 = .ok (.newarray .int, 2) := by decide +kernel
theorem dX8_init_15 : decode cX8_init 15 = .ok (.putfield 13, 3) := by decide +kernel
theorem dX8_init_18 : decode cX8_init 18 = .ok (.aload_n 0, 1) := by decide +kernel
theorem dX8_init_19 : decode cX8_init 19 = .ok (.iconst 4, 1) := by decide +kernel
theorem dX8_init_20 : decode cX8_init 20 = .ok (.newarray .int, 2) := by decide +kernel
theorem dX8_init_22 : decode cX8_init 22 = .ok (.putfield 17, 3) := by decide +kernel
theorem dX8_init_25 : decode cX8_init 25 = .ok (.aload_n 0, 1) := by decide +kernel
theorem dX8_init_26 : decode cX8_init 26 = .ok (.iconst 4, 1) := by decide +kernel
theorem dX8_init_27 : decode cX8_init 27 = .ok (.newarray .int, 2) := by decide +kernel
theorem dX8_init_29 : decode cX8_init 29 = .ok (.putfield 20, 3) := by decide +kernel
theorem dX8_init_32 : decode cX8_init 32 = .ok (.aload_n 0, 1) := by decide +kernel
theorem dX8_init_33 : decode cX8_init 33 = .ok (.iconst 4, 1) := by decide +kernel
theorem dX8_init_34 : decode cX8_init 34 = .ok (.newarray .int, 2) := by decide +kernel
theorem dX8_init_36 : decode cX8_init 36 = .ok (.putfield 23, 3) := by decide +kernel
theorem dX8_init_39 : decode cX8_init 39 = .ok (.aload_n 0, 1) := by decide +kernel
theorem dX8_init_40 : decode cX8_init 40 = .ok (.iconst 4, 1) := by decide +kernel
theorem dX8_init_41 : decode cX8_init 41 = .ok (.newarray .int, 2) := by decide +kernel
theorem dX8_init_43 : decode cX8_init 43 = .ok (.putfield 26, 3) := by decide +kernel
theorem dX8_init_46 : decode cX8_init 46 = .ok (.aload_n 0, 1) := by decide +kernel
theorem dX8_init_47 : decode cX8_init 47 = .ok (.iconst 4, 1) := by decide +kernel
theorem dX8_init_48 : decode cX8_init 48 = .ok (.newarray .int, 2) := by decide +kernel
theorem dX8_init_50 : decode cX8_init 50 = .ok (.putfield 29, 3) := by decide +kernel
theorem dX8_init_53 : decode cX8_init 53 = .ok (.aload_n 0, 1) := by decide +kernel
theorem dX8_init_54 : decode cX8_init 54 = .ok (.iconst 4, 1) := by decide +kernel
theorem dX8_init_55 : decode cX8_init 55 = .ok (.newarray .int, 2) := by decide +kernel
theorem dX8_init_57 : decode cX8_init 57 = .ok (.putfield 32, 3) := by decide +kernel
theorem dX8_init_60 : decode cX8_init 60 = .ok (.aload_n 0, 1) := by decide +kernel
theorem dX8_init_61 : decode cX8_init 61 = .ok (.iconst 4, 1) := by decide +kernel
theorem dX8_init_62 : decode cX8_init 62 = .ok (.newarray .char, 2) := by decide +kernel
theorem dX8_init_64 : decode cX8_init 64 = .ok (.putfield 35, 3) := by decide +kernel
theorem dX8_init_67 : decode cX8_init 67 = .ok (.aload_n 0, 1) := by decide +kernel
theorem dX8_init_68 : decode cX8_init 68 = .ok (.iconst 4, 1) := by decide +kernel
theorem dX8_init_69 : decode cX8_init 69 = .ok (.newarray .int, 2) := by decide +kernel
theorem dX8_init_71 : decode cX8_init 71 = .ok (.putfield 39, 3) := by decide +kernel
theorem dX8_init_74 : decode cX8_init 74 = .ok (.aload_n 0, 1) := by decide +kernel
theorem dX8_init_75 : decode cX8_init 75 = .ok (.iconst 4, 1) := by decide +kernel
theorem dX8_init_76 : decode cX8_init 76 = .ok (.newarray .boolean, 2) := by decide +kernel
theorem dX8_init_78 : decode cX8_init 78 = .ok (.putfield 42, 3) := by decide +kernel
theorem dX8_init_81 : decode cX8_init 81 = .ok (.aload_n 0, 1) := by decide +kernel
theorem dX8_init_82 : decode cX8_init 82 = .ok (.iconst 4, 1) := by decide +kernel
theorem dX8_init_83 : decode cX8_init 83 = .ok (.newarray .boolean, 2) := by decide +kernel
theorem dX8_init_85 : decode cX8_init 85 = .ok (.putfield 46, 3) := by decide +kernel
theorem dX8_init_88 : decode cX8_init 88 = .ok (.aload_n 0, 1) := by decide +kernel
theorem dX8_init_89 : decode cX8_init 89 = .ok (.iconst 4, 1) := by decide +kernel
theorem dX8_init_90 : decode cX8_init 90 = .ok (.newarray .boolean, 2) := by decide +kernel
theorem dX8_init_92 : decode cX8_init 92 = .ok (.putfield 49, 3) := by decide +kernel
theorem dX8_init_95 : decode cX8_init 95 = .ok (.aload_n 0, 1) := by decide +kernel
theorem dX8_init_96 : decode cX8_init 96 = .ok (.iconst 4, 1) := by decide +kernel
theorem dX8_init_97 : decode cX8_init 97 = .ok (.newarray .int, 2) := by decide +kernel
theorem dX8_init_99 : decode cX8_init 99 = .ok (.putfield 52, 3) := by decide +kernel
theorem dX8_init_102 : decode cX8_init 102 = .ok (.aload_n 0, 1) := by decide +kernel
theorem dX8_init_103 : decode cX8_init 103 = .ok (.iconst 4, 1) := by decide +kernel
theorem dX8_init_104 : decode cX8_init 104 = .ok (.newarray .long, 2) := by decide +kernel
theorem dX8_init_106 : decode cX8_init 106 = .ok (.putfield 55, 3) := by decide +kernel
theorem dX8_init_109 : decode cX8_init 109 = .ok (.aload_n 0, 1) := by decide +kernel
theorem dX8_init_110 : decode cX8_init 110 = .ok (.iconst 4, 1) := by decide +kernel
theorem dX8_init_111 : decode cX8_init 111 = .ok (.newarray .int, 2) := by decide +kernel
theorem dX8_init_113 : decode cX8_init 113 = .ok (.putfield 59, 3) := by decide +kernel
theorem dX8_init_116 : decode cX8_init 116 = .ok (.aload_n 0, 1) := by decide +kernel
theorem dX8_init_117 : decode cX8_init 117 = .ok (.bipush 10, 2) := by decide +kernel
theorem dX8_init_119 : decode cX8_init 119 = .ok (.putfield 62, 3) := by decide +kernel
theorem dX8_init_122 : decode cX8_init 122 = .ok (.aload_n 0, 1) := by decide +kernel
theorem dX8_init_123 : decode cX8_init 123 = .ok (.bipush 10, 2) := by decide +kernel
theorem dX8_init_125 : decode cX8_init 125 = .ok (.putfield 65, 3) := by decide +kernel
theorem dX8_init_128 : decode cX8_init 128 = .ok (.aload_n 0, 1) := by decide +kernel
theorem dX8_init_129 : decode cX8_init 129 = .ok (.iconst (-1), 1) := by decide +kernel
theorem dX8_init_130 : decode cX8_init 130 = .ok (.putfield 68, 3) := by decide +kernel
theorem dX8_init_133 : decode cX8_init 133 = .ok (.aload_n 0, 1) := by decide +kernel
theorem dX8_init_134 : decode cX8_init 134 = .ok (.iconst (-1), 1) := by decide +kernel
theorem dX8_init_135 : decode cX8_init 135 = .ok (.putfield 71, 3) := by decide +kernel
theorem dX8_init_138 : decode cX8_init 138 = .ok (.aload_n 0, 1) := by decide +kernel
theorem dX8_init_139 : decode cX8_init 139 = .ok (.sipush 400, 3) := by decide +kernel
theorem dX8_init_142 : decode cX8_init 142 = .ok (.putfield 74, 3) := by decide +kernel
theorem dX8_init_145 : decode cX8_init 145 = .ok (.aload_n 0, 1) := by decide +kernel
theorem dX8_init_146 : decode cX8_init 146 = .ok (.iconst 5, 1) := by decide +kernel
theorem dX8_init_147 : decode cX8_init 147 = .ok (.newarray .int, 2) := by decide +kernel
theorem dX8_init_149 : decode cX8_init 149 = .ok (.putfield 77, 3) := by decide +kernel
theorem dX8_init_152 : decode cX8_init 152 = .ok (.aload_n 0, 1) := by decide +kernel
theorem dX8_init_153 : decode cX8_init 153 = .ok (.iconst 5, 1) := by decide +kernel
theorem dX8_init_154 : decode cX8_init 154 = .ok (.newarray .int, 2) := by decide +kernel
theorem dX8_init_156 : decode cX8_init 156 = .ok (.putfield 80, 3) := by decide +kernel
theorem dX8_init_159 : decode cX8_init 159 = .ok (.aload_n 0, 1) := by decide +kernel
theorem dX8_init_160 : decode cX8_init 160 = .ok (.iconst 5, 1) := by decide +kernel
theorem dX8_init_161 : decode cX8_init 161 = .ok (.newarray .int, 2) := by decide +kernel
theorem dX8_init_163 : decode cX8_init 163 = .ok (.putfield 83, 3) := by decide +kernel
theorem dX8_init_166 : decode cX8_init 166 = .ok (.aload_n 0, 1) := by decide +kernel
theorem dX8_init_167 : decode cX8_init 167 = .ok (.bipush 24, 2) := by decide +kernel
theorem dX8_init_169 : decode cX8_init 169 = .ok (.newarray .int, 2) := by decide +kernel
theorem dX8_init_171 : decode cX8_init 171 = .ok (.putfield 86, 3) := by decide +kernel
theorem dX8_init_174 : decode cX8_init 174 = .ok (.aload_n 0, 1) := by decide +kernel
theorem dX8_init_175 : decode cX8_init 175 = .ok (.bipush 24, 2) := by decide +kernel
theorem dX8_init_177 : decode cX8_init 177 = .ok (.newarray .int, 2) := by decide +kernel
theorem dX8_init_179 : decode cX8_init 179 = .ok (.putfield 89, 3) := by decide +kernel
theorem dX8_init_182 : decode cX8_init 182 = .ok (.aload_n 0, 1) := by decide +kernel
theorem dX8_init_183 : decode cX8_init 183 = .ok (.bipush 24, 2) := by decide +kernel
theorem dX8_init_185 : decode cX8_init 185 = .ok (.newarray .int, 2) := by decide +kernel
theorem dX8_init_187 : decode cX8_init 187 = .ok (.putfield 92, 3) := by decide +kernel
theorem dX8_init_190 : decode cX8_init 190 = .ok (.aload_n 0, 1) := by decide +kernel
theorem dX8_init_191 : decode cX8_init 191 = .ok (.bipush 24, 2) := by decide +kernel
theorem dX8_init_193 : decode cX8_init 193 = .ok (.newarray .char, 2) := by decide +kernel
theorem dX8_init_195 : decode cX8_init 195 = .ok (.putfield 95, 3) := by decide +kernel
theorem dX8_init_198 : decode cX8_init 198 = .ok (.aload_n 0, 1) := by decide +kernel
theorem dX8_init_199 : decode cX8_init 199 = .ok (.bipush 12, 2) := by decide +kernel
theorem dX8_init_201 : decode cX8_init 201 = .ok (.newarray .int, 2) := by decide +kernel
theorem dX8_init_203 : decode cX8_init 203 = .ok (.putfield 98, 3) := by decide +kernel
theorem dX8_init_206 : decode cX8_init 206 = .ok (.aload_n 0, 1) := by decide +kernel
theorem dX8_init_207 : decode cX8_init 207 = .ok (.bipush 12, 2) := by decide +kernel
theorem dX8_init_209 : decode cX8_init 209 = .ok (.newarray .int, 2) := by decide +kernel
theorem dX8_init_211 : decode cX8_init 211 = .ok (.putfield 101, 3) := by decide +kernel
theorem dX8_init_214 : decode cX8_init 214 = .ok (.aload_n 0, 1) := by decide +kernel
theorem dX8_init_215 : decode cX8_init 215 = .ok (.bipush 12, 2) := by decide +kernel
theorem dX8_init_217 : decode cX8_init 217 = .ok (.newarray .int, 2) := by decide +kernel
theorem dX8_init_219 : decode cX8_init 219 = .ok (.putfield 104, 3) := by decide +kernel
theorem dX8_init_222 : decode cX8_init 222 = .ok (.aload_n 0, 1) := by decide +kernel
theorem dX8_init_223 : decode cX8_init 223 = .ok (.bipush 12, 2) := by decide +kernel
theorem dX8_init_225 : decode cX8_init 225 = .ok (.newarray .int, 2) := by decide +kernel
theorem dX8_init_227 : decode cX8_init 227 = .ok (.putfield 107, 3) := by decide +kernel
theorem dX8_init_230 : decode cX8_init 230 = .ok (.aload_n 0, 1) := by decide +kernel
theorem dX8_init_231 : decode cX8_init 231 = .ok (.bipush 12, 2) := by decide +kernel
theorem dX8_init_233 : decode cX8_init 233 = .ok (.newarray .char, 2) := by decide +kernel
theorem dX8_init_235 : decode cX8_init 235 = .ok (.putfield 110, 3) := by decide +kernel
theorem dX8_init_238 : decode cX8_init 238 = .ok (.aload_n 0, 1) := by decide +kernel
theorem dX8_init_239 : decode cX8_init 239 = .ok (.bipush 12, 2) := by decide +kernel
theorem dX8_init_241 : decode cX8_init 241 = .ok (.newarray .int, 2) := by decide +kernel
theorem dX8_init_243 : decode cX8_init 243 = .ok (.putfield 113, 3) := by decide +kernel
theorem dX8_init_246 : decode cX8_init 246 = .ok (.return_, 1) := by decide +kernel
theorem dX8_thrown_0 : decode cX8_thrown 0 = .ok (.aload_n 0, 1) := by decide +kernel
theorem dX8_thrown_1 : decode cX8_thrown 1 = .ok (.getfield 116, 3) := by decide +kernel
theorem dX8_thrown_4 : decode cX8_thrown 4 = .ok (.ireturn, 1) := by decide +kernel
theorem dX8_raises_0 : decode cX8_raises 0 = .ok (.aload_n 0, 1) := by decide +kernel
theorem dX8_raises_1 : decode cX8_raises 1 = .ok (.iload_n 1, 1) := by decide +kernel
theorem dX8_raises_2 : decode cX8_raises 2 = .ok (.putfield 116, 3) := by decide +kernel
theorem dX8_raises_5 : decode cX8_raises 5 = .ok (.iconst 0, 1) := by decide +kernel
theorem dX8_raises_6 : decode cX8_raises 6 = .ok (.ireturn, 1) := by decide +kernel
theorem dX8_in_0 : decode cX8_in 0 = .ok (.iload_n 0, 1) := by decide +kernel
theorem dX8_in_1 : decode cX8_in 1 = .ok (.iload_n 1, 1) := by decide +kernel
theorem dX8_in_2 : decode cX8_in 2 = .ok (.if_icmp .lt 12, 3) := by decide +kernel
theorem dX8_in_5 : decode cX8_in 5 = .ok (.iload_n 0, 1) := by decide +kernel
theorem dX8_in_6 : decode cX8_in 6 = .ok (.iload_n 2, 1) := by decide +kernel
theorem dX8_in_7 : decode cX8_in 7 = .ok (.if_icmp .gt 7, 3) := by decide +kernel
theorem dX8_in_10 : decode cX8_in 10 = .ok (.iconst 1, 1) := by decide +kernel
theorem dX8_in_11 : decode cX8_in 11 = .ok (.goto 4, 3) := by decide +kernel
theorem dX8_in_14 : decode cX8_in 14 = .ok (.iconst 0, 1) := by decide +kernel
theorem dX8_in_15 : decode cX8_in 15 = .ok (.ireturn, 1) := by decide +kernel
set_option maxRecDepth 20000 in
theorem ggX8_isRoom_X8_in : GoodIn wsX8_isRoom wsX8_in := goodIn_r _ [5] (by decide +kernel) (by decide +kernel)
set_option maxRecDepth 20000 in
theorem gX8_isRoom_X8_in : GoodIn wsX8_isRoom (va_wsS RX8 122 yX8_in wsX8_in) := goodIn_app (goodIn_of _ (by decide +kernel)) ggX8_isRoom_X8_in
theorem dX8_isRoom_0 : decode cX8_isRoom 0 = .ok (.iload_n 1, 1) := by decide +kernel
theorem dX8_isRoom_1 : decode cX8_isRoom 1 = .ok (.iconst 0, 1) := by decide +kernel
theorem dX8_isRoom_2 : decode cX8_isRoom 2 = .ok (.aload_n 0, 1) := by decide +kernel
theorem dX8_isRoom_3 : decode cX8_isRoom 3 = .ok (.getfield 119, 3) := by decide +kernel
theorem dX8_isRoom_6 : decode cX8_isRoom 6 = .ok (.iconst 1, 1) := by decide +kernel
theorem dX8_isRoom_7 : decode cX8_isRoom 7 = .ok (.isub, 1) := by decide +kernel
theorem dX8_isRoom_8 : decode cX8_isRoom 8 = .ok (.invokestatic 122, 3) := by decide +kernel
theorem dX8_isRoom_11 : decode cX8_isRoom 11 = .ok (.ireturn, 1) := by decide +kernel
set_option maxRecDepth 20000 in
theorem ggX8_isPallet_X8_in : GoodIn wsX8_isPallet wsX8_in := goodIn_r _ [5] (by decide +kernel) (by decide +kernel)
set_option maxRecDepth 20000 in
theorem gX8_isPallet_X8_in : GoodIn wsX8_isPallet (va_wsS RX8 122 yX8_in wsX8_in) := goodIn_app (goodIn_of _ (by decide +kernel)) ggX8_isPallet_X8_in
theorem dX8_isPallet_0 : decode cX8_isPallet 0 = .ok (.iload_n 1, 1) := by decide +kernel
theorem dX8_isPallet_1 : decode cX8_isPallet 1 = .ok (.iconst 0, 1) := by decide +kernel
theorem dX8_isPallet_2 : decode cX8_isPallet 2 = .ok (.aload_n 0, 1) := by decide +kernel
theorem dX8_isPallet_3 : decode cX8_isPallet 3 = .ok (.getfield 126, 3) := by decide +kernel
theorem dX8_isPallet_6 : decode cX8_isPallet 6 = .ok (.iconst 1, 1) := by decide +kernel
theorem dX8_isPallet_7 : decode cX8_isPallet 7 = .ok (.isub, 1) := by decide +kernel
theorem dX8_isPallet_8 : decode cX8_isPallet 8 = .ok (.invokestatic 122, 3) := by decide +kernel
theorem dX8_isPallet_11 : decode cX8_isPallet 11 = .ok (.ireturn, 1) := by decide +kernel
set_option maxRecDepth 20000 in
theorem ggX8_isOrder_X8_in : GoodIn wsX8_isOrder wsX8_in := goodIn_r _ [5] (by decide +kernel) (by decide +kernel)
set_option maxRecDepth 20000 in
theorem gX8_isOrder_X8_in : GoodIn wsX8_isOrder (va_wsS RX8 122 yX8_in wsX8_in) := goodIn_app (goodIn_of _ (by decide +kernel)) ggX8_isOrder_X8_in
theorem dX8_isOrder_0 : decode cX8_isOrder 0 = .ok (.iload_n 1, 1) := by decide +kernel
theorem dX8_isOrder_1 : decode cX8_isOrder 1 = .ok (.iconst 0, 1) := by decide +kernel
theorem dX8_isOrder_2 : decode cX8_isOrder 2 = .ok (.aload_n 0, 1) := by decide +kernel
theorem dX8_isOrder_3 : decode cX8_isOrder 3 = .ok (.getfield 129, 3) := by decide +kernel
theorem dX8_isOrder_6 : decode cX8_isOrder 6 = .ok (.iconst 1, 1) := by decide +kernel
theorem dX8_isOrder_7 : decode cX8_isOrder 7 = .ok (.isub, 1) := by decide +kernel
theorem dX8_isOrder_8 : decode cX8_isOrder 8 = .ok (.invokestatic 122, 3) := by decide +kernel
theorem dX8_isOrder_11 : decode cX8_isOrder 11 = .ok (.ireturn, 1) := by decide +kernel
theorem dX8_now_0 : decode cX8_now 0 = .ok (.aload_n 0, 1) := by decide +kernel
theorem dX8_now_1 : decode cX8_now 1 = .ok (.iconst 0, 1) := by decide +kernel
theorem dX8_now_2 : decode cX8_now 2 = .ok (.putfield 116, 3) := by decide +kernel
theorem dX8_now_5 : decode cX8_now 5 = .ok (.aload_n 0, 1) := by decide +kernel
theorem dX8_now_6 : decode cX8_now 6 = .ok (.getfield 132, 3) := by decide +kernel
theorem dX8_now_9 : decode cX8_now 9 = .ok (.ireturn, 1) := by decide +kernel
set_option maxRecDepth 20000 in
theorem ggX8_isPeak_X8_in : GoodIn wsX8_isPeak wsX8_in := goodIn_r _ [7] (by decide +kernel) (by decide +kernel)
set_option maxRecDepth 20000 in
theorem gX8_isPeak_X8_in : GoodIn wsX8_isPeak (va_wsS RX8 122 yX8_in wsX8_in) := goodIn_app (goodIn_of _ (by decide +kernel)) ggX8_isPeak_X8_in
theorem dX8_isPeak_0 : decode cX8_isPeak 0 = .ok (.aload_n 0, 1) := by decide +kernel
theorem dX8_isPeak_1 : decode cX8_isPeak 1 = .ok (.getfield 68, 3) := by decide +kernel
theorem dX8_isPeak_4 : decode cX8_isPeak 4 = .ok (.iconst (-1), 1) := by decide +kernel
theorem dX8_isPeak_5 : decode cX8_isPeak 5 = .ok (.if_icmp .eq 28, 3) := by decide +kernel
theorem dX8_isPeak_8 : decode cX8_isPeak 8 = .ok (.aload_n 0, 1) := by decide +kernel
theorem dX8_isPeak_9 : decode cX8_isPeak 9 = .ok (.getfield 132, 3) := by decide +kernel
theorem dX8_isPeak_12 : decode cX8_isPeak 12 = .ok (.bipush 96, 2) := by decide +kernel
theorem dX8_isPeak_14 : decode cX8_isPeak 14 = .ok (.irem, 1) := by decide +kernel
theorem dX8_isPeak_15 : decode cX8_isPeak 15 = .ok (.aload_n 0, 1) := by decide +kernel
theorem dX8_isPeak_16 : decode cX8_isPeak 16 = .ok (.getfield 68, 3) := by decide +kernel
theorem dX8_isPeak_19 : decode cX8_isPeak 19 = .ok (.aload_n 0, 1) := by decide +kernel
theorem dX8_isPeak_20 : decode cX8_isPeak 20 = .ok (.getfield 71, 3) := by decide +kernel
theorem dX8_isPeak_23 : decode cX8_isPeak 23 = .ok (.invokestatic 122, 3) := by decide +kernel
theorem dX8_isPeak_26 : decode cX8_isPeak 26 = .ok (.ifCond .eq 7, 3) := by decide +kernel
theorem dX8_isPeak_29 : decode cX8_isPeak 29 = .ok (.iconst 1, 1) := by decide +kernel
theorem dX8_isPeak_30 : decode cX8_isPeak 30 = .ok (.goto 4, 3) := by decide +kernel
theorem dX8_isPeak_33 : decode cX8_isPeak 33 = .ok (.iconst 0, 1) := by decide +kernel
theorem dX8_isPeak_34 : decode cX8_isPeak 34 = .ok (.ireturn, 1) := by decide +kernel
set_option maxRecDepth 20000 in
theorem ggX8_wishes_X8_isPeak : GoodIn wsX8_wishes wsX8_isPeak := goodIn_r _ [14, 4, 5, 15, 16, 17, 13, 18, 19, 20, 21, 22, 23, 24, 25, 26, 27, 28, 29, 30, 31, 32, 33, 34, 35, 36, 37, 38, 39, 40, 41, 42, 43, 44, 45, 46, 47, 48, 49, 50, 51, 52, 53, 54, 55, 56, 57, 58, 59, 60, 61, 62] (by decide +kernel) (by decide +kernel)
set_option maxRecDepth 20000 in
theorem gX8_wishes_X8_isPeak : GoodIn wsX8_wishes (wsV RX8 135 RX8 yX8_isPeak wsX8_isPeak) := goodIn_app (goodIn_of _ (by decide +kernel)) ggX8_wishes_X8_isPeak
set_option maxRecDepth 20000 in
theorem ggX8_wishes_X8_in : GoodIn wsX8_wishes wsX8_in := goodIn_r _ [18] (by decide +kernel) (by decide +kernel)
set_option maxRecDepth 20000 in
theorem gX8_wishes_X8_in : GoodIn wsX8_wishes (va_wsS RX8 122 yX8_in wsX8_in) := goodIn_app (goodIn_of _ (by decide +kernel)) ggX8_wishes_X8_in
theorem dX8_wishes_0 : decode cX8_wishes 0 = .ok (.aload_n 0, 1) := by decide +kernel
theorem dX8_wishes_1 : decode cX8_wishes 1 = .ok (.getfield 35, 3) := by decide +kernel
theorem dX8_wishes_4 : decode cX8_wishes 4 = .ok (.iload_n 1, 1) := by decide +kernel
theorem dX8_wishes_5 : decode cX8_wishes 5 = .ok (.caload, 1) := by decide +kernel
theorem dX8_wishes_6 : decode cX8_wishes 6 = .ok (.bipush 97, 2) := by decide +kernel
theorem dX8_wishes_8 : decode cX8_wishes 8 = .ok (.if_icmp .eq 26, 3) := by decide +kernel
theorem dX8_wishes_11 : decode cX8_wishes 11 = .ok (.aload_n 0, 1) := by decide +kernel
theorem dX8_wishes_12 : decode cX8_wishes 12 = .ok (.getfield 42, 3) := by decide +kernel
theorem dX8_wishes_15 : decode cX8_wishes 15 = .ok (.iload_n 1, 1) := by decide +kernel
theorem dX8_wishes_16 : decode cX8_wishes 16 = .ok (.aload_n 0, 1) := by decide +kernel
theorem dX8_wishes_17 : decode cX8_wishes 17 = .ok (.getfield 35, 3) := by decide +kernel
theorem dX8_wishes_20 : decode cX8_wishes 20 = .ok (.iload_n 1, 1) := by decide +kernel
theorem dX8_wishes_21 : decode cX8_wishes 21 = .ok (.caload, 1) := by decide +kernel
theorem dX8_wishes_22 : decode cX8_wishes 22 = .ok (.bipush 111, 2) := by decide +kernel
theorem dX8_wishes_24 : decode cX8_wishes 24 = .ok (.if_icmp .ne 7, 3) := by decide +kernel
theorem dX8_wishes_27 : decode cX8_wishes 27 = .ok (.iconst 1, 1) := by decide +kernel
theorem dX8_wishes_28 : decode cX8_wishes 28 = .ok (.goto 4, 3) := by decide +kernel
theorem dX8_wishes_31 : decode cX8_wishes 31 = .ok (.iconst 0, 1) := by decide +kernel
theorem dX8_wishes_32 : decode cX8_wishes 32 = .ok (.bastore, 1) := by decide +kernel
theorem dX8_wishes_33 : decode cX8_wishes 33 = .ok (.return_, 1) := by decide +kernel
theorem dX8_wishes_34 : decode cX8_wishes 34 = .ok (.iconst 0, 1) := by decide +kernel
theorem dX8_wishes_35 : decode cX8_wishes 35 = .ok (.istore_n 2, 1) := by decide +kernel
theorem dX8_wishes_36 : decode cX8_wishes 36 = .ok (.aload_n 0, 1) := by decide +kernel
theorem dX8_wishes_37 : decode cX8_wishes 37 = .ok (.invokevirtual 135, 3) := by decide +kernel
theorem dX8_wishes_40 : decode cX8_wishes 40 = .ok (.ifCond .eq 13, 3) := by decide +kernel
theorem dX8_wishes_43 : decode cX8_wishes 43 = .ok (.aload_n 0, 1) := by decide +kernel
theorem dX8_wishes_44 : decode cX8_wishes 44 = .ok (.getfield 32, 3) := by decide +kernel
theorem dX8_wishes_47 : decode cX8_wishes 47 = .ok (.iload_n 1, 1) := by decide +kernel
theorem dX8_wishes_48 : decode cX8_wishes 48 = .ok (.iaload, 1) := by decide +kernel
theorem dX8_wishes_49 : decode cX8_wishes 49 = .ok (.istore_n 2, 1) := by decide +kernel
theorem dX8_wishes_50 : decode cX8_wishes 50 = .ok (.goto 44, 3) := by decide +kernel
theorem dX8_wishes_53 : decode cX8_wishes 53 = .ok (.aload_n 0, 1) := by decide +kernel
theorem dX8_wishes_54 : decode cX8_wishes 54 = .ok (.getfield 68, 3) := by decide +kernel
theorem dX8_wishes_57 : decode cX8_wishes 57 = .ok (.iconst (-1), 1) := by decide +kernel
theorem dX8_wishes_58 : decode cX8_wishes 58 = .ok (.if_icmp .eq 36, 3) := by decide +kernel
theorem dX8_wishes_61 : decode cX8_wishes 61 = .ok (.aload_n 0, 1) := by decide +kernel
theorem dX8_wishes_62 : decode cX8_wishes 62 = .ok (.getfield 68, 3) := by decide +kernel
theorem dX8_wishes_65 : decode cX8_wishes 65 = .ok (.aload_n 0, 1) := by decide +kernel
theorem dX8_wishes_66 : decode cX8_wishes 66 = .ok (.getfield 132, 3) := by decide +kernel
theorem dX8_wishes_69 : decode cX8_wishes 69 = .ok (.bipush 96, 2) := by decide +kernel
theorem dX8_wishes_71 : decode cX8_wishes 71 = .ok (.irem, 1) := by decide +kernel
theorem dX8_wishes_72 : decode cX8_wishes 72 = .ok (.isub, 1) := by decide +kernel
theorem dX8_wishes_73 : decode cX8_wishes 73 = .ok (.iconst 1, 1) := by decide +kernel
theorem dX8_wishes_74 : decode cX8_wishes 74 = .ok (.aload_n 0, 1) := by decide +kernel
theorem dX8_wishes_75 : decode cX8_wishes 75 = .ok (.getfield 29, 3) := by decide +kernel
theorem dX8_wishes_78 : decode cX8_wishes 78 = .ok (.iload_n 1, 1) := by decide +kernel
theorem dX8_wishes_79 : decode cX8_wishes 79 = .ok (.iaload, 1) := by decide +kernel
theorem dX8_wishes_80 : decode cX8_wishes 80 = .ok (.invokestatic 122, 3) := by decide +kernel
theorem dX8_wishes_83 : decode cX8_wishes 83 = .ok (.ifCond .eq 11, 3) := by decide +kernel
theorem dX8_wishes_86 : decode cX8_wishes 86 = .ok (.aload_n 0, 1) := by decide +kernel
theorem dX8_wishes_87 : decode cX8_wishes 87 = .ok (.getfield 32, 3) := by decide +kernel
theorem dX8_wishes_90 : decode cX8_wishes 90 = .ok (.iload_n 1, 1) := by decide +kernel
theorem dX8_wishes_91 : decode cX8_wishes 91 = .ok (.iaload, 1) := by decide +kernel
theorem dX8_wishes_92 : decode cX8_wishes 92 = .ok (.ineg, 1) := by decide +kernel
theorem dX8_wishes_93 : decode cX8_wishes 93 = .ok (.istore_n 2, 1) := by decide +kernel
theorem dX8_wishes_94 : decode cX8_wishes 94 = .ok (.aload_n 0, 1) := by decide +kernel
theorem dX8_wishes_95 : decode cX8_wishes 95 = .ok (.getfield 39, 3) := by decide +kernel
theorem dX8_wishes_98 : decode cX8_wishes 98 = .ok (.iload_n 1, 1) := by decide +kernel
theorem dX8_wishes_99 : decode cX8_wishes 99 = .ok (.iaload, 1) := by decide +kernel
theorem dX8_wishes_100 : decode cX8_wishes 100 = .ok (.aload_n 0, 1) := by decide +kernel
theorem dX8_wishes_101 : decode cX8_wishes 101 = .ok (.getfield 26, 3) := by decide +kernel
theorem dX8_wishes_104 : decode cX8_wishes 104 = .ok (.iload_n 1, 1) := by decide +kernel
theorem dX8_wishes_105 : decode cX8_wishes 105 = .ok (.iaload, 1) := by decide +kernel
theorem dX8_wishes_106 : decode cX8_wishes 106 = .ok (.iload_n 2, 1) := by decide +kernel
theorem dX8_wishes_107 : decode cX8_wishes 107 = .ok (.iadd, 1) := by decide +kernel
theorem dX8_wishes_108 : decode cX8_wishes 108 = .ok (.if_icmp .le 13, 3) := by decide +kernel
theorem dX8_wishes_111 : decode cX8_wishes 111 = .ok (.aload_n 0, 1) := by decide +kernel
theorem dX8_wishes_112 : decode cX8_wishes 112 = .ok (.getfield 42, 3) := by decide +kernel
theorem dX8_wishes_115 : decode cX8_wishes 115 = .ok (.iload_n 1, 1) := by decide +kernel
theorem dX8_wishes_116 : decode cX8_wishes 116 = .ok (.iconst 1, 1) := by decide +kernel
theorem dX8_wishes_117 : decode cX8_wishes 117 = .ok (.bastore, 1) := by decide +kernel
theorem dX8_wishes_118 : decode cX8_wishes 118 = .ok (.goto 27, 3) := by decide +kernel
theorem dX8_wishes_121 : decode cX8_wishes 121 = .ok (.aload_n 0, 1) := by decide +kernel
theorem dX8_wishes_122 : decode cX8_wishes 122 = .ok (.getfield 39, 3) := by decide +kernel
theorem dX8_wishes_125 : decode cX8_wishes 125 = .ok (.iload_n 1, 1) := by decide +kernel
theorem dX8_wishes_126 : decode cX8_wishes 126 = .ok (.iaload, 1) := by decide +kernel
theorem dX8_wishes_127 : decode cX8_wishes 127 = .ok (.aload_n 0, 1) := by decide +kernel
theorem dX8_wishes_128 : decode cX8_wishes 128 = .ok (.getfield 23, 3) := by decide +kernel
theorem dX8_wishes_131 : decode cX8_wishes 131 = .ok (.iload_n 1, 1) := by decide +kernel
theorem dX8_wishes_132 : decode cX8_wishes 132 = .ok (.iaload, 1) := by decide +kernel
theorem dX8_wishes_133 : decode cX8_wishes 133 = .ok (.iload_n 2, 1) := by decide +kernel
theorem dX8_wishes_134 : decode cX8_wishes 134 = .ok (.iadd, 1) := by decide +kernel
theorem dX8_wishes_135 : decode cX8_wishes 135 = .ok (.if_icmp .gt 10, 3) := by decide +kernel
theorem dX8_wishes_138 : decode cX8_wishes 138 = .ok (.aload_n 0, 1) := by decide +kernel
theorem dX8_wishes_139 : decode cX8_wishes 139 = .ok (.getfield 42, 3) := by decide +kernel
theorem dX8_wishes_142 : decode cX8_wishes 142 = .ok (.iload_n 1, 1) := by decide +kernel
theorem dX8_wishes_143 : decode cX8_wishes 143 = .ok (.iconst 0, 1) := by decide +kernel
theorem dX8_wishes_144 : decode cX8_wishes 144 = .ok (.bastore, 1) := by decide +kernel
theorem dX8_wishes_145 : decode cX8_wishes 145 = .ok (.return_, 1) := by decide +kernel
theorem dX8_next_0 : decode cX8_next 0 = .ok (.iconst (-1), 1) := by decide +kernel
theorem dX8_next_1 : decode cX8_next 1 = .ok (.istore_n 1, 1) := by decide +kernel
theorem dX8_next_2 : decode cX8_next 2 = .ok (.iconst 0, 1) := by decide +kernel
theorem dX8_next_3 : decode cX8_next 3 = .ok (.istore_n 2, 1) := by decide +kernel
theorem dX8_next_4 : decode cX8_next 4 = .ok (.iload_n 2, 1) := by decide +kernel
theorem dX8_next_5 : decode cX8_next 5 = .ok (.aload_n 0, 1) := by decide +kernel
theorem dX8_next_6 : decode cX8_next 6 = .ok (.getfield 119, 3) := by decide +kernel
theorem dX8_next_9 : decode cX8_next 9 = .ok (.if_icmp .ge 77, 3) := by decide +kernel
theorem dX8_next_12 : decode cX8_next 12 = .ok (.aload_n 0, 1) := by decide +kernel
theorem dX8_next_13 : decode cX8_next 13 = .ok (.getfield 42, 3) := by decide +kernel
theorem dX8_next_16 : decode cX8_next 16 = .ok (.iload_n 2, 1) := by decide +kernel
theorem dX8_next_17 : decode cX8_next 17 = .ok (.baload, 1) := by decide +kernel
theorem dX8_next_18 : decode cX8_next 18 = .ok (.ifCond .eq 16, 3) := by decide +kernel
theorem dX8_next_21 : decode cX8_next 21 = .ok (.aload_n 0, 1) := by decide +kernel
theorem dX8_next_22 : decode cX8_next 22 = .ok (.getfield 49, 3) := by decide +kernel
theorem dX8_next_25 : decode cX8_next 25 = .ok (.iload_n 2, 1) := by decide +kernel
theorem dX8_next_26 : decode cX8_next 26 = .ok (.baload, 1) := by decide +kernel
theorem dX8_next_27 : decode cX8_next 27 = .ok (.ifCond .ne 7, 3) := by decide +kernel
theorem dX8_next_30 : decode cX8_next 30 = .ok (.iconst 1, 1) := by decide +kernel
theorem dX8_next_31 : decode cX8_next 31 = .ok (.goto 4, 3) := by decide +kernel
theorem dX8_next_34 : decode cX8_next 34 = .ok (.iconst 0, 1) := by decide +kernel
theorem dX8_next_35 : decode cX8_next 35 = .ok (.istore_n 3, 1) := by decide +kernel
theorem dX8_next_36 : decode cX8_next 36 = .ok (.iload_n 3, 1) := by decide +kernel
theorem dX8_next_37 : decode cX8_next 37 = .ok (.ifCond .eq 41, 3) := by decide +kernel
theorem dX8_next_40 : decode cX8_next 40 = .ok (.iload_n 1, 1) := by decide +kernel
theorem dX8_next_41 : decode cX8_next 41 = .ok (.iconst (-1), 1) := by decide +kernel
theorem dX8_next_42 : decode cX8_next 42 = .ok (.if_icmp .eq 32, 3) := by decide +kernel
theorem dX8_next_45 : decode cX8_next 45 = .ok (.aload_n 0, 1) := by decide +kernel
theorem dX8_next_46 : decode cX8_next 46 = .ok (.getfield 39, 3) := by decide +kernel
theorem dX8_next_49 : decode cX8_next 49 = .ok (.iload_n 2, 1) := by decide +kernel
theorem dX8_next_50 : decode cX8_next 50 = .ok (.iaload, 1) := by decide +kernel
theorem dX8_next_51 : decode cX8_next 51 = .ok (.aload_n 0, 1) := by decide +kernel
theorem dX8_next_52 : decode cX8_next 52 = .ok (.getfield 26, 3) := by decide +kernel
theorem dX8_next_55 : decode cX8_next 55 = .ok (.iload_n 2, 1) := by decide +kernel
theorem dX8_next_56 : decode cX8_next 56 = .ok (.iaload, 1) := by decide +kernel
theorem dX8_next_57 : decode cX8_next 57 = .ok (.isub, 1) := by decide +kernel
theorem dX8_next_58 : decode cX8_next 58 = .ok (.aload_n 0, 1) := by decide +kernel
theorem dX8_next_59 : decode cX8_next 59 = .ok (.getfield 39, 3) := by decide +kernel
theorem dX8_next_62 : decode cX8_next 62 = .ok (.iload_n 1, 1) := by decide +kernel
theorem dX8_next_63 : decode cX8_next 63 = .ok (.iaload, 1) := by decide +kernel
theorem dX8_next_64 : decode cX8_next 64 = .ok (.aload_n 0, 1) := by decide +kernel
theorem dX8_next_65 : decode cX8_next 65 = .ok (.getfield 26, 3) := by decide +kernel
theorem dX8_next_68 : decode cX8_next 68 = .ok (.iload_n 1, 1) := by decide +kernel
theorem dX8_next_69 : decode cX8_next 69 = .ok (.iaload, 1) := by decide +kernel
theorem dX8_next_70 : decode cX8_next 70 = .ok (.isub, 1) := by decide +kernel
theorem dX8_next_71 : decode cX8_next 71 = .ok (.if_icmp .le 7, 3) := by decide +kernel
theorem dX8_next_74 : decode cX8_next 74 = .ok (.iload_n 2, 1) := by decide +kernel
theorem dX8_next_75 : decode cX8_next 75 = .ok (.goto 4, 3) := by decide +kernel
theorem dX8_next_78 : decode cX8_next 78 = .ok (.iload_n 1, 1) := by decide +kernel
theorem dX8_next_79 : decode cX8_next 79 = .ok (.istore_n 1, 1) := by decide +kernel
theorem dX8_next_80 : decode cX8_next 80 = .ok (.iinc 2 1, 3) := by decide +kernel
theorem dX8_next_83 : decode cX8_next 83 = .ok (.goto (-79), 3) := by decide +kernel
theorem dX8_next_86 : decode cX8_next 86 = .ok (.iload_n 1, 1) := by decide +kernel
theorem dX8_next_87 : decode cX8_next 87 = .ok (.ireturn, 1) := by decide +kernel
set_option maxRecDepth 20000 in
theorem ggX8_powers_X8_next : GoodIn wsX8_powers wsX8_next := goodIn_ca (goodIn_r _ [11, 2, 12, 3, 13, 14, 15, 16, 17, 18, 19, 20, 21, 22, 23, 24, 25, 26, 27, 28, 29, 30, 31, 32, 33, 34, 35, 36, 37, 38, 39, 40, 41, 42, 43, 44, 45, 46, 47, 48, 49, 50, 51, 52, 53, 54, 55, 56, 57, 58] (by decide +kernel) (by decide +kernel)) (goodIn_sub (fun _ h => List.mem_cons_of_mem _ (List.mem_append_right _ h)) (by decide +kernel))
set_option maxRecDepth 20000 in
theorem gX8_powers_X8_next : GoodIn wsX8_powers (wsV RX8 142 RX8 yX8_next wsX8_next) := goodIn_app (goodIn_of _ (by decide +kernel)) ggX8_powers_X8_next
theorem dX8_powers_0 : decode cX8_powers 0 = .ok (.aload_n 0, 1) := by decide +kernel
theorem dX8_powers_1 : decode cX8_powers 1 = .ok (.iconst 0, 1) := by decide +kernel
theorem dX8_powers_2 : decode cX8_powers 2 = .ok (.putfield 139, 3) := by decide +kernel
theorem dX8_powers_5 : decode cX8_powers 5 = .ok (.iconst 0, 1) := by decide +kernel
theorem dX8_powers_6 : decode cX8_powers 6 = .ok (.istore_n 1, 1) := by decide +kernel
theorem dX8_powers_7 : decode cX8_powers 7 = .ok (.iload_n 1, 1) := by decide +kernel
theorem dX8_powers_8 : decode cX8_powers 8 = .ok (.aload_n 0, 1) := by decide +kernel
theorem dX8_powers_9 : decode cX8_powers 9 = .ok (.getfield 119, 3) := by decide +kernel
theorem dX8_powers_12 : decode cX8_powers 12 = .ok (.if_icmp .ge 23, 3) := by decide +kernel
theorem dX8_powers_15 : decode cX8_powers 15 = .ok (.aload_n 0, 1) := by decide +kernel
theorem dX8_powers_16 : decode cX8_powers 16 = .ok (.getfield 49, 3) := by decide +kernel
theorem dX8_powers_19 : decode cX8_powers 19 = .ok (.iload_n 1, 1) := by decide +kernel
theorem dX8_powers_20 : decode cX8_powers 20 = .ok (.iconst 0, 1) := by decide +kernel
theorem dX8_powers_21 : decode cX8_powers 21 = .ok (.bastore, 1) := by decide +kernel
theorem dX8_powers_22 : decode cX8_powers 22 = .ok (.aload_n 0, 1) := by decide +kernel
theorem dX8_powers_23 : decode cX8_powers 23 = .ok (.getfield 46, 3) := by decide +kernel
theorem dX8_powers_26 : decode cX8_powers 26 = .ok (.iload_n 1, 1) := by decide +kernel
theorem dX8_powers_27 : decode cX8_powers 27 = .ok (.iconst 0, 1) := by decide +kernel
theorem dX8_powers_28 : decode cX8_powers 28 = .ok (.bastore, 1) := by decide +kernel
theorem dX8_powers_29 : decode cX8_powers 29 = .ok (.iinc 1 1, 3) := by decide +kernel
theorem dX8_powers_32 : decode cX8_powers 32 = .ok (.goto (-25), 3) := by decide +kernel
theorem dX8_powers_35 : decode cX8_powers 35 = .ok (.aload_n 0, 1) := by decide +kernel
theorem dX8_powers_36 : decode cX8_powers 36 = .ok (.invokevirtual 142, 3) := by decide +kernel
theorem dX8_powers_39 : decode cX8_powers 39 = .ok (.istore_n 1, 1) := by decide +kernel
theorem dX8_powers_40 : decode cX8_powers 40 = .ok (.iload_n 1, 1) := by decide +kernel
theorem dX8_powers_41 : decode cX8_powers 41 = .ok (.iconst (-1), 1) := by decide +kernel
theorem dX8_powers_42 : decode cX8_powers 42 = .ok (.if_icmp .eq 75, 3) := by decide +kernel
theorem dX8_powers_45 : decode cX8_powers 45 = .ok (.aload_n 0, 1) := by decide +kernel
theorem dX8_powers_46 : decode cX8_powers 46 = .ok (.getfield 49, 3) := by decide +kernel
theorem dX8_powers_49 : decode cX8_powers 49 = .ok (.iload_n 1, 1) := by decide +kernel
theorem dX8_powers_50 : decode cX8_powers 50 = .ok (.iconst 1, 1) := by decide +kernel
theorem dX8_powers_51 : decode cX8_powers 51 = .ok (.bastore, 1) := by decide +kernel
theorem dX8_powers_52 : decode cX8_powers 52 = .ok (.aload_n 0, 1) := by decide +kernel
theorem dX8_powers_53 : decode cX8_powers 53 = .ok (.getfield 46, 3) := by decide +kernel
theorem dX8_powers_56 : decode cX8_powers 56 = .ok (.iload_n 1, 1) := by decide +kernel
theorem dX8_powers_57 : decode cX8_powers 57 = .ok (.aload_n 0, 1) := by decide +kernel
theorem dX8_powers_58 : decode cX8_powers 58 = .ok (.getfield 139, 3) := by decide +kernel
theorem dX8_powers_61 : decode cX8_powers 61 = .ok (.aload_n 0, 1) := by decide +kernel
theorem dX8_powers_62 : decode cX8_powers 62 = .ok (.getfield 20, 3) := by decide +kernel
theorem dX8_powers_65 : decode cX8_powers 65 = .ok (.iload_n 1, 1) := by decide +kernel
theorem dX8_powers_66 : decode cX8_powers 66 = .ok (.iaload, 1) := by decide +kernel
theorem dX8_powers_67 : decode cX8_powers 67 = .ok (.iadd, 1) := by decide +kernel
theorem dX8_powers_68 : decode cX8_powers 68 = .ok (.aload_n 0, 1) := by decide +kernel
theorem dX8_powers_69 : decode cX8_powers 69 = .ok (.getfield 74, 3) := by decide +kernel
theorem dX8_powers_72 : decode cX8_powers 72 = .ok (.if_icmp .gt 7, 3) := by decide +kernel
theorem dX8_powers_75 : decode cX8_powers 75 = .ok (.iconst 1, 1) := by decide +kernel
theorem dX8_powers_76 : decode cX8_powers 76 = .ok (.goto 4, 3) := by decide +kernel
theorem dX8_powers_79 : decode cX8_powers 79 = .ok (.iconst 0, 1) := by decide +kernel
theorem dX8_powers_80 : decode cX8_powers 80 = .ok (.bastore, 1) := by decide +kernel
theorem dX8_powers_81 : decode cX8_powers 81 = .ok (.aload_n 0, 1) := by decide +kernel
theorem dX8_powers_82 : decode cX8_powers 82 = .ok (.dup, 1) := by decide +kernel
theorem dX8_powers_83 : decode cX8_powers 83 = .ok (.getfield 139, 3) := by decide +kernel
theorem dX8_powers_86 : decode cX8_powers 86 = .ok (.aload_n 0, 1) := by decide +kernel
theorem dX8_powers_87 : decode cX8_powers 87 = .ok (.getfield 46, 3) := by decide +kernel
theorem dX8_powers_90 : decode cX8_powers 90 = .ok (.iload_n 1, 1) := by decide +kernel
theorem dX8_powers_91 : decode cX8_powers 91 = .ok (.baload, 1) := by decide +kernel
theorem dX8_powers_92 : decode cX8_powers 92 = .ok (.ifCond .eq 12, 3) := by decide +kernel
theorem dX8_powers_95 : decode cX8_powers 95 = .ok (.aload_n 0, 1) := by decide +kernel
theorem dX8_powers_96 : decode cX8_powers 96 = .ok (.getfield 20, 3) := by decide +kernel
theorem dX8_powers_99 : decode cX8_powers 99 = .ok (.iload_n 1, 1) := by decide +kernel
theorem dX8_powers_100 : decode cX8_powers 100 = .ok (.iaload, 1) := by decide +kernel
theorem dX8_powers_101 : decode cX8_powers 101 = .ok (.goto 4, 3) := by decide +kernel
theorem dX8_powers_104 : decode cX8_powers 104 = .ok (.iconst 0, 1) := by decide +kernel
theorem dX8_powers_105 : decode cX8_powers 105 = .ok (.iadd, 1) := by decide +kernel
theorem dX8_powers_106 : decode cX8_powers 106 = .ok (.putfield 139, 3) := by decide +kernel
theorem dX8_powers_109 : decode cX8_powers 109 = .ok (.aload_n 0, 1) := by decide +kernel
theorem dX8_powers_110 : decode cX8_powers 110 = .ok (.invokevirtual 142, 3) := by decide +kernel
theorem dX8_powers_113 : decode cX8_powers 113 = .ok (.istore_n 1, 1) := by decide +kernel
theorem dX8_powers_114 : decode cX8_powers 114 = .ok (.goto (-74), 3) := by decide +kernel
theorem dX8_powers_117 : decode cX8_powers 117 = .ok (.return_, 1) := by decide +kernel
theorem dX8_warms_0 : decode cX8_warms 0 = .ok (.iconst 0, 1) := by decide +kernel
theorem dX8_warms_1 : decode cX8_warms 1 = .ok (.istore_n 1, 1) := by decide +kernel
theorem dX8_warms_2 : decode cX8_warms 2 = .ok (.iload_n 1, 1) := by decide +kernel
theorem dX8_warms_3 : decode cX8_warms 3 = .ok (.aload_n 0, 1) := by decide +kernel
theorem dX8_warms_4 : decode cX8_warms 4 = .ok (.getfield 119, 3) := by decide +kernel
theorem dX8_warms_7 : decode cX8_warms 7 = .ok (.if_icmp .ge 148, 3) := by decide +kernel
theorem dX8_warms_10 : decode cX8_warms 10 = .ok (.aload_n 0, 1) := by decide +kernel
theorem dX8_warms_11 : decode cX8_warms 11 = .ok (.getfield 39, 3) := by decide +kernel
theorem dX8_warms_14 : decode cX8_warms 14 = .ok (.iload_n 1, 1) := by decide +kernel
theorem dX8_warms_15 : decode cX8_warms 15 = .ok (.dup2, 1) := by decide +kernel
theorem dX8_warms_16 : decode cX8_warms 16 = .ok (.iaload, 1) := by decide +kernel
theorem dX8_warms_17 : decode cX8_warms 17 = .ok (.aload_n 0, 1) := by decide +kernel
theorem dX8_warms_18 : decode cX8_warms 18 = .ok (.getfield 7, 3) := by decide +kernel
theorem dX8_warms_21 : decode cX8_warms 21 = .ok (.aload_n 0, 1) := by decide +kernel
theorem dX8_warms_22 : decode cX8_warms 22 = .ok (.getfield 39, 3) := by decide +kernel
theorem dX8_warms_25 : decode cX8_warms 25 = .ok (.iload_n 1, 1) := by decide +kernel
theorem dX8_warms_26 : decode cX8_warms 26 = .ok (.iaload, 1) := by decide +kernel
theorem dX8_warms_27 : decode cX8_warms 27 = .ok (.isub, 1) := by decide +kernel
theorem dX8_warms_28 : decode cX8_warms 28 = .ok (.aload_n 0, 1) := by decide +kernel
theorem dX8_warms_29 : decode cX8_warms 29 = .ok (.getfield 13, 3) := by decide +kernel
theorem dX8_warms_32 : decode cX8_warms 32 = .ok (.iload_n 1, 1) := by decide +kernel
theorem dX8_warms_33 : decode cX8_warms 33 = .ok (.iaload, 1) := by decide +kernel
theorem dX8_warms_34 : decode cX8_warms 34 = .ok (.imul, 1) := by decide +kernel
theorem dX8_warms_35 : decode cX8_warms 35 = .ok (.bipush 100, 2) := by decide +kernel
theorem dX8_warms_37 : decode cX8_warms 37 = .ok (.idiv, 1) := by decide +kernel
theorem dX8_warms_38 : decode cX8_warms 38 = .ok (.aload_n 0, 1) := by decide +kernel
theorem dX8_warms_39 : decode cX8_warms 39 = .ok (.getfield 46, 3) := by decide +kernel
theorem dX8_warms_42 : decode cX8_warms 42 = .ok (.iload_n 1, 1) := by decide +kernel
theorem dX8_warms_43 : decode cX8_warms 43 = .ok (.baload, 1) := by decide +kernel
theorem dX8_warms_44 : decode cX8_warms 44 = .ok (.ifCond .eq 12, 3) := by decide +kernel
theorem dX8_warms_47 : decode cX8_warms 47 = .ok (.aload_n 0, 1) := by decide +kernel
theorem dX8_warms_48 : decode cX8_warms 48 = .ok (.getfield 17, 3) := by decide +kernel
theorem dX8_warms_51 : decode cX8_warms 51 = .ok (.iload_n 1, 1) := by decide +kernel
theorem dX8_warms_52 : decode cX8_warms 52 = .ok (.iaload, 1) := by decide +kernel
theorem dX8_warms_53 : decode cX8_warms 53 = .ok (.goto 4, 3) := by decide +kernel
theorem dX8_warms_56 : decode cX8_warms 56 = .ok (.iconst 0, 1) := by decide +kernel
theorem dX8_warms_57 : decode cX8_warms 57 = .ok (.isub, 1) := by decide +kernel
theorem dX8_warms_58 : decode cX8_warms 58 = .ok (.iadd, 1) := by decide +kernel
theorem dX8_warms_59 : decode cX8_warms 59 = .ok (.iastore, 1) := by decide +kernel
theorem dX8_warms_60 : decode cX8_warms 60 = .ok (.aload_n 0, 1) := by decide +kernel
theorem dX8_warms_61 : decode cX8_warms 61 = .ok (.getfield 39, 3) := by decide +kernel
theorem dX8_warms_64 : decode cX8_warms 64 = .ok (.iload_n 1, 1) := by decide +kernel
theorem dX8_warms_65 : decode cX8_warms 65 = .ok (.sipush (-400), 3) := by decide +kernel
theorem dX8_warms_68 : decode cX8_warms 68 = .ok (.aload_n 0, 1) := by decide +kernel
theorem dX8_warms_69 : decode cX8_warms 69 = .ok (.getfield 39, 3) := by decide +kernel
theorem dX8_warms_72 : decode cX8_warms 72 = .ok (.iload_n 1, 1) := by decide +kernel
theorem dX8_warms_73 : decode cX8_warms 73 = .ok (.iaload, 1) := by decide +kernel
theorem dX8_warms_74 : decode cX8_warms 74 = .ok (.invokestatic 146, 3) := by decide +kernel
theorem dX8_warms_77 : decode cX8_warms 77 = .ok (.iastore, 1) := by decide +kernel
theorem dX8_warms_78 : decode cX8_warms 78 = .ok (.aload_n 0, 1) := by decide +kernel
theorem dX8_warms_79 : decode cX8_warms 79 = .ok (.getfield 52, 3) := by decide +kernel
theorem dX8_warms_82 : decode cX8_warms 82 = .ok (.iload_n 1, 1) := by decide +kernel
theorem dX8_warms_83 : decode cX8_warms 83 = .ok (.aload_n 0, 1) := by decide +kernel
theorem dX8_warms_84 : decode cX8_warms 84 = .ok (.getfield 59, 3) := by decide +kernel
theorem dX8_warms_87 : decode cX8_warms 87 = .ok (.iload_n 1, 1) := by decide +kernel
theorem dX8_warms_88 : decode cX8_warms 88 = .ok (.iaload, 1) := by decide +kernel
theorem dX8_warms_89 : decode cX8_warms 89 = .ok (.ifCond .eq 18, 3) := by decide +kernel
theorem dX8_warms_92 : decode cX8_warms 92 = .ok (.aload_n 0, 1) := by decide +kernel
theorem dX8_warms_93 : decode cX8_warms 93 = .ok (.getfield 39, 3) := by decide +kernel
theorem dX8_warms_96 : decode cX8_warms 96 = .ok (.iload_n 1, 1) := by decide +kernel
theorem dX8_warms_97 : decode cX8_warms 97 = .ok (.iaload, 1) := by decide +kernel
theorem dX8_warms_98 : decode cX8_warms 98 = .ok (.aload_n 0, 1) := by decide +kernel
theorem dX8_warms_99 : decode cX8_warms 99 = .ok (.getfield 52, 3) := by decide +kernel
theorem dX8_warms_102 : decode cX8_warms 102 = .ok (.iload_n 1, 1) := by decide +kernel
theorem dX8_warms_103 : decode cX8_warms 103 = .ok (.iaload, 1) := by decide +kernel
theorem dX8_warms_104 : decode cX8_warms 104 = .ok (.if_icmp .le 12, 3) := by decide +kernel
theorem dX8_warms_107 : decode cX8_warms 107 = .ok (.aload_n 0, 1) := by decide +kernel
theorem dX8_warms_108 : decode cX8_warms 108 = .ok (.getfield 39, 3) := by decide +kernel
theorem dX8_warms_111 : decode cX8_warms 111 = .ok (.iload_n 1, 1) := by decide +kernel
theorem dX8_warms_112 : decode cX8_warms 112 = .ok (.iaload, 1) := by decide +kernel
theorem dX8_warms_113 : decode cX8_warms 113 = .ok (.goto 9, 3) := by decide +kernel
theorem dX8_warms_116 : decode cX8_warms 116 = .ok (.aload_n 0, 1) := by decide +kernel
theorem dX8_warms_117 : decode cX8_warms 117 = .ok (.getfield 52, 3) := by decide +kernel
theorem dX8_warms_120 : decode cX8_warms 120 = .ok (.iload_n 1, 1) := by decide +kernel
theorem dX8_warms_121 : decode cX8_warms 121 = .ok (.iaload, 1) := by decide +kernel
theorem dX8_warms_122 : decode cX8_warms 122 = .ok (.iastore, 1) := by decide +kernel
theorem dX8_warms_123 : decode cX8_warms 123 = .ok (.aload_n 0, 1) := by decide +kernel
theorem dX8_warms_124 : decode cX8_warms 124 = .ok (.getfield 55, 3) := by decide +kernel
theorem dX8_warms_127 : decode cX8_warms 127 = .ok (.iload_n 1, 1) := by decide +kernel
theorem dX8_warms_128 : decode cX8_warms 128 = .ok (.dup2, 1) := by decide +kernel
theorem dX8_warms_129 : decode cX8_warms 129 = .ok (.laload, 1) := by decide +kernel
theorem dX8_warms_130 : decode cX8_warms 130 = .ok (.aload_n 0, 1) := by decide +kernel
theorem dX8_warms_131 : decode cX8_warms 131 = .ok (.getfield 39, 3) := by decide +kernel
theorem dX8_warms_134 : decode cX8_warms 134 = .ok (.iload_n 1, 1) := by decide +kernel
theorem dX8_warms_135 : decode cX8_warms 135 = .ok (.iaload, 1) := by decide +kernel
theorem dX8_warms_136 : decode cX8_warms 136 = .ok (.i2l, 1) := by decide +kernel
theorem dX8_warms_137 : decode cX8_warms 137 = .ok (.ladd, 1) := by decide +kernel
theorem dX8_warms_138 : decode cX8_warms 138 = .ok (.lastore, 1) := by decide +kernel
theorem dX8_warms_139 : decode cX8_warms 139 = .ok (.aload_n 0, 1) := by decide +kernel
theorem dX8_warms_140 : decode cX8_warms 140 = .ok (.getfield 59, 3) := by decide +kernel
theorem dX8_warms_143 : decode cX8_warms 143 = .ok (.iload_n 1, 1) := by decide +kernel
theorem dX8_warms_144 : decode cX8_warms 144 = .ok (.dup2, 1) := by decide +kernel
theorem dX8_warms_145 : decode cX8_warms 145 = .ok (.iaload, 1) := by decide +kernel
theorem dX8_warms_146 : decode cX8_warms 146 = .ok (.iconst 1, 1) := by decide +kernel
theorem dX8_warms_147 : decode cX8_warms 147 = .ok (.iadd, 1) := by decide +kernel
theorem dX8_warms_148 : decode cX8_warms 148 = .ok (.iastore, 1) := by decide +kernel
theorem dX8_warms_149 : decode cX8_warms 149 = .ok (.iinc 1 1, 3) := by decide +kernel
theorem dX8_warms_152 : decode cX8_warms 152 = .ok (.goto (-150), 3) := by decide +kernel
theorem dX8_warms_155 : decode cX8_warms 155 = .ok (.return_, 1) := by decide +kernel
theorem dX8_loss_0 : decode cX8_loss 0 = .ok (.aload_n 0, 1) := by decide +kernel
theorem dX8_loss_1 : decode cX8_loss 1 = .ok (.getfield 86, 3) := by decide +kernel
theorem dX8_loss_4 : decode cX8_loss 4 = .ok (.iload_n 1, 1) := by decide +kernel
theorem dX8_loss_5 : decode cX8_loss 5 = .ok (.iaload, 1) := by decide +kernel
theorem dX8_loss_6 : decode cX8_loss 6 = .ok (.istore_n 3, 1) := by decide +kernel
theorem dX8_loss_7 : decode cX8_loss 7 = .ok (.iload_n 2, 1) := by decide +kernel
theorem dX8_loss_8 : decode cX8_loss 8 = .ok (.aload_n 0, 1) := by decide +kernel
theorem dX8_loss_9 : decode cX8_loss 9 = .ok (.getfield 83, 3) := by decide +kernel
theorem dX8_loss_12 : decode cX8_loss 12 = .ok (.iload_n 3, 1) := by decide +kernel
theorem dX8_loss_13 : decode cX8_loss 13 = .ok (.iaload, 1) := by decide +kernel
theorem dX8_loss_14 : decode cX8_loss 14 = .ok (.if_icmp .ge 6, 3) := by decide +kernel
theorem dX8_loss_17 : decode cX8_loss 17 = .ok (.bipush 10, 2) := by decide +kernel
theorem dX8_loss_19 : decode cX8_loss 19 = .ok (.ireturn, 1) := by decide +kernel
theorem dX8_loss_20 : decode cX8_loss 20 = .ok (.iconst 1, 1) := by decide +kernel
theorem dX8_loss_21 : decode cX8_loss 21 = .ok (.iconst 0, 1) := by decide +kernel
theorem dX8_loss_22 : decode cX8_loss 22 = .ok (.iload_n 2, 1) := by decide +kernel
theorem dX8_loss_23 : decode cX8_loss 23 = .ok (.aload_n 0, 1) := by decide +kernel
theorem dX8_loss_24 : decode cX8_loss 24 = .ok (.getfield 80, 3) := by decide +kernel
theorem dX8_loss_27 : decode cX8_loss 27 = .ok (.iload_n 3, 1) := by decide +kernel
theorem dX8_loss_28 : decode cX8_loss 28 = .ok (.iaload, 1) := by decide +kernel
theorem dX8_loss_29 : decode cX8_loss 29 = .ok (.isub, 1) := by decide +kernel
theorem dX8_loss_30 : decode cX8_loss 30 = .ok (.invokestatic 146, 3) := by decide +kernel
theorem dX8_loss_33 : decode cX8_loss 33 = .ok (.bipush 20, 2) := by decide +kernel
theorem dX8_loss_35 : decode cX8_loss 35 = .ok (.idiv, 1) := by decide +kernel
theorem dX8_loss_36 : decode cX8_loss 36 = .ok (.iadd, 1) := by decide +kernel
theorem dX8_loss_37 : decode cX8_loss 37 = .ok (.ireturn, 1) := by decide +kernel
set_option maxRecDepth 20000 in
theorem ggX8_tick_X8_wishes : GoodIn wsX8_tick wsX8_wishes := goodIn_ca (goodIn_r _ [25, 26, 27, 28, 29, 16, 30, 14, 31, 32, 33, 34, 35, 24, 36, 37, 38, 39, 40, 89, 90, 91, 92, 93, 94, 95, 96, 97, 98, 99, 100, 101, 102, 103, 104, 105, 106, 107, 108, 109, 110, 111, 112, 113, 114, 115, 116, 117, 118, 119, 120, 121, 122, 123, 124, 125, 126, 127, 128, 129, 130, 131, 132] (by decide +kernel) (by decide +kernel)) (goodIn_sub (fun _ h => List.mem_cons_of_mem _ (List.mem_append_right _ h)) (by decide +kernel))
set_option maxRecDepth 20000 in
theorem gX8_tick_X8_wishes : GoodIn wsX8_tick (wsV RX8 152 RX8 yX8_wishes wsX8_wishes) := goodIn_app (goodIn_of _ (by decide +kernel)) ggX8_tick_X8_wishes
set_option maxRecDepth 20000 in
theorem ggX8_tick_X8_powers : GoodIn wsX8_tick wsX8_powers := goodIn_ca (goodIn_r _ [44, 3, 1, 45, 46, 47, 48, 49, 50, 51, 24, 52, 27, 14, 31, 89, 90, 91, 92, 93, 94, 95, 96, 97, 98, 99, 100, 101, 102, 103, 104, 105, 106, 107, 108, 109, 110, 111, 112, 113, 114, 115, 116, 117, 118, 119, 120, 121, 122, 123, 124, 125, 126, 127, 128, 129, 130, 131, 132] (by decide +kernel) (by decide +kernel)) (goodIn_sub (fun _ h => List.mem_cons_of_mem _ (List.mem_append_right _ h)) (by decide +kernel))
set_option maxRecDepth 20000 in
theorem gX8_tick_X8_powers : GoodIn wsX8_tick (wsV RX8 156 RX8 yX8_powers wsX8_powers) := goodIn_app (goodIn_of _ (by decide +kernel)) ggX8_tick_X8_powers
set_option maxRecDepth 20000 in
theorem ggX8_tick_X8_warms : GoodIn wsX8_tick wsX8_warms := goodIn_ca (goodIn_r _ [56, 1, 14, 57, 58, 46, 59, 4, 5, 6, 7, 60, 61, 62, 89, 90, 91, 92, 93, 94, 95, 96, 97, 98, 99, 100, 101, 102, 103, 104, 105, 106, 107, 108, 109, 110, 111, 112, 113, 114, 115, 116, 117, 118, 119, 120, 121, 122, 123, 124, 125, 126, 127, 128, 129, 130, 131, 132] (by decide +kernel) (by decide +kernel)) (goodIn_sub (fun _ h => List.mem_cons_of_mem _ (List.mem_append_right _ h)) (by decide +kernel))
set_option maxRecDepth 20000 in
theorem gX8_tick_X8_warms : GoodIn wsX8_tick (wsV RX8 158 RX8 yX8_warms wsX8_warms) := goodIn_app (goodIn_of _ (by decide +kernel)) ggX8_tick_X8_warms
set_option maxRecDepth 20000 in
theorem ggX8_tick_X8_isPeak : GoodIn wsX8_tick wsX8_isPeak := goodIn_r _ [36, 29, 16, 37, 38, 39, 24, 40, 89, 90, 91, 92, 93, 94, 95, 96, 97, 98, 99, 100, 101, 102, 103, 104, 105, 106, 107, 108, 109, 110, 111, 112, 113, 114, 115, 116, 117, 118, 119, 120, 121, 122, 123, 124, 125, 126, 127, 128, 129, 130, 131, 132] (by decide +kernel) (by decide +kernel)
set_option maxRecDepth 20000 in
theorem gX8_tick_X8_isPeak : GoodIn wsX8_tick (wsV RX8 135 RX8 yX8_isPeak wsX8_isPeak) := goodIn_app (goodIn_of _ (by decide +kernel)) ggX8_tick_X8_isPeak
set_option maxRecDepth 20000 in
theorem ggX8_tick_X8_loss : GoodIn wsX8_tick wsX8_loss := goodIn_ca (goodIn_r _ [66, 67, 68, 69, 4, 5, 6, 7, 89, 90, 91, 92, 93, 94, 95, 96, 97, 98, 99, 100, 101, 102, 103, 104, 105, 106, 107, 108, 109, 110, 111, 112, 113, 114, 115, 116, 117, 118, 119, 120, 121, 122, 123, 124, 125, 126, 127, 128, 129, 130, 131, 132] (by decide +kernel) (by decide +kernel)) (goodIn_sub (fun _ h => List.mem_cons_of_mem _ (List.mem_append_right _ h)) (by decide +kernel))
set_option maxRecDepth 20000 in
theorem gX8_tick_X8_loss : GoodIn wsX8_tick (wsV RX8 168 RX8 yX8_loss wsX8_loss) := goodIn_app (goodIn_of _ (by decide +kernel)) ggX8_tick_X8_loss
set_option maxRecDepth 20000 in
theorem ggX8_tick_X8_candidatesOf : GoodIn wsX8_tick wsX8_candidatesOf := goodIn_ca (goodIn_r _ [73, 11, 74, 75, 76, 24, 77, 13, 67, 78, 12, 79, 89, 90, 91, 92, 93, 94, 95, 96, 97, 98, 99, 100, 101, 102, 103, 104, 105, 106, 107, 108, 109, 110, 111, 112, 113, 114, 115, 116, 117, 118, 119, 120, 121, 122, 123, 124, 125, 126, 127, 128, 129, 130, 131, 132] (by decide +kernel) (by decide +kernel)) (goodIn_sub (fun _ h => List.mem_cons_of_mem _ (List.mem_append_right _ h)) (by decide +kernel))
set_option maxRecDepth 20000 in
theorem gX8_tick_X8_candidatesOf : GoodIn wsX8_tick (wsV RX8 171 RX8 yX8_candidatesOf wsX8_candidatesOf) := goodIn_app (goodIn_of _ (by decide +kernel)) ggX8_tick_X8_candidatesOf
set_option maxRecDepth 20000 in
theorem ggX8_tick_X8_ships : GoodIn wsX8_tick wsX8_ships := goodIn_ca (goodIn_r _ [83, 84, 12, 20, 13, 18, 85, 86, 87, 24, 88, 11, 74, 75, 76, 77, 67, 78, 79, 89, 90, 91, 92, 93, 94, 95, 96, 97, 98, 99, 100, 101, 102, 103, 104, 105, 106, 107, 108, 109, 110, 111, 112, 113, 114, 115, 116, 117, 118, 119, 120, 121, 122, 123, 124, 125, 126, 127, 128, 129, 130, 131, 132] (by decide +kernel) (by decide +kernel)) (goodIn_sub (fun _ h => List.mem_cons_of_mem _ (List.mem_append_right _ h)) (by decide +kernel))
set_option maxRecDepth 20000 in
theorem gX8_tick_X8_ships : GoodIn wsX8_tick (wsV RX8 175 RX8 yX8_ships wsX8_ships) := goodIn_app (goodIn_of _ (by decide +kernel)) ggX8_tick_X8_ships
theorem dX8_tick_0 : decode cX8_tick 0 = .ok (.iconst 0, 1) := by decide +kernel
theorem dX8_tick_1 : decode cX8_tick 1 = .ok (.istore_n 1, 1) := by decide +kernel
theorem dX8_tick_2 : decode cX8_tick 2 = .ok (.iload_n 1, 1) := by decide +kernel
theorem dX8_tick_3 : decode cX8_tick 3 = .ok (.aload_n 0, 1) := by decide +kernel
theorem dX8_tick_4 : decode cX8_tick 4 = .ok (.getfield 119, 3) := by decide +kernel
theorem dX8_tick_7 : decode cX8_tick 7 = .ok (.if_icmp .ge 14, 3) := by decide +kernel
theorem dX8_tick_10 : decode cX8_tick 10 = .ok (.aload_n 0, 1) := by decide +kernel
theorem dX8_tick_11 : decode cX8_tick 11 = .ok (.iload_n 1, 1) := by decide +kernel
theorem dX8_tick_12 : decode cX8_tick 12 = .ok (.invokevirtual 152, 3) := by decide +kernel
theorem dX8_tick_15 : decode cX8_tick 15 = .ok (.iinc 1 1, 3) := by decide +kernel
theorem dX8_tick_18 : decode cX8_tick 18 = .ok (.goto (-16), 3) := by decide +kernel
theorem dX8_tick_21 : decode cX8_tick 21 = .ok (.aload_n 0, 1) := by decide +kernel
theorem dX8_tick_22 : decode cX8_tick 22 = .ok (.invokevirtual 156, 3) := by decide +kernel
theorem dX8_tick_25 : decode cX8_tick 25 = .ok (.aload_n 0, 1) := by decide +kernel
theorem dX8_tick_26 : decode cX8_tick 26 = .ok (.invokevirtual 158, 3) := by decide +kernel
theorem dX8_tick_29 : decode cX8_tick 29 = .ok (.aload_n 0, 1) := by decide +kernel
theorem dX8_tick_30 : decode cX8_tick 30 = .ok (.aload_n 0, 1) := by decide +kernel
theorem dX8_tick_31 : decode cX8_tick 31 = .ok (.getfield 161, 3) := by decide +kernel
theorem dX8_tick_34 : decode cX8_tick 34 = .ok (.aload_n 0, 1) := by decide +kernel
theorem dX8_tick_35 : decode cX8_tick 35 = .ok (.getfield 139, 3) := by decide +kernel
theorem dX8_tick_38 : decode cX8_tick 38 = .ok (.invokestatic 146, 3) := by decide +kernel
theorem dX8_tick_41 : decode cX8_tick 41 = .ok (.putfield 161, 3) := by decide +kernel
theorem dX8_tick_44 : decode cX8_tick 44 = .ok (.aload_n 0, 1) := by decide +kernel
theorem dX8_tick_45 : decode cX8_tick 45 = .ok (.dup, 1) := by decide +kernel
theorem dX8_tick_46 : decode cX8_tick 46 = .ok (.getfield 164, 3) := by decide +kernel
theorem dX8_tick_49 : decode cX8_tick 49 = .ok (.aload_n 0, 1) := by decide +kernel
theorem dX8_tick_50 : decode cX8_tick 50 = .ok (.getfield 139, 3) := by decide +kernel
theorem dX8_tick_53 : decode cX8_tick 53 = .ok (.i2l, 1) := by decide +kernel
theorem dX8_tick_54 : decode cX8_tick 54 = .ok (.aload_n 0, 1) := by decide +kernel
theorem dX8_tick_55 : decode cX8_tick 55 = .ok (.invokevirtual 135, 3) := by decide +kernel
theorem dX8_tick_58 : decode cX8_tick 58 = .ok (.ifCond .eq 10, 3) := by decide +kernel
theorem dX8_tick_61 : decode cX8_tick 61 = .ok (.aload_n 0, 1) := by decide +kernel
theorem dX8_tick_62 : decode cX8_tick 62 = .ok (.getfield 65, 3) := by decide +kernel
theorem dX8_tick_65 : decode cX8_tick 65 = .ok (.goto 7, 3) := by decide +kernel
theorem dX8_tick_68 : decode cX8_tick 68 = .ok (.aload_n 0, 1) := by decide +kernel
theorem dX8_tick_69 : decode cX8_tick 69 = .ok (.getfield 62, 3) := by decide +kernel
theorem dX8_tick_72 : decode cX8_tick 72 = .ok (.i2l, 1) := by decide +kernel
theorem dX8_tick_73 : decode cX8_tick 73 = .ok (.lmul, 1) := by decide +kernel
theorem dX8_tick_74 : decode cX8_tick 74 = .ok (.ladd, 1) := by decide +kernel
theorem dX8_tick_75 : decode cX8_tick 75 = .ok (.putfield 164, 3) := by decide +kernel
theorem dX8_tick_78 : decode cX8_tick 78 = .ok (.iconst 0, 1) := by decide +kernel
theorem dX8_tick_79 : decode cX8_tick 79 = .ok (.istore_n 1, 1) := by decide +kernel
theorem dX8_tick_80 : decode cX8_tick 80 = .ok (.iload_n 1, 1) := by decide +kernel
theorem dX8_tick_81 : decode cX8_tick 81 = .ok (.aload_n 0, 1) := by decide +kernel
theorem dX8_tick_82 : decode cX8_tick 82 = .ok (.getfield 126, 3) := by decide +kernel
theorem dX8_tick_85 : decode cX8_tick 85 = .ok (.if_icmp .ge 62, 3) := by decide +kernel
theorem dX8_tick_88 : decode cX8_tick 88 = .ok (.aload_n 0, 1) := by decide +kernel
theorem dX8_tick_89 : decode cX8_tick 89 = .ok (.getfield 92, 3) := by decide +kernel
theorem dX8_tick_92 : decode cX8_tick 92 = .ok (.iload_n 1, 1) := by decide +kernel
theorem dX8_tick_93 : decode cX8_tick 93 = .ok (.aload_n 0, 1) := by decide +kernel
theorem dX8_tick_94 : decode cX8_tick 94 = .ok (.getfield 95, 3) := by decide +kernel
theorem dX8_tick_97 : decode cX8_tick 97 = .ok (.iload_n 1, 1) := by decide +kernel
theorem dX8_tick_98 : decode cX8_tick 98 = .ok (.caload, 1) := by decide +kernel
theorem dX8_tick_99 : decode cX8_tick 99 = .ok (.bipush 114, 2) := by decide +kernel
theorem dX8_tick_101 : decode cX8_tick 101 = .ok (.if_icmp .ne 33, 3) := by decide +kernel
theorem dX8_tick_104 : decode cX8_tick 104 = .ok (.iconst 0, 1) := by decide +kernel
theorem dX8_tick_105 : decode cX8_tick 105 = .ok (.aload_n 0, 1) := by decide +kernel
theorem dX8_tick_106 : decode cX8_tick 106 = .ok (.getfield 92, 3) := by decide +kernel
theorem dX8_tick_109 : decode cX8_tick 109 = .ok (.iload_n 1, 1) := by decide +kernel
theorem dX8_tick_110 : decode cX8_tick 110 = .ok (.iaload, 1) := by decide +kernel
theorem dX8_tick_111 : decode cX8_tick 111 = .ok (.aload_n 0, 1) := by decide +kernel
theorem dX8_tick_112 : decode cX8_tick 112 = .ok (.iload_n 1, 1) := by decide +kernel
theorem dX8_tick_113 : decode cX8_tick 113 = .ok (.aload_n 0, 1) := by decide +kernel
theorem dX8_tick_114 : decode cX8_tick 114 = .ok (.getfield 39, 3) := by decide +kernel
theorem dX8_tick_117 : decode cX8_tick 117 = .ok (.aload_n 0, 1) := by decide +kernel
theorem dX8_tick_118 : decode cX8_tick 118 = .ok (.getfield 89, 3) := by decide +kernel
theorem dX8_tick_121 : decode cX8_tick 121 = .ok (.iload_n 1, 1) := by decide +kernel
theorem dX8_tick_122 : decode cX8_tick 122 = .ok (.iaload, 1) := by decide +kernel
theorem dX8_tick_123 : decode cX8_tick 123 = .ok (.iaload, 1) := by decide +kernel
theorem dX8_tick_124 : decode cX8_tick 124 = .ok (.invokevirtual 168, 3) := by decide +kernel
theorem dX8_tick_127 : decode cX8_tick 127 = .ok (.isub, 1) := by decide +kernel
theorem dX8_tick_128 : decode cX8_tick 128 = .ok (.invokestatic 146, 3) := by decide +kernel
theorem dX8_tick_131 : decode cX8_tick 131 = .ok (.goto 9, 3) := by decide +kernel
theorem dX8_tick_134 : decode cX8_tick 134 = .ok (.aload_n 0, 1) := by decide +kernel
theorem dX8_tick_135 : decode cX8_tick 135 = .ok (.getfield 92, 3) := by decide +kernel
theorem dX8_tick_138 : decode cX8_tick 138 = .ok (.iload_n 1, 1) := by decide +kernel
theorem dX8_tick_139 : decode cX8_tick 139 = .ok (.iaload, 1) := by decide +kernel
theorem dX8_tick_140 : decode cX8_tick 140 = .ok (.iastore, 1) := by decide +kernel
theorem dX8_tick_141 : decode cX8_tick 141 = .ok (.iinc 1 1, 3) := by decide +kernel
theorem dX8_tick_144 : decode cX8_tick 144 = .ok (.goto (-64), 3) := by decide +kernel
theorem dX8_tick_147 : decode cX8_tick 147 = .ok (.aload_n 0, 1) := by decide +kernel
theorem dX8_tick_148 : decode cX8_tick 148 = .ok (.dup, 1) := by decide +kernel
theorem dX8_tick_149 : decode cX8_tick 149 = .ok (.getfield 132, 3) := by decide +kernel
theorem dX8_tick_152 : decode cX8_tick 152 = .ok (.iconst 1, 1) := by decide +kernel
theorem dX8_tick_153 : decode cX8_tick 153 = .ok (.iadd, 1) := by decide +kernel
theorem dX8_tick_154 : decode cX8_tick 154 = .ok (.putfield 132, 3) := by decide +kernel
theorem dX8_tick_157 : decode cX8_tick 157 = .ok (.iconst 0, 1) := by decide +kernel
theorem dX8_tick_158 : decode cX8_tick 158 = .ok (.istore_n 1, 1) := by decide +kernel
theorem dX8_tick_159 : decode cX8_tick 159 = .ok (.iconst 0, 1) := by decide +kernel
theorem dX8_tick_160 : decode cX8_tick 160 = .ok (.istore_n 2, 1) := by decide +kernel
theorem dX8_tick_161 : decode cX8_tick 161 = .ok (.iload_n 2, 1) := by decide +kernel
theorem dX8_tick_162 : decode cX8_tick 162 = .ok (.aload_n 0, 1) := by decide +kernel
theorem dX8_tick_163 : decode cX8_tick 163 = .ok (.getfield 129, 3) := by decide +kernel
theorem dX8_tick_166 : decode cX8_tick 166 = .ok (.if_icmp .ge 67, 3) := by decide +kernel
theorem dX8_tick_169 : decode cX8_tick 169 = .ok (.aload_n 0, 1) := by decide +kernel
theorem dX8_tick_170 : decode cX8_tick 170 = .ok (.getfield 110, 3) := by decide +kernel
theorem dX8_tick_173 : decode cX8_tick 173 = .ok (.iload_n 2, 1) := by decide +kernel
theorem dX8_tick_174 : decode cX8_tick 174 = .ok (.caload, 1) := by decide +kernel
theorem dX8_tick_175 : decode cX8_tick 175 = .ok (.bipush 111, 2) := by decide +kernel
theorem dX8_tick_177 : decode cX8_tick 177 = .ok (.if_icmp .ne 50, 3) := by decide +kernel
theorem dX8_tick_180 : decode cX8_tick 180 = .ok (.aload_n 0, 1) := by decide +kernel
theorem dX8_tick_181 : decode cX8_tick 181 = .ok (.getfield 107, 3) := by decide +kernel
theorem dX8_tick_184 : decode cX8_tick 184 = .ok (.iload_n 2, 1) := by decide +kernel
theorem dX8_tick_185 : decode cX8_tick 185 = .ok (.iaload, 1) := by decide +kernel
theorem dX8_tick_186 : decode cX8_tick 186 = .ok (.aload_n 0, 1) := by decide +kernel
theorem dX8_tick_187 : decode cX8_tick 187 = .ok (.getfield 132, 3) := by decide +kernel
theorem dX8_tick_190 : decode cX8_tick 190 = .ok (.if_icmp .ne 37, 3) := by decide +kernel
theorem dX8_tick_193 : decode cX8_tick 193 = .ok (.aload_n 0, 1) := by decide +kernel
theorem dX8_tick_194 : decode cX8_tick 194 = .ok (.iload_n 2, 1) := by decide +kernel
theorem dX8_tick_195 : decode cX8_tick 195 = .ok (.invokevirtual 171, 3) := by decide +kernel
theorem dX8_tick_198 : decode cX8_tick 198 = .ok (.aload_n 0, 1) := by decide +kernel
theorem dX8_tick_199 : decode cX8_tick 199 = .ok (.getfield 101, 3) := by decide +kernel
theorem dX8_tick_202 : decode cX8_tick 202 = .ok (.iload_n 2, 1) := by decide +kernel
theorem dX8_tick_203 : decode cX8_tick 203 = .ok (.iaload, 1) := by decide +kernel
theorem dX8_tick_204 : decode cX8_tick 204 = .ok (.if_icmp .lt 15, 3) := by decide +kernel
theorem dX8_tick_207 : decode cX8_tick 207 = .ok (.aload_n 0, 1) := by decide +kernel
theorem dX8_tick_208 : decode cX8_tick 208 = .ok (.iload_n 2, 1) := by decide +kernel
theorem dX8_tick_209 : decode cX8_tick 209 = .ok (.invokevirtual 175, 3) := by decide +kernel
theorem dX8_tick_212 : decode cX8_tick 212 = .ok (.istore_n 3, 1) := by decide +kernel
theorem dX8_tick_213 : decode cX8_tick 213 = .ok (.iinc 1 1, 3) := by decide +kernel
theorem dX8_tick_216 : decode cX8_tick 216 = .ok (.goto 11, 3) := by decide +kernel
theorem dX8_tick_219 : decode cX8_tick 219 = .ok (.aload_n 0, 1) := by decide +kernel
theorem dX8_tick_220 : decode cX8_tick 220 = .ok (.getfield 110, 3) := by decide +kernel
theorem dX8_tick_223 : decode cX8_tick 223 = .ok (.iload_n 2, 1) := by decide +kernel
theorem dX8_tick_224 : decode cX8_tick 224 = .ok (.bipush 109, 2) := by decide +kernel
theorem dX8_tick_226 : decode cX8_tick 226 = .ok (.castore, 1) := by decide +kernel
theorem dX8_tick_227 : decode cX8_tick 227 = .ok (.iinc 2 1, 3) := by decide +kernel
theorem dX8_tick_230 : decode cX8_tick 230 = .ok (.goto (-69), 3) := by decide +kernel
theorem dX8_tick_233 : decode cX8_tick 233 = .ok (.iload_n 1, 1) := by decide +kernel
theorem dX8_tick_234 : decode cX8_tick 234 = .ok (.ireturn, 1) := by decide +kernel
set_option maxRecDepth 20000 in
theorem ggX8_pass_X8_in : GoodIn wsX8_pass wsX8_in := goodIn_r _ [6] (by decide +kernel) (by decide +kernel)
set_option maxRecDepth 20000 in
theorem gX8_pass_X8_in : GoodIn wsX8_pass (va_wsS RX8 122 yX8_in wsX8_in) := goodIn_app (goodIn_of _ (by decide +kernel)) ggX8_pass_X8_in
set_option maxRecDepth 20000 in
theorem ggX8_pass_X8_tick : GoodIn wsX8_pass wsX8_tick := goodIn_ca (goodIn_r _ [10, 11, 12, 13, 14, 15, 16, 17, 18, 19, 20, 21, 22, 23, 24, 25, 1, 26, 27, 28, 29, 30, 31, 32, 5, 33, 34, 35, 36, 37, 38, 39, 40, 41, 42, 43, 44, 45, 3, 4, 6, 46, 47, 48, 49, 50, 51, 52, 53, 54, 55, 56, 57, 58, 59, 60, 61, 62, 63, 64, 65, 66, 67, 68, 69, 70, 71, 72, 73, 74, 75, 76, 77, 78, 79, 80, 81, 82, 83, 84, 85, 86, 87, 88, 89, 90, 91, 92, 93, 94, 95, 96, 97, 98, 99, 100, 101, 102, 103, 104, 105, 106, 107, 108, 109, 110, 111, 112, 113, 114, 115, 116, 117, 118, 119, 120, 121, 122, 123, 124, 125, 126, 127, 128, 129, 130, 131, 132, 133, 134, 135, 136, 137] (by decide +kernel) (by decide +kernel)) (goodIn_sub (fun _ h => List.mem_cons_of_mem _ (List.mem_append_right _ h)) (by decide +kernel))
set_option maxRecDepth 20000 in
theorem gX8_pass_X8_tick : GoodIn wsX8_pass (wsV RX8 178 RX8 yX8_tick wsX8_tick) := goodIn_app (goodIn_of _ (by decide +kernel)) ggX8_pass_X8_tick
theorem dX8_pass_0 : decode cX8_pass 0 = .ok (.aload_n 0, 1) := by decide +kernel
theorem dX8_pass_1 : decode cX8_pass 1 = .ok (.iload_n 1, 1) := by decide +kernel
theorem dX8_pass_2 : decode cX8_pass 2 = .ok (.iconst 1, 1) := by decide +kernel
theorem dX8_pass_3 : decode cX8_pass 3 = .ok (.bipush 96, 2) := by decide +kernel
theorem dX8_pass_5 : decode cX8_pass 5 = .ok (.invokestatic 122, 3) := by decide +kernel
theorem dX8_pass_8 : decode cX8_pass 8 = .ok (.ifCond .ne 7, 3) := by decide +kernel
theorem dX8_pass_11 : decode cX8_pass 11 = .ok (.iconst 1, 1) := by decide +kernel
theorem dX8_pass_12 : decode cX8_pass 12 = .ok (.goto 20, 3) := by decide +kernel
theorem dX8_pass_15 : decode cX8_pass 15 = .ok (.aload_n 0, 1) := by decide +kernel
theorem dX8_pass_16 : decode cX8_pass 16 = .ok (.getfield 132, 3) := by decide +kernel
theorem dX8_pass_19 : decode cX8_pass 19 = .ok (.iload_n 1, 1) := by decide +kernel
theorem dX8_pass_20 : decode cX8_pass 20 = .ok (.iadd, 1) := by decide +kernel
theorem dX8_pass_21 : decode cX8_pass 21 = .ok (.sipush 960, 3) := by decide +kernel
theorem dX8_pass_24 : decode cX8_pass 24 = .ok (.if_icmp .le 7, 3) := by decide +kernel
theorem dX8_pass_27 : decode cX8_pass 27 = .ok (.iconst 2, 1) := by decide +kernel
theorem dX8_pass_28 : decode cX8_pass 28 = .ok (.goto 4, 3) := by decide +kernel
theorem dX8_pass_31 : decode cX8_pass 31 = .ok (.iconst 0, 1) := by decide +kernel
theorem dX8_pass_32 : decode cX8_pass 32 = .ok (.putfield 116, 3) := by decide +kernel
theorem dX8_pass_35 : decode cX8_pass 35 = .ok (.iconst 0, 1) := by decide +kernel
theorem dX8_pass_36 : decode cX8_pass 36 = .ok (.istore_n 2, 1) := by decide +kernel
theorem dX8_pass_37 : decode cX8_pass 37 = .ok (.iconst 0, 1) := by decide +kernel
theorem dX8_pass_38 : decode cX8_pass 38 = .ok (.istore_n 3, 1) := by decide +kernel
theorem dX8_pass_39 : decode cX8_pass 39 = .ok (.iload_n 3, 1) := by decide +kernel
theorem dX8_pass_40 : decode cX8_pass 40 = .ok (.iload_n 1, 1) := by decide +kernel
theorem dX8_pass_41 : decode cX8_pass 41 = .ok (.if_icmp .ge 23, 3) := by decide +kernel
theorem dX8_pass_44 : decode cX8_pass 44 = .ok (.aload_n 0, 1) := by decide +kernel
theorem dX8_pass_45 : decode cX8_pass 45 = .ok (.getfield 116, 3) := by decide +kernel
theorem dX8_pass_48 : decode cX8_pass 48 = .ok (.ifCond .ne 16, 3) := by decide +kernel
theorem dX8_pass_51 : decode cX8_pass 51 = .ok (.iload_n 2, 1) := by decide +kernel
theorem dX8_pass_52 : decode cX8_pass 52 = .ok (.aload_n 0, 1) := by decide +kernel
theorem dX8_pass_53 : decode cX8_pass 53 = .ok (.invokevirtual 178, 3) := by decide +kernel
theorem dX8_pass_56 : decode cX8_pass 56 = .ok (.iadd, 1) := by decide +kernel
theorem dX8_pass_57 : decode cX8_pass 57 = .ok (.istore_n 2, 1) := by decide +kernel
theorem dX8_pass_58 : decode cX8_pass 58 = .ok (.iinc 3 1, 3) := by decide +kernel
theorem dX8_pass_61 : decode cX8_pass 61 = .ok (.goto (-22), 3) := by decide +kernel
theorem dX8_pass_64 : decode cX8_pass 64 = .ok (.iload_n 2, 1) := by decide +kernel
theorem dX8_pass_65 : decode cX8_pass 65 = .ok (.ireturn, 1) := by decide +kernel
set_option maxRecDepth 20000 in
theorem ggX8_setOutside_X8_in : GoodIn wsX8_setOutside wsX8_in := goodIn_r _ [6] (by decide +kernel) (by decide +kernel)
set_option maxRecDepth 20000 in
theorem gX8_setOutside_X8_in : GoodIn wsX8_setOutside (va_wsS RX8 122 yX8_in wsX8_in) := goodIn_app (goodIn_of _ (by decide +kernel)) ggX8_setOutside_X8_in
theorem dX8_setOutside_0 : decode cX8_setOutside 0 = .ok (.aload_n 0, 1) := by decide +kernel
theorem dX8_setOutside_1 : decode cX8_setOutside 1 = .ok (.iload_n 1, 1) := by decide +kernel
theorem dX8_setOutside_2 : decode cX8_setOutside 2 = .ok (.sipush (-300), 3) := by decide +kernel
theorem dX8_setOutside_5 : decode cX8_setOutside 5 = .ok (.sipush 450, 3) := by decide +kernel
theorem dX8_setOutside_8 : decode cX8_setOutside 8 = .ok (.invokestatic 122, 3) := by decide +kernel
theorem dX8_setOutside_11 : decode cX8_setOutside 11 = .ok (.ifCond .eq 7, 3) := by decide +kernel
theorem dX8_setOutside_14 : decode cX8_setOutside 14 = .ok (.iconst 0, 1) := by decide +kernel
theorem dX8_setOutside_15 : decode cX8_setOutside 15 = .ok (.goto 4, 3) := by decide +kernel
theorem dX8_setOutside_18 : decode cX8_setOutside 18 = .ok (.iconst 1, 1) := by decide +kernel
theorem dX8_setOutside_19 : decode cX8_setOutside 19 = .ok (.putfield 116, 3) := by decide +kernel
theorem dX8_setOutside_22 : decode cX8_setOutside 22 = .ok (.aload_n 0, 1) := by decide +kernel
theorem dX8_setOutside_23 : decode cX8_setOutside 23 = .ok (.getfield 116, 3) := by decide +kernel
theorem dX8_setOutside_26 : decode cX8_setOutside 26 = .ok (.ifCond .le 5, 3) := by decide +kernel
theorem dX8_setOutside_29 : decode cX8_setOutside 29 = .ok (.iconst 0, 1) := by decide +kernel
theorem dX8_setOutside_30 : decode cX8_setOutside 30 = .ok (.ireturn, 1) := by decide +kernel
theorem dX8_setOutside_31 : decode cX8_setOutside 31 = .ok (.aload_n 0, 1) := by decide +kernel
theorem dX8_setOutside_32 : decode cX8_setOutside 32 = .ok (.getfield 7, 3) := by decide +kernel
theorem dX8_setOutside_35 : decode cX8_setOutside 35 = .ok (.istore_n 2, 1) := by decide +kernel
theorem dX8_setOutside_36 : decode cX8_setOutside 36 = .ok (.aload_n 0, 1) := by decide +kernel
theorem dX8_setOutside_37 : decode cX8_setOutside 37 = .ok (.iload_n 1, 1) := by decide +kernel
theorem dX8_setOutside_38 : decode cX8_setOutside 38 = .ok (.putfield 7, 3) := by decide +kernel
theorem dX8_setOutside_41 : decode cX8_setOutside 41 = .ok (.iload_n 2, 1) := by decide +kernel
theorem dX8_setOutside_42 : decode cX8_setOutside 42 = .ok (.ireturn, 1) := by decide +kernel
set_option maxRecDepth 20000 in
theorem ggX8_addRoom_X8_in : GoodIn wsX8_addRoom wsX8_in := goodIn_r _ [14] (by decide +kernel) (by decide +kernel)
set_option maxRecDepth 20000 in
theorem gX8_addRoom_X8_in : GoodIn wsX8_addRoom (va_wsS RX8 122 yX8_in wsX8_in) := goodIn_app (goodIn_of _ (by decide +kernel)) ggX8_addRoom_X8_in
theorem dX8_addRoom_0 : decode cX8_addRoom 0 = .ok (.aload_n 0, 1) := by decide +kernel
theorem dX8_addRoom_1 : decode cX8_addRoom 1 = .ok (.iload_n 1, 1) := by decide +kernel
theorem dX8_addRoom_2 : decode cX8_addRoom 2 = .ok (.iconst 1, 1) := by decide +kernel
theorem dX8_addRoom_3 : decode cX8_addRoom 3 = .ok (.bipush 50, 2) := by decide +kernel
theorem dX8_addRoom_5 : decode cX8_addRoom 5 = .ok (.invokestatic 122, 3) := by decide +kernel
theorem dX8_addRoom_8 : decode cX8_addRoom 8 = .ok (.ifCond .eq 23, 3) := by decide +kernel
theorem dX8_addRoom_11 : decode cX8_addRoom 11 = .ok (.iload_n 2, 1) := by decide +kernel
theorem dX8_addRoom_12 : decode cX8_addRoom 12 = .ok (.iconst 1, 1) := by decide +kernel
theorem dX8_addRoom_13 : decode cX8_addRoom 13 = .ok (.bipush 100, 2) := by decide +kernel
theorem dX8_addRoom_15 : decode cX8_addRoom 15 = .ok (.invokestatic 122, 3) := by decide +kernel
theorem dX8_addRoom_18 : decode cX8_addRoom 18 = .ok (.ifCond .eq 13, 3) := by decide +kernel
theorem dX8_addRoom_21 : decode cX8_addRoom 21 = .ok (.iload_n 3, 1) := by decide +kernel
theorem dX8_addRoom_22 : decode cX8_addRoom 22 = .ok (.iconst 1, 1) := by decide +kernel
theorem dX8_addRoom_23 : decode cX8_addRoom 23 = .ok (.bipush 100, 2) := by decide +kernel
theorem dX8_addRoom_25 : decode cX8_addRoom 25 = .ok (.invokestatic 122, 3) := by decide +kernel
theorem dX8_addRoom_28 : decode cX8_addRoom 28 = .ok (.ifCond .ne 7, 3) := by decide +kernel
theorem dX8_addRoom_31 : decode cX8_addRoom 31 = .ok (.iconst 1, 1) := by decide +kernel
theorem dX8_addRoom_32 : decode cX8_addRoom 32 = .ok (.goto 16, 3) := by decide +kernel
theorem dX8_addRoom_35 : decode cX8_addRoom 35 = .ok (.aload_n 0, 1) := by decide +kernel
theorem dX8_addRoom_36 : decode cX8_addRoom 36 = .ok (.getfield 119, 3) := by decide +kernel
theorem dX8_addRoom_39 : decode cX8_addRoom 39 = .ok (.iconst 4, 1) := by decide +kernel
theorem dX8_addRoom_40 : decode cX8_addRoom 40 = .ok (.if_icmp .ne 7, 3) := by decide +kernel
theorem dX8_addRoom_43 : decode cX8_addRoom 43 = .ok (.iconst 2, 1) := by decide +kernel
theorem dX8_addRoom_44 : decode cX8_addRoom 44 = .ok (.goto 4, 3) := by decide +kernel
theorem dX8_addRoom_47 : decode cX8_addRoom 47 = .ok (.iconst 0, 1) := by decide +kernel
theorem dX8_addRoom_48 : decode cX8_addRoom 48 = .ok (.putfield 116, 3) := by decide +kernel
theorem dX8_addRoom_51 : decode cX8_addRoom 51 = .ok (.aload_n 0, 1) := by decide +kernel
theorem dX8_addRoom_52 : decode cX8_addRoom 52 = .ok (.getfield 116, 3) := by decide +kernel
theorem dX8_addRoom_55 : decode cX8_addRoom 55 = .ok (.ifCond .le 5, 3) := by decide +kernel
theorem dX8_addRoom_58 : decode cX8_addRoom 58 = .ok (.iconst 0, 1) := by decide +kernel
theorem dX8_addRoom_59 : decode cX8_addRoom 59 = .ok (.ireturn, 1) := by decide +kernel
theorem dX8_addRoom_60 : decode cX8_addRoom 60 = .ok (.aload_n 0, 1) := by decide +kernel
theorem dX8_addRoom_61 : decode cX8_addRoom 61 = .ok (.getfield 13, 3) := by decide +kernel
theorem dX8_addRoom_64 : decode cX8_addRoom 64 = .ok (.aload_n 0, 1) := by decide +kernel
theorem dX8_addRoom_65 : decode cX8_addRoom 65 = .ok (.getfield 119, 3) := by decide +kernel
theorem dX8_addRoom_68 : decode cX8_addRoom 68 = .ok (.iload_n 1, 1) := by decide +kernel
theorem dX8_addRoom_69 : decode cX8_addRoom 69 = .ok (.iastore, 1) := by decide +kernel
theorem dX8_addRoom_70 : decode cX8_addRoom 70 = .ok (.aload_n 0, 1) := by decide +kernel
theorem dX8_addRoom_71 : decode cX8_addRoom 71 = .ok (.getfield 17, 3) := by decide +kernel
theorem dX8_addRoom_74 : decode cX8_addRoom 74 = .ok (.aload_n 0, 1) := by decide +kernel
theorem dX8_addRoom_75 : decode cX8_addRoom 75 = .ok (.getfield 119, 3) := by decide +kernel
theorem dX8_addRoom_78 : decode cX8_addRoom 78 = .ok (.iload_n 2, 1) := by decide +kernel
theorem dX8_addRoom_79 : decode cX8_addRoom 79 = .ok (.iastore, 1) := by decide +kernel
theorem dX8_addRoom_80 : decode cX8_addRoom 80 = .ok (.aload_n 0, 1) := by decide +kernel
theorem dX8_addRoom_81 : decode cX8_addRoom 81 = .ok (.getfield 20, 3) := by decide +kernel
theorem dX8_addRoom_84 : decode cX8_addRoom 84 = .ok (.aload_n 0, 1) := by decide +kernel
theorem dX8_addRoom_85 : decode cX8_addRoom 85 = .ok (.getfield 119, 3) := by decide +kernel
theorem dX8_addRoom_88 : decode cX8_addRoom 88 = .ok (.iload_n 3, 1) := by decide +kernel
theorem dX8_addRoom_89 : decode cX8_addRoom 89 = .ok (.iastore, 1) := by decide +kernel
theorem dX8_addRoom_90 : decode cX8_addRoom 90 = .ok (.aload_n 0, 1) := by decide +kernel
theorem dX8_addRoom_91 : decode cX8_addRoom 91 = .ok (.getfield 23, 3) := by decide +kernel
theorem dX8_addRoom_94 : decode cX8_addRoom 94 = .ok (.aload_n 0, 1) := by decide +kernel
theorem dX8_addRoom_95 : decode cX8_addRoom 95 = .ok (.getfield 119, 3) := by decide +kernel
theorem dX8_addRoom_98 : decode cX8_addRoom 98 = .ok (.bipush 20, 2) := by decide +kernel
theorem dX8_addRoom_100 : decode cX8_addRoom 100 = .ok (.iastore, 1) := by decide +kernel
theorem dX8_addRoom_101 : decode cX8_addRoom 101 = .ok (.aload_n 0, 1) := by decide +kernel
theorem dX8_addRoom_102 : decode cX8_addRoom 102 = .ok (.getfield 26, 3) := by decide +kernel
theorem dX8_addRoom_105 : decode cX8_addRoom 105 = .ok (.aload_n 0, 1) := by decide +kernel
theorem dX8_addRoom_106 : decode cX8_addRoom 106 = .ok (.getfield 119, 3) := by decide +kernel
theorem dX8_addRoom_109 : decode cX8_addRoom 109 = .ok (.bipush 50, 2) := by decide +kernel
theorem dX8_addRoom_111 : decode cX8_addRoom 111 = .ok (.iastore, 1) := by decide +kernel
theorem dX8_addRoom_112 : decode cX8_addRoom 112 = .ok (.aload_n 0, 1) := by decide +kernel
theorem dX8_addRoom_113 : decode cX8_addRoom 113 = .ok (.getfield 35, 3) := by decide +kernel
theorem dX8_addRoom_116 : decode cX8_addRoom 116 = .ok (.aload_n 0, 1) := by decide +kernel
theorem dX8_addRoom_117 : decode cX8_addRoom 117 = .ok (.getfield 119, 3) := by decide +kernel
theorem dX8_addRoom_120 : decode cX8_addRoom 120 = .ok (.bipush 97, 2) := by decide +kernel
theorem dX8_addRoom_122 : decode cX8_addRoom 122 = .ok (.castore, 1) := by decide +kernel
theorem dX8_addRoom_123 : decode cX8_addRoom 123 = .ok (.aload_n 0, 1) := by decide +kernel
theorem dX8_addRoom_124 : decode cX8_addRoom 124 = .ok (.getfield 39, 3) := by decide +kernel
theorem dX8_addRoom_127 : decode cX8_addRoom 127 = .ok (.aload_n 0, 1) := by decide +kernel
theorem dX8_addRoom_128 : decode cX8_addRoom 128 = .ok (.getfield 119, 3) := by decide +kernel
theorem dX8_addRoom_131 : decode cX8_addRoom 131 = .ok (.aload_n 0, 1) := by decide +kernel
theorem dX8_addRoom_132 : decode cX8_addRoom 132 = .ok (.getfield 7, 3) := by decide +kernel
theorem dX8_addRoom_135 : decode cX8_addRoom 135 = .ok (.iastore, 1) := by decide +kernel
theorem dX8_addRoom_136 : decode cX8_addRoom 136 = .ok (.aload_n 0, 1) := by decide +kernel
theorem dX8_addRoom_137 : decode cX8_addRoom 137 = .ok (.dup, 1) := by decide +kernel
theorem dX8_addRoom_138 : decode cX8_addRoom 138 = .ok (.getfield 119, 3) := by decide +kernel
theorem dX8_addRoom_141 : decode cX8_addRoom 141 = .ok (.iconst 1, 1) := by decide +kernel
theorem dX8_addRoom_142 : decode cX8_addRoom 142 = .ok (.iadd, 1) := by decide +kernel
theorem dX8_addRoom_143 : decode cX8_addRoom 143 = .ok (.putfield 119, 3) := by decide +kernel
theorem dX8_addRoom_146 : decode cX8_addRoom 146 = .ok (.aload_n 0, 1) := by decide +kernel
theorem dX8_addRoom_147 : decode cX8_addRoom 147 = .ok (.getfield 119, 3) := by decide +kernel
theorem dX8_addRoom_150 : decode cX8_addRoom 150 = .ok (.iconst 1, 1) := by decide +kernel
theorem dX8_addRoom_151 : decode cX8_addRoom 151 = .ok (.isub, 1) := by decide +kernel
theorem dX8_addRoom_152 : decode cX8_addRoom 152 = .ok (.ireturn, 1) := by decide +kernel
set_option maxRecDepth 20000 in
theorem ggX8_setLimits_X8_isRoom : GoodIn wsX8_setLimits wsX8_isRoom := goodIn_r _ [8, 9, 10, 11, 7, 12, 13, 14, 15, 16, 17, 18, 19, 20, 21, 22, 23, 24, 25, 26, 27, 28, 29, 30, 31, 32, 33, 34, 35, 36, 37, 38, 39, 40, 41, 42, 43, 44, 45, 46, 47, 48, 49, 50, 51, 52, 53, 54, 55, 56] (by decide +kernel) (by decide +kernel)
set_option maxRecDepth 20000 in
theorem gX8_setLimits_X8_isRoom : GoodIn wsX8_setLimits (wsV RX8 181 RX8 yX8_isRoom wsX8_isRoom) := goodIn_app (goodIn_of _ (by decide +kernel)) ggX8_setLimits_X8_isRoom
set_option maxRecDepth 20000 in
theorem ggX8_setLimits_X8_in : GoodIn wsX8_setLimits wsX8_in := goodIn_r _ [12] (by decide +kernel) (by decide +kernel)
set_option maxRecDepth 20000 in
theorem gX8_setLimits_X8_in : GoodIn wsX8_setLimits (va_wsS RX8 122 yX8_in wsX8_in) := goodIn_app (goodIn_of _ (by decide +kernel)) ggX8_setLimits_X8_in
theorem dX8_setLimits_0 : decode cX8_setLimits 0 = .ok (.aload_n 0, 1) := by decide +kernel
theorem dX8_setLimits_1 : decode cX8_setLimits 1 = .ok (.aload_n 0, 1) := by decide +kernel
theorem dX8_setLimits_2 : decode cX8_setLimits 2 = .ok (.iload_n 1, 1) := by decide +kernel
theorem dX8_setLimits_3 : decode cX8_setLimits 3 = .ok (.invokevirtual 181, 3) := by decide +kernel
theorem dX8_setLimits_6 : decode cX8_setLimits 6 = .ok (.ifCond .ne 7, 3) := by decide +kernel
theorem dX8_setLimits_9 : decode cX8_setLimits 9 = .ok (.iconst 1, 1) := by decide +kernel
theorem dX8_setLimits_10 : decode cX8_setLimits 10 = .ok (.goto 32, 3) := by decide +kernel
theorem dX8_setLimits_13 : decode cX8_setLimits 13 = .ok (.iload_n 2, 1) := by decide +kernel
theorem dX8_setLimits_14 : decode cX8_setLimits 14 = .ok (.sipush (-300), 3) := by decide +kernel
theorem dX8_setLimits_17 : decode cX8_setLimits 17 = .ok (.sipush 300, 3) := by decide +kernel
theorem dX8_setLimits_20 : decode cX8_setLimits 20 = .ok (.invokestatic 122, 3) := by decide +kernel
theorem dX8_setLimits_23 : decode cX8_setLimits 23 = .ok (.ifCond .eq 14, 3) := by decide +kernel
theorem dX8_setLimits_26 : decode cX8_setLimits 26 = .ok (.iload_n 3, 1) := by decide +kernel
theorem dX8_setLimits_27 : decode cX8_setLimits 27 = .ok (.iload_n 2, 1) := by decide +kernel
theorem dX8_setLimits_28 : decode cX8_setLimits 28 = .ok (.sipush 300, 3) := by decide +kernel
theorem dX8_setLimits_31 : decode cX8_setLimits 31 = .ok (.invokestatic 122, 3) := by decide +kernel
theorem dX8_setLimits_34 : decode cX8_setLimits 34 = .ok (.ifCond .ne 7, 3) := by decide +kernel
theorem dX8_setLimits_37 : decode cX8_setLimits 37 = .ok (.iconst 2, 1) := by decide +kernel
theorem dX8_setLimits_38 : decode cX8_setLimits 38 = .ok (.goto 4, 3) := by decide +kernel
theorem dX8_setLimits_41 : decode cX8_setLimits 41 = .ok (.iconst 0, 1) := by decide +kernel
theorem dX8_setLimits_42 : decode cX8_setLimits 42 = .ok (.putfield 116, 3) := by decide +kernel
theorem dX8_setLimits_45 : decode cX8_setLimits 45 = .ok (.aload_n 0, 1) := by decide +kernel
theorem dX8_setLimits_46 : decode cX8_setLimits 46 = .ok (.getfield 116, 3) := by decide +kernel
theorem dX8_setLimits_49 : decode cX8_setLimits 49 = .ok (.ifCond .le 5, 3) := by decide +kernel
theorem dX8_setLimits_52 : decode cX8_setLimits 52 = .ok (.iconst 0, 1) := by decide +kernel
theorem dX8_setLimits_53 : decode cX8_setLimits 53 = .ok (.ireturn, 1) := by decide +kernel
theorem dX8_setLimits_54 : decode cX8_setLimits 54 = .ok (.aload_n 0, 1) := by decide +kernel
theorem dX8_setLimits_55 : decode cX8_setLimits 55 = .ok (.getfield 23, 3) := by decide +kernel
theorem dX8_setLimits_58 : decode cX8_setLimits 58 = .ok (.iload_n 1, 1) := by decide +kernel
theorem dX8_setLimits_59 : decode cX8_setLimits 59 = .ok (.iaload, 1) := by decide +kernel
theorem dX8_setLimits_60 : decode cX8_setLimits 60 = .ok (.istore 4, 2) := by decide +kernel
theorem dX8_setLimits_62 : decode cX8_setLimits 62 = .ok (.aload_n 0, 1) := by decide +kernel
theorem dX8_setLimits_63 : decode cX8_setLimits 63 = .ok (.getfield 23, 3) := by decide +kernel
theorem dX8_setLimits_66 : decode cX8_setLimits 66 = .ok (.iload_n 1, 1) := by decide +kernel
theorem dX8_setLimits_67 : decode cX8_setLimits 67 = .ok (.iload_n 2, 1) := by decide +kernel
theorem dX8_setLimits_68 : decode cX8_setLimits 68 = .ok (.iastore, 1) := by decide +kernel
theorem dX8_setLimits_69 : decode cX8_setLimits 69 = .ok (.aload_n 0, 1) := by decide +kernel
theorem dX8_setLimits_70 : decode cX8_setLimits 70 = .ok (.getfield 26, 3) := by decide +kernel
theorem dX8_setLimits_73 : decode cX8_setLimits 73 = .ok (.iload_n 1, 1) := by decide +kernel
theorem dX8_setLimits_74 : decode cX8_setLimits 74 = .ok (.iload_n 3, 1) := by decide +kernel
theorem dX8_setLimits_75 : decode cX8_setLimits 75 = .ok (.iastore, 1) := by decide +kernel
theorem dX8_setLimits_76 : decode cX8_setLimits 76 = .ok (.iload 4, 2) := by decide +kernel
theorem dX8_setLimits_78 : decode cX8_setLimits 78 = .ok (.ireturn, 1) := by decide +kernel
set_option maxRecDepth 20000 in
theorem ggX8_setMode_X8_isRoom : GoodIn wsX8_setMode wsX8_isRoom := goodIn_r _ [7, 8, 9, 10, 6, 11, 12, 13, 14, 15, 16, 17, 18, 19, 20, 21, 22, 23, 24, 25, 26, 27, 28, 29, 30, 31, 32, 33, 34, 35, 36, 37, 38, 39, 40, 41, 42, 43, 44, 45, 46, 47, 48, 49, 50, 51, 52, 53, 54, 55] (by decide +kernel) (by decide +kernel)
set_option maxRecDepth 20000 in
theorem gX8_setMode_X8_isRoom : GoodIn wsX8_setMode (wsV RX8 181 RX8 yX8_isRoom wsX8_isRoom) := goodIn_app (goodIn_of _ (by decide +kernel)) ggX8_setMode_X8_isRoom
theorem dX8_setMode_0 : decode cX8_setMode 0 = .ok (.aload_n 0, 1) := by decide +kernel
theorem dX8_setMode_1 : decode cX8_setMode 1 = .ok (.aload_n 0, 1) := by decide +kernel
theorem dX8_setMode_2 : decode cX8_setMode 2 = .ok (.iload_n 1, 1) := by decide +kernel
theorem dX8_setMode_3 : decode cX8_setMode 3 = .ok (.invokevirtual 181, 3) := by decide +kernel
theorem dX8_setMode_6 : decode cX8_setMode 6 = .ok (.ifCond .ne 7, 3) := by decide +kernel
theorem dX8_setMode_9 : decode cX8_setMode 9 = .ok (.iconst 1, 1) := by decide +kernel
theorem dX8_setMode_10 : decode cX8_setMode 10 = .ok (.goto 26, 3) := by decide +kernel
theorem dX8_setMode_13 : decode cX8_setMode 13 = .ok (.iload_n 2, 1) := by decide +kernel
theorem dX8_setMode_14 : decode cX8_setMode 14 = .ok (.bipush 97, 2) := by decide +kernel
theorem dX8_setMode_16 : decode cX8_setMode 16 = .ok (.if_icmp .eq 19, 3) := by decide +kernel
theorem dX8_setMode_19 : decode cX8_setMode 19 = .ok (.iload_n 2, 1) := by decide +kernel
theorem dX8_setMode_20 : decode cX8_setMode 20 = .ok (.bipush 111, 2) := by decide +kernel
theorem dX8_setMode_22 : decode cX8_setMode 22 = .ok (.if_icmp .eq 13, 3) := by decide +kernel
theorem dX8_setMode_25 : decode cX8_setMode 25 = .ok (.iload_n 2, 1) := by decide +kernel
theorem dX8_setMode_26 : decode cX8_setMode 26 = .ok (.bipush 110, 2) := by decide +kernel
theorem dX8_setMode_28 : decode cX8_setMode 28 = .ok (.if_icmp .eq 7, 3) := by decide +kernel
theorem dX8_setMode_31 : decode cX8_setMode 31 = .ok (.iconst 2, 1) := by decide +kernel
theorem dX8_setMode_32 : decode cX8_setMode 32 = .ok (.goto 4, 3) := by decide +kernel
theorem dX8_setMode_35 : decode cX8_setMode 35 = .ok (.iconst 0, 1) := by decide +kernel
theorem dX8_setMode_36 : decode cX8_setMode 36 = .ok (.putfield 116, 3) := by decide +kernel
theorem dX8_setMode_39 : decode cX8_setMode 39 = .ok (.aload_n 0, 1) := by decide +kernel
theorem dX8_setMode_40 : decode cX8_setMode 40 = .ok (.getfield 116, 3) := by decide +kernel
theorem dX8_setMode_43 : decode cX8_setMode 43 = .ok (.ifCond .le 6, 3) := by decide +kernel
theorem dX8_setMode_46 : decode cX8_setMode 46 = .ok (.bipush 32, 2) := by decide +kernel
theorem dX8_setMode_48 : decode cX8_setMode 48 = .ok (.ireturn, 1) := by decide +kernel
theorem dX8_setMode_49 : decode cX8_setMode 49 = .ok (.aload_n 0, 1) := by decide +kernel
theorem dX8_setMode_50 : decode cX8_setMode 50 = .ok (.getfield 35, 3) := by decide +kernel
theorem dX8_setMode_53 : decode cX8_setMode 53 = .ok (.iload_n 1, 1) := by decide +kernel
theorem dX8_setMode_54 : decode cX8_setMode 54 = .ok (.caload, 1) := by decide +kernel
theorem dX8_setMode_55 : decode cX8_setMode 55 = .ok (.istore_n 3, 1) := by decide +kernel
theorem dX8_setMode_56 : decode cX8_setMode 56 = .ok (.aload_n 0, 1) := by decide +kernel
theorem dX8_setMode_57 : decode cX8_setMode 57 = .ok (.getfield 35, 3) := by decide +kernel
theorem dX8_setMode_60 : decode cX8_setMode 60 = .ok (.iload_n 1, 1) := by decide +kernel
theorem dX8_setMode_61 : decode cX8_setMode 61 = .ok (.iload_n 2, 1) := by decide +kernel
theorem dX8_setMode_62 : decode cX8_setMode 62 = .ok (.castore, 1) := by decide +kernel
theorem dX8_setMode_63 : decode cX8_setMode 63 = .ok (.iload_n 3, 1) := by decide +kernel
theorem dX8_setMode_64 : decode cX8_setMode 64 = .ok (.ireturn, 1) := by decide +kernel
set_option maxRecDepth 20000 in
theorem ggX8_setLead_X8_isRoom : GoodIn wsX8_setLead wsX8_isRoom := goodIn_r _ [8, 9, 10, 11, 7, 12, 13, 14, 15, 16, 17, 18, 19, 20, 21, 22, 23, 24, 25, 26, 27, 28, 29, 30, 31, 32, 33, 34, 35, 36, 37, 38, 39, 40, 41, 42, 43, 44, 45, 46, 47, 48, 49, 50, 51, 52, 53, 54, 55, 56] (by decide +kernel) (by decide +kernel)
set_option maxRecDepth 20000 in
theorem gX8_setLead_X8_isRoom : GoodIn wsX8_setLead (wsV RX8 181 RX8 yX8_isRoom wsX8_isRoom) := goodIn_app (goodIn_of _ (by decide +kernel)) ggX8_setLead_X8_isRoom
set_option maxRecDepth 20000 in
theorem ggX8_setLead_X8_in : GoodIn wsX8_setLead wsX8_in := goodIn_r _ [12] (by decide +kernel) (by decide +kernel)
set_option maxRecDepth 20000 in
theorem gX8_setLead_X8_in : GoodIn wsX8_setLead (va_wsS RX8 122 yX8_in wsX8_in) := goodIn_app (goodIn_of _ (by decide +kernel)) ggX8_setLead_X8_in
theorem dX8_setLead_0 : decode cX8_setLead 0 = .ok (.aload_n 0, 1) := by decide +kernel
theorem dX8_setLead_1 : decode cX8_setLead 1 = .ok (.aload_n 0, 1) := by decide +kernel
theorem dX8_setLead_2 : decode cX8_setLead 2 = .ok (.iload_n 1, 1) := by decide +kernel
theorem dX8_setLead_3 : decode cX8_setLead 3 = .ok (.invokevirtual 181, 3) := by decide +kernel
theorem dX8_setLead_6 : decode cX8_setLead 6 = .ok (.ifCond .ne 7, 3) := by decide +kernel
theorem dX8_setLead_9 : decode cX8_setLead 9 = .ok (.iconst 1, 1) := by decide +kernel
theorem dX8_setLead_10 : decode cX8_setLead 10 = .ok (.goto 28, 3) := by decide +kernel
theorem dX8_setLead_13 : decode cX8_setLead 13 = .ok (.iload_n 2, 1) := by decide +kernel
theorem dX8_setLead_14 : decode cX8_setLead 14 = .ok (.iconst 0, 1) := by decide +kernel
theorem dX8_setLead_15 : decode cX8_setLead 15 = .ok (.bipush 16, 2) := by decide +kernel
theorem dX8_setLead_17 : decode cX8_setLead 17 = .ok (.invokestatic 122, 3) := by decide +kernel
theorem dX8_setLead_20 : decode cX8_setLead 20 = .ok (.ifCond .eq 13, 3) := by decide +kernel
theorem dX8_setLead_23 : decode cX8_setLead 23 = .ok (.iload_n 3, 1) := by decide +kernel
theorem dX8_setLead_24 : decode cX8_setLead 24 = .ok (.iconst 0, 1) := by decide +kernel
theorem dX8_setLead_25 : decode cX8_setLead 25 = .ok (.bipush 100, 2) := by decide +kernel
theorem dX8_setLead_27 : decode cX8_setLead 27 = .ok (.invokestatic 122, 3) := by decide +kernel
theorem dX8_setLead_30 : decode cX8_setLead 30 = .ok (.ifCond .ne 7, 3) := by decide +kernel
theorem dX8_setLead_33 : decode cX8_setLead 33 = .ok (.iconst 2, 1) := by decide +kernel
theorem dX8_setLead_34 : decode cX8_setLead 34 = .ok (.goto 4, 3) := by decide +kernel
theorem dX8_setLead_37 : decode cX8_setLead 37 = .ok (.iconst 0, 1) := by decide +kernel
theorem dX8_setLead_38 : decode cX8_setLead 38 = .ok (.putfield 116, 3) := by decide +kernel
theorem dX8_setLead_41 : decode cX8_setLead 41 = .ok (.aload_n 0, 1) := by decide +kernel
theorem dX8_setLead_42 : decode cX8_setLead 42 = .ok (.getfield 116, 3) := by decide +kernel
theorem dX8_setLead_45 : decode cX8_setLead 45 = .ok (.ifCond .le 5, 3) := by decide +kernel
theorem dX8_setLead_48 : decode cX8_setLead 48 = .ok (.iconst 0, 1) := by decide +kernel
theorem dX8_setLead_49 : decode cX8_setLead 49 = .ok (.ireturn, 1) := by decide +kernel
theorem dX8_setLead_50 : decode cX8_setLead 50 = .ok (.aload_n 0, 1) := by decide +kernel
theorem dX8_setLead_51 : decode cX8_setLead 51 = .ok (.getfield 29, 3) := by decide +kernel
theorem dX8_setLead_54 : decode cX8_setLead 54 = .ok (.iload_n 1, 1) := by decide +kernel
theorem dX8_setLead_55 : decode cX8_setLead 55 = .ok (.iaload, 1) := by decide +kernel
theorem dX8_setLead_56 : decode cX8_setLead 56 = .ok (.istore 4, 2) := by decide +kernel
theorem dX8_setLead_58 : decode cX8_setLead 58 = .ok (.aload_n 0, 1) := by decide +kernel
theorem dX8_setLead_59 : decode cX8_setLead 59 = .ok (.getfield 29, 3) := by decide +kernel
theorem dX8_setLead_62 : decode cX8_setLead 62 = .ok (.iload_n 1, 1) := by decide +kernel
theorem dX8_setLead_63 : decode cX8_setLead 63 = .ok (.iload_n 2, 1) := by decide +kernel
theorem dX8_setLead_64 : decode cX8_setLead 64 = .ok (.iastore, 1) := by decide +kernel
theorem dX8_setLead_65 : decode cX8_setLead 65 = .ok (.aload_n 0, 1) := by decide +kernel
theorem dX8_setLead_66 : decode cX8_setLead 66 = .ok (.getfield 32, 3) := by decide +kernel
theorem dX8_setLead_69 : decode cX8_setLead 69 = .ok (.iload_n 1, 1) := by decide +kernel
theorem dX8_setLead_70 : decode cX8_setLead 70 = .ok (.iload_n 3, 1) := by decide +kernel
theorem dX8_setLead_71 : decode cX8_setLead 71 = .ok (.iastore, 1) := by decide +kernel
theorem dX8_setLead_72 : decode cX8_setLead 72 = .ok (.iload 4, 2) := by decide +kernel
theorem dX8_setLead_74 : decode cX8_setLead 74 = .ok (.ireturn, 1) := by decide +kernel
set_option maxRecDepth 20000 in
theorem ggX8_temperature_X8_isRoom : GoodIn wsX8_temperature wsX8_isRoom := goodIn_r _ [7, 8, 9, 10, 6, 11, 12, 13, 14, 15, 16, 17, 18, 19, 20, 21, 22, 23, 24, 25, 26, 27, 28, 29, 30, 31, 32, 33, 34, 35, 36, 37, 38, 39, 40, 41, 42, 43, 44, 45, 46, 47, 48, 49, 50, 51, 52, 53, 54, 55] (by decide +kernel) (by decide +kernel)
set_option maxRecDepth 20000 in
theorem gX8_temperature_X8_isRoom : GoodIn wsX8_temperature (wsV RX8 181 RX8 yX8_isRoom wsX8_isRoom) := goodIn_app (goodIn_of _ (by decide +kernel)) ggX8_temperature_X8_isRoom
theorem dX8_temperature_0 : decode cX8_temperature 0 = .ok (.aload_n 0, 1) := by decide +kernel
theorem dX8_temperature_1 : decode cX8_temperature 1 = .ok (.aload_n 0, 1) := by decide +kernel
theorem dX8_temperature_2 : decode cX8_temperature 2 = .ok (.iload_n 1, 1) := by decide +kernel
theorem dX8_temperature_3 : decode cX8_temperature 3 = .ok (.invokevirtual 181, 3) := by decide +kernel
theorem dX8_temperature_6 : decode cX8_temperature 6 = .ok (.ifCond .eq 7, 3) := by decide +kernel
theorem dX8_temperature_9 : decode cX8_temperature 9 = .ok (.iconst 0, 1) := by decide +kernel
theorem dX8_temperature_10 : decode cX8_temperature 10 = .ok (.goto 4, 3) := by decide +kernel
theorem dX8_temperature_13 : decode cX8_temperature 13 = .ok (.iconst 1, 1) := by decide +kernel
theorem dX8_temperature_14 : decode cX8_temperature 14 = .ok (.putfield 116, 3) := by decide +kernel
theorem dX8_temperature_17 : decode cX8_temperature 17 = .ok (.aload_n 0, 1) := by decide +kernel
theorem dX8_temperature_18 : decode cX8_temperature 18 = .ok (.getfield 116, 3) := by decide +kernel
theorem dX8_temperature_21 : decode cX8_temperature 21 = .ok (.ifCond .le 7, 3) := by decide +kernel
theorem dX8_temperature_24 : decode cX8_temperature 24 = .ok (.iconst 0, 1) := by decide +kernel
theorem dX8_temperature_25 : decode cX8_temperature 25 = .ok (.goto 9, 3) := by decide +kernel
theorem dX8_temperature_28 : decode cX8_temperature 28 = .ok (.aload_n 0, 1) := by decide +kernel
theorem dX8_temperature_29 : decode cX8_temperature 29 = .ok (.getfield 39, 3) := by decide +kernel
theorem dX8_temperature_32 : decode cX8_temperature 32 = .ok (.iload_n 1, 1) := by decide +kernel
theorem dX8_temperature_33 : decode cX8_temperature 33 = .ok (.iaload, 1) := by decide +kernel
theorem dX8_temperature_34 : decode cX8_temperature 34 = .ok (.ireturn, 1) := by decide +kernel
set_option maxRecDepth 20000 in
theorem ggX8_isCooled_X8_isRoom : GoodIn wsX8_isCooled wsX8_isRoom := goodIn_r _ [7, 8, 9, 10, 6, 11, 12, 13, 14, 15, 16, 17, 18, 19, 20, 21, 22, 23, 24, 25, 26, 27, 28, 29, 30, 31, 32, 33, 34, 35, 36, 37, 38, 39, 40, 41, 42, 43, 44, 45, 46, 47, 48, 49, 50, 51, 52, 53, 54, 55] (by decide +kernel) (by decide +kernel)
set_option maxRecDepth 20000 in
theorem gX8_isCooled_X8_isRoom : GoodIn wsX8_isCooled (wsV RX8 181 RX8 yX8_isRoom wsX8_isRoom) := goodIn_app (goodIn_of _ (by decide +kernel)) ggX8_isCooled_X8_isRoom
theorem dX8_isCooled_0 : decode cX8_isCooled 0 = .ok (.aload_n 0, 1) := by decide +kernel
theorem dX8_isCooled_1 : decode cX8_isCooled 1 = .ok (.aload_n 0, 1) := by decide +kernel
theorem dX8_isCooled_2 : decode cX8_isCooled 2 = .ok (.iload_n 1, 1) := by decide +kernel
theorem dX8_isCooled_3 : decode cX8_isCooled 3 = .ok (.invokevirtual 181, 3) := by decide +kernel
theorem dX8_isCooled_6 : decode cX8_isCooled 6 = .ok (.ifCond .eq 7, 3) := by decide +kernel
theorem dX8_isCooled_9 : decode cX8_isCooled 9 = .ok (.iconst 0, 1) := by decide +kernel
theorem dX8_isCooled_10 : decode cX8_isCooled 10 = .ok (.goto 4, 3) := by decide +kernel
theorem dX8_isCooled_13 : decode cX8_isCooled 13 = .ok (.iconst 1, 1) := by decide +kernel
theorem dX8_isCooled_14 : decode cX8_isCooled 14 = .ok (.putfield 116, 3) := by decide +kernel
theorem dX8_isCooled_17 : decode cX8_isCooled 17 = .ok (.aload_n 0, 1) := by decide +kernel
theorem dX8_isCooled_18 : decode cX8_isCooled 18 = .ok (.getfield 116, 3) := by decide +kernel
theorem dX8_isCooled_21 : decode cX8_isCooled 21 = .ok (.ifCond .ne 16, 3) := by decide +kernel
theorem dX8_isCooled_24 : decode cX8_isCooled 24 = .ok (.aload_n 0, 1) := by decide +kernel
theorem dX8_isCooled_25 : decode cX8_isCooled 25 = .ok (.getfield 46, 3) := by decide +kernel
theorem dX8_isCooled_28 : decode cX8_isCooled 28 = .ok (.iload_n 1, 1) := by decide +kernel
theorem dX8_isCooled_29 : decode cX8_isCooled 29 = .ok (.baload, 1) := by decide +kernel
theorem dX8_isCooled_30 : decode cX8_isCooled 30 = .ok (.ifCond .eq 7, 3) := by decide +kernel
theorem dX8_isCooled_33 : decode cX8_isCooled 33 = .ok (.iconst 1, 1) := by decide +kernel
theorem dX8_isCooled_34 : decode cX8_isCooled 34 = .ok (.goto 4, 3) := by decide +kernel
theorem dX8_isCooled_37 : decode cX8_isCooled 37 = .ok (.iconst 0, 1) := by decide +kernel
theorem dX8_isCooled_38 : decode cX8_isCooled 38 = .ok (.ireturn, 1) := by decide +kernel
set_option maxRecDepth 20000 in
theorem ggX8_warmest_X8_isRoom : GoodIn wsX8_warmest wsX8_isRoom := goodIn_r _ [8, 9, 10, 11, 7, 12, 13, 14, 15, 16, 17, 18, 19, 20, 21, 22, 23, 24, 25, 26, 27, 28, 29, 30, 31, 32, 33, 34, 35, 36, 37, 38, 39, 40, 41, 42, 43, 44, 45, 46, 47, 48, 49, 50, 51, 52, 53, 54, 55, 56] (by decide +kernel) (by decide +kernel)
set_option maxRecDepth 20000 in
theorem gX8_warmest_X8_isRoom : GoodIn wsX8_warmest (wsV RX8 181 RX8 yX8_isRoom wsX8_isRoom) := goodIn_app (goodIn_of _ (by decide +kernel)) ggX8_warmest_X8_isRoom
theorem dX8_warmest_0 : decode cX8_warmest 0 = .ok (.aload_n 0, 1) := by decide +kernel
theorem dX8_warmest_1 : decode cX8_warmest 1 = .ok (.aload_n 0, 1) := by decide +kernel
theorem dX8_warmest_2 : decode cX8_warmest 2 = .ok (.iload_n 1, 1) := by decide +kernel
theorem dX8_warmest_3 : decode cX8_warmest 3 = .ok (.invokevirtual 181, 3) := by decide +kernel
theorem dX8_warmest_6 : decode cX8_warmest 6 = .ok (.ifCond .ne 7, 3) := by decide +kernel
theorem dX8_warmest_9 : decode cX8_warmest 9 = .ok (.iconst 1, 1) := by decide +kernel
theorem dX8_warmest_10 : decode cX8_warmest 10 = .ok (.goto 17, 3) := by decide +kernel
theorem dX8_warmest_13 : decode cX8_warmest 13 = .ok (.aload_n 0, 1) := by decide +kernel
theorem dX8_warmest_14 : decode cX8_warmest 14 = .ok (.getfield 59, 3) := by decide +kernel
theorem dX8_warmest_17 : decode cX8_warmest 17 = .ok (.iload_n 1, 1) := by decide +kernel
theorem dX8_warmest_18 : decode cX8_warmest 18 = .ok (.iaload, 1) := by decide +kernel
theorem dX8_warmest_19 : decode cX8_warmest 19 = .ok (.ifCond .ne 7, 3) := by decide +kernel
theorem dX8_warmest_22 : decode cX8_warmest 22 = .ok (.iconst 2, 1) := by decide +kernel
theorem dX8_warmest_23 : decode cX8_warmest 23 = .ok (.goto 4, 3) := by decide +kernel
theorem dX8_warmest_26 : decode cX8_warmest 26 = .ok (.iconst 0, 1) := by decide +kernel
theorem dX8_warmest_27 : decode cX8_warmest 27 = .ok (.putfield 116, 3) := by decide +kernel
theorem dX8_warmest_30 : decode cX8_warmest 30 = .ok (.aload_n 0, 1) := by decide +kernel
theorem dX8_warmest_31 : decode cX8_warmest 31 = .ok (.getfield 116, 3) := by decide +kernel
theorem dX8_warmest_34 : decode cX8_warmest 34 = .ok (.ifCond .le 7, 3) := by decide +kernel
theorem dX8_warmest_37 : decode cX8_warmest 37 = .ok (.iconst 0, 1) := by decide +kernel
theorem dX8_warmest_38 : decode cX8_warmest 38 = .ok (.goto 9, 3) := by decide +kernel
theorem dX8_warmest_41 : decode cX8_warmest 41 = .ok (.aload_n 0, 1) := by decide +kernel
theorem dX8_warmest_42 : decode cX8_warmest 42 = .ok (.getfield 52, 3) := by decide +kernel
theorem dX8_warmest_45 : decode cX8_warmest 45 = .ok (.iload_n 1, 1) := by decide +kernel
theorem dX8_warmest_46 : decode cX8_warmest 46 = .ok (.iaload, 1) := by decide +kernel
theorem dX8_warmest_47 : decode cX8_warmest 47 = .ok (.ireturn, 1) := by decide +kernel
set_option maxRecDepth 20000 in
theorem ggX8_meanTemperature_X8_isRoom : GoodIn wsX8_meanTemperature wsX8_isRoom := goodIn_r _ [8, 9, 10, 11, 7, 12, 13, 14, 15, 16, 17, 18, 19, 20, 21, 22, 23, 24, 25, 26, 27, 28, 29, 30, 31, 32, 33, 34, 35, 36, 37, 38, 39, 40, 41, 42, 43, 44, 45, 46, 47, 48, 49, 50, 51, 52, 53, 54, 55, 56] (by decide +kernel) (by decide +kernel)
set_option maxRecDepth 20000 in
theorem gX8_meanTemperature_X8_isRoom : GoodIn wsX8_meanTemperature (wsV RX8 181 RX8 yX8_isRoom wsX8_isRoom) := goodIn_app (goodIn_of _ (by decide +kernel)) ggX8_meanTemperature_X8_isRoom
theorem dX8_meanTemperature_0 : decode cX8_meanTemperature 0 = .ok (.aload_n 0, 1) := by decide +kernel
theorem dX8_meanTemperature_1 : decode cX8_meanTemperature 1 = .ok (.aload_n 0, 1) := by decide +kernel
theorem dX8_meanTemperature_2 : decode cX8_meanTemperature 2 = .ok (.iload_n 1, 1) := by decide +kernel
theorem dX8_meanTemperature_3 : decode cX8_meanTemperature 3 = .ok (.invokevirtual 181, 3) := by decide +kernel
theorem dX8_meanTemperature_6 : decode cX8_meanTemperature 6 = .ok (.ifCond .ne 7, 3) := by decide +kernel
theorem dX8_meanTemperature_9 : decode cX8_meanTemperature 9 = .ok (.iconst 1, 1) := by decide +kernel
theorem dX8_meanTemperature_10 : decode cX8_meanTemperature 10 = .ok (.goto 17, 3) := by decide +kernel
theorem dX8_meanTemperature_13 : decode cX8_meanTemperature 13 = .ok (.aload_n 0, 1) := by decide +kernel
theorem dX8_meanTemperature_14 : decode cX8_meanTemperature 14 = .ok (.getfield 59, 3) := by decide +kernel
theorem dX8_meanTemperature_17 : decode cX8_meanTemperature 17 = .ok (.iload_n 1, 1) := by decide +kernel
theorem dX8_meanTemperature_18 : decode cX8_meanTemperature 18 = .ok (.iaload, 1) := by decide +kernel
theorem dX8_meanTemperature_19 : decode cX8_meanTemperature 19 = .ok (.ifCond .ne 7, 3) := by decide +kernel
theorem dX8_meanTemperature_22 : decode cX8_meanTemperature 22 = .ok (.iconst 2, 1) := by decide +kernel
theorem dX8_meanTemperature_23 : decode cX8_meanTemperature 23 = .ok (.goto 4, 3) := by decide +kernel
theorem dX8_meanTemperature_26 : decode cX8_meanTemperature 26 = .ok (.iconst 0, 1) := by decide +kernel
theorem dX8_meanTemperature_27 : decode cX8_meanTemperature 27 = .ok (.putfield 116, 3) := by decide +kernel
theorem dX8_meanTemperature_30 : decode cX8_meanTemperature 30 = .ok (.aload_n 0, 1) := by decide +kernel
theorem dX8_meanTemperature_31 : decode cX8_meanTemperature 31 = .ok (.getfield 116, 3) := by decide +kernel
theorem dX8_meanTemperature_34 : decode cX8_meanTemperature 34 = .ok (.ifCond .le 7, 3) := by decide +kernel
theorem dX8_meanTemperature_37 : decode cX8_meanTemperature 37 = .ok (.dconst 0, 1) := by decide +kernel
theorem dX8_meanTemperature_38 : decode cX8_meanTemperature 38 = .ok (.goto 18, 3) := by decide +kernel
theorem dX8_meanTemperature_41 : decode cX8_meanTemperature 41 = .ok (.aload_n 0, 1) := by decide +kernel
theorem dX8_meanTemperature_42 : decode cX8_meanTemperature 42 = .ok (.getfield 55, 3) := by decide +kernel
theorem dX8_meanTemperature_45 : decode cX8_meanTemperature 45 = .ok (.iload_n 1, 1) := by decide +kernel
theorem dX8_meanTemperature_46 : decode cX8_meanTemperature 46 = .ok (.laload, 1) := by decide +kernel
theorem dX8_meanTemperature_47 : decode cX8_meanTemperature 47 = .ok (.l2d, 1) := by decide +kernel
theorem dX8_meanTemperature_48 : decode cX8_meanTemperature 48 = .ok (.aload_n 0, 1) := by decide +kernel
theorem dX8_meanTemperature_49 : decode cX8_meanTemperature 49 = .ok (.getfield 59, 3) := by decide +kernel
theorem dX8_meanTemperature_52 : decode cX8_meanTemperature 52 = .ok (.iload_n 1, 1) := by decide +kernel
theorem dX8_meanTemperature_53 : decode cX8_meanTemperature 53 = .ok (.iaload, 1) := by decide +kernel
theorem dX8_meanTemperature_54 : decode cX8_meanTemperature 54 = .ok (.i2d, 1) := by decide +kernel
theorem dX8_meanTemperature_55 : decode cX8_meanTemperature 55 = .ok (.ddiv, 1) := by decide +kernel
theorem dX8_meanTemperature_56 : decode cX8_meanTemperature 56 = .ok (.dreturn, 1) := by decide +kernel
theorem dX8_filled_0 : decode cX8_filled 0 = .ok (.iconst 0, 1) := by decide +kernel
theorem dX8_filled_1 : decode cX8_filled 1 = .ok (.istore_n 2, 1) := by decide +kernel
theorem dX8_filled_2 : decode cX8_filled 2 = .ok (.iconst 0, 1) := by decide +kernel
theorem dX8_filled_3 : decode cX8_filled 3 = .ok (.istore_n 3, 1) := by decide +kernel
theorem dX8_filled_4 : decode cX8_filled 4 = .ok (.iload_n 3, 1) := by decide +kernel
theorem dX8_filled_5 : decode cX8_filled 5 = .ok (.aload_n 0, 1) := by decide +kernel
theorem dX8_filled_6 : decode cX8_filled 6 = .ok (.getfield 126, 3) := by decide +kernel
theorem dX8_filled_9 : decode cX8_filled 9 = .ok (.if_icmp .ge 38, 3) := by decide +kernel
theorem dX8_filled_12 : decode cX8_filled 12 = .ok (.iload_n 2, 1) := by decide +kernel
theorem dX8_filled_13 : decode cX8_filled 13 = .ok (.aload_n 0, 1) := by decide +kernel
theorem dX8_filled_14 : decode cX8_filled 14 = .ok (.getfield 95, 3) := by decide +kernel
theorem dX8_filled_17 : decode cX8_filled 17 = .ok (.iload_n 3, 1) := by decide +kernel
theorem dX8_filled_18 : decode cX8_filled 18 = .ok (.caload, 1) := by decide +kernel
theorem dX8_filled_19 : decode cX8_filled 19 = .ok (.bipush 114, 2) := by decide +kernel
theorem dX8_filled_21 : decode cX8_filled 21 = .ok (.if_icmp .ne 17, 3) := by decide +kernel
theorem dX8_filled_24 : decode cX8_filled 24 = .ok (.aload_n 0, 1) := by decide +kernel
theorem dX8_filled_25 : decode cX8_filled 25 = .ok (.getfield 89, 3) := by decide +kernel
theorem dX8_filled_28 : decode cX8_filled 28 = .ok (.iload_n 3, 1) := by decide +kernel
theorem dX8_filled_29 : decode cX8_filled 29 = .ok (.iaload, 1) := by decide +kernel
theorem dX8_filled_30 : decode cX8_filled 30 = .ok (.iload_n 1, 1) := by decide +kernel
theorem dX8_filled_31 : decode cX8_filled 31 = .ok (.if_icmp .ne 7, 3) := by decide +kernel
theorem dX8_filled_34 : decode cX8_filled 34 = .ok (.iconst 1, 1) := by decide +kernel
theorem dX8_filled_35 : decode cX8_filled 35 = .ok (.goto 4, 3) := by decide +kernel
theorem dX8_filled_38 : decode cX8_filled 38 = .ok (.iconst 0, 1) := by decide +kernel
theorem dX8_filled_39 : decode cX8_filled 39 = .ok (.iadd, 1) := by decide +kernel
theorem dX8_filled_40 : decode cX8_filled 40 = .ok (.istore_n 2, 1) := by decide +kernel
theorem dX8_filled_41 : decode cX8_filled 41 = .ok (.iinc 3 1, 3) := by decide +kernel
theorem dX8_filled_44 : decode cX8_filled 44 = .ok (.goto (-40), 3) := by decide +kernel
theorem dX8_filled_47 : decode cX8_filled 47 = .ok (.iload_n 2, 1) := by decide +kernel
theorem dX8_filled_48 : decode cX8_filled 48 = .ok (.ireturn, 1) := by decide +kernel
set_option maxRecDepth 20000 in
theorem ggX8_freeSpace_X8_isRoom : GoodIn wsX8_freeSpace wsX8_isRoom := goodIn_r _ [6, 7, 8, 9, 5, 10, 18, 19, 20, 21, 22, 23, 24, 25, 26, 27, 28, 29, 30, 31, 32, 33, 34, 35, 36, 37, 38, 39, 40, 41, 42, 43, 44, 45, 46, 47, 48, 49, 50, 51, 52, 53, 54, 55, 56, 57, 58, 59, 60, 61] (by decide +kernel) (by decide +kernel)
set_option maxRecDepth 20000 in
theorem gX8_freeSpace_X8_isRoom : GoodIn wsX8_freeSpace (wsV RX8 181 RX8 yX8_isRoom wsX8_isRoom) := goodIn_app (goodIn_of _ (by decide +kernel)) ggX8_freeSpace_X8_isRoom
set_option maxRecDepth 20000 in
theorem ggX8_freeSpace_X8_filled : GoodIn wsX8_freeSpace wsX8_filled := goodIn_ca (goodIn_r _ [14, 15, 16, 17, 18, 19, 20, 21, 22, 23, 24, 25, 26, 27, 28, 29, 30, 31, 32, 33, 34, 35, 36, 37, 38, 39, 40, 41, 42, 43, 44, 45, 46, 47, 48, 49, 50, 51, 52, 53, 54, 55, 56, 57, 58, 59, 60, 61] (by decide +kernel) (by decide +kernel)) (goodIn_sub (fun _ h => List.mem_cons_of_mem _ (List.mem_append_right _ h)) (by decide +kernel))
set_option maxRecDepth 20000 in
theorem gX8_freeSpace_X8_filled : GoodIn wsX8_freeSpace (wsV RX8 185 RX8 yX8_filled wsX8_filled) := goodIn_app (goodIn_of _ (by decide +kernel)) ggX8_freeSpace_X8_filled
theorem dX8_freeSpace_0 : decode cX8_freeSpace 0 = .ok (.aload_n 0, 1) := by decide +kernel
theorem dX8_freeSpace_1 : decode cX8_freeSpace 1 = .ok (.aload_n 0, 1) := by decide +kernel
theorem dX8_freeSpace_2 : decode cX8_freeSpace 2 = .ok (.iload_n 1, 1) := by decide +kernel
theorem dX8_freeSpace_3 : decode cX8_freeSpace 3 = .ok (.invokevirtual 181, 3) := by decide +kernel
theorem dX8_freeSpace_6 : decode cX8_freeSpace 6 = .ok (.ifCond .eq 7, 3) := by decide +kernel
theorem dX8_freeSpace_9 : decode cX8_freeSpace 9 = .ok (.iconst 0, 1) := by decide +kernel
theorem dX8_freeSpace_10 : decode cX8_freeSpace 10 = .ok (.goto 4, 3) := by decide +kernel
theorem dX8_freeSpace_13 : decode cX8_freeSpace 13 = .ok (.iconst 1, 1) := by decide +kernel
theorem dX8_freeSpace_14 : decode cX8_freeSpace 14 = .ok (.putfield 116, 3) := by decide +kernel
theorem dX8_freeSpace_17 : decode cX8_freeSpace 17 = .ok (.aload_n 0, 1) := by decide +kernel
theorem dX8_freeSpace_18 : decode cX8_freeSpace 18 = .ok (.getfield 116, 3) := by decide +kernel
theorem dX8_freeSpace_21 : decode cX8_freeSpace 21 = .ok (.ifCond .le 7, 3) := by decide +kernel
theorem dX8_freeSpace_24 : decode cX8_freeSpace 24 = .ok (.iconst 0, 1) := by decide +kernel
theorem dX8_freeSpace_25 : decode cX8_freeSpace 25 = .ok (.goto 11, 3) := by decide +kernel
theorem dX8_freeSpace_28 : decode cX8_freeSpace 28 = .ok (.bipush 8, 2) := by decide +kernel
theorem dX8_freeSpace_30 : decode cX8_freeSpace 30 = .ok (.aload_n 0, 1) := by decide +kernel
theorem dX8_freeSpace_31 : decode cX8_freeSpace 31 = .ok (.iload_n 1, 1) := by decide +kernel
theorem dX8_freeSpace_32 : decode cX8_freeSpace 32 = .ok (.invokevirtual 185, 3) := by decide +kernel
theorem dX8_freeSpace_35 : decode cX8_freeSpace 35 = .ok (.isub, 1) := by decide +kernel
theorem dX8_freeSpace_36 : decode cX8_freeSpace 36 = .ok (.ireturn, 1) := by decide +kernel
set_option maxRecDepth 20000 in
theorem ggX8_setPrices_X8_in : GoodIn wsX8_setPrices wsX8_in := goodIn_r _ [9] (by decide +kernel) (by decide +kernel)
set_option maxRecDepth 20000 in
theorem gX8_setPrices_X8_in : GoodIn wsX8_setPrices (va_wsS RX8 122 yX8_in wsX8_in) := goodIn_app (goodIn_of _ (by decide +kernel)) ggX8_setPrices_X8_in
theorem dX8_setPrices_0 : decode cX8_setPrices 0 = .ok (.aload_n 0, 1) := by decide +kernel
theorem dX8_setPrices_1 : decode cX8_setPrices 1 = .ok (.iload_n 1, 1) := by decide +kernel
theorem dX8_setPrices_2 : decode cX8_setPrices 2 = .ok (.iconst 0, 1) := by decide +kernel
theorem dX8_setPrices_3 : decode cX8_setPrices 3 = .ok (.sipush 1000, 3) := by decide +kernel
theorem dX8_setPrices_6 : decode cX8_setPrices 6 = .ok (.invokestatic 122, 3) := by decide +kernel
theorem dX8_setPrices_9 : decode cX8_setPrices 9 = .ok (.ifCond .eq 39, 3) := by decide +kernel
theorem dX8_setPrices_12 : decode cX8_setPrices 12 = .ok (.iload_n 2, 1) := by decide +kernel
theorem dX8_setPrices_13 : decode cX8_setPrices 13 = .ok (.iconst 0, 1) := by decide +kernel
theorem dX8_setPrices_14 : decode cX8_setPrices 14 = .ok (.sipush 1000, 3) := by decide +kernel
theorem dX8_setPrices_17 : decode cX8_setPrices 17 = .ok (.invokestatic 122, 3) := by decide +kernel
theorem dX8_setPrices_20 : decode cX8_setPrices 20 = .ok (.ifCond .eq 28, 3) := by decide +kernel
theorem dX8_setPrices_23 : decode cX8_setPrices 23 = .ok (.iload_n 3, 1) := by decide +kernel
theorem dX8_setPrices_24 : decode cX8_setPrices 24 = .ok (.iconst 0, 1) := by decide +kernel
theorem dX8_setPrices_25 : decode cX8_setPrices 25 = .ok (.bipush 95, 2) := by decide +kernel
theorem dX8_setPrices_27 : decode cX8_setPrices 27 = .ok (.invokestatic 122, 3) := by decide +kernel
theorem dX8_setPrices_30 : decode cX8_setPrices 30 = .ok (.ifCond .eq 18, 3) := by decide +kernel
theorem dX8_setPrices_33 : decode cX8_setPrices 33 = .ok (.iload 4, 2) := by decide +kernel
theorem dX8_setPrices_35 : decode cX8_setPrices 35 = .ok (.iload_n 3, 1) := by decide +kernel
theorem dX8_setPrices_36 : decode cX8_setPrices 36 = .ok (.bipush 95, 2) := by decide +kernel
theorem dX8_setPrices_38 : decode cX8_setPrices 38 = .ok (.invokestatic 122, 3) := by decide +kernel
theorem dX8_setPrices_41 : decode cX8_setPrices 41 = .ok (.ifCond .eq 7, 3) := by decide +kernel
theorem dX8_setPrices_44 : decode cX8_setPrices 44 = .ok (.iconst 0, 1) := by decide +kernel
theorem dX8_setPrices_45 : decode cX8_setPrices 45 = .ok (.goto 4, 3) := by decide +kernel
theorem dX8_setPrices_48 : decode cX8_setPrices 48 = .ok (.iconst 1, 1) := by decide +kernel
theorem dX8_setPrices_49 : decode cX8_setPrices 49 = .ok (.putfield 116, 3) := by decide +kernel
theorem dX8_setPrices_52 : decode cX8_setPrices 52 = .ok (.aload_n 0, 1) := by decide +kernel
theorem dX8_setPrices_53 : decode cX8_setPrices 53 = .ok (.getfield 116, 3) := by decide +kernel
theorem dX8_setPrices_56 : decode cX8_setPrices 56 = .ok (.ifCond .le 5, 3) := by decide +kernel
theorem dX8_setPrices_59 : decode cX8_setPrices 59 = .ok (.iconst 0, 1) := by decide +kernel
theorem dX8_setPrices_60 : decode cX8_setPrices 60 = .ok (.ireturn, 1) := by decide +kernel
theorem dX8_setPrices_61 : decode cX8_setPrices 61 = .ok (.aload_n 0, 1) := by decide +kernel
theorem dX8_setPrices_62 : decode cX8_setPrices 62 = .ok (.getfield 62, 3) := by decide +kernel
theorem dX8_setPrices_65 : decode cX8_setPrices 65 = .ok (.istore 5, 2) := by decide +kernel
theorem dX8_setPrices_67 : decode cX8_setPrices 67 = .ok (.aload_n 0, 1) := by decide +kernel
theorem dX8_setPrices_68 : decode cX8_setPrices 68 = .ok (.iload_n 1, 1) := by decide +kernel
theorem dX8_setPrices_69 : decode cX8_setPrices 69 = .ok (.putfield 62, 3) := by decide +kernel
theorem dX8_setPrices_72 : decode cX8_setPrices 72 = .ok (.aload_n 0, 1) := by decide +kernel
theorem dX8_setPrices_73 : decode cX8_setPrices 73 = .ok (.iload_n 2, 1) := by decide +kernel
theorem dX8_setPrices_74 : decode cX8_setPrices 74 = .ok (.putfield 65, 3) := by decide +kernel
theorem dX8_setPrices_77 : decode cX8_setPrices 77 = .ok (.aload_n 0, 1) := by decide +kernel
theorem dX8_setPrices_78 : decode cX8_setPrices 78 = .ok (.iload_n 3, 1) := by decide +kernel
theorem dX8_setPrices_79 : decode cX8_setPrices 79 = .ok (.putfield 68, 3) := by decide +kernel
theorem dX8_setPrices_82 : decode cX8_setPrices 82 = .ok (.aload_n 0, 1) := by decide +kernel
theorem dX8_setPrices_83 : decode cX8_setPrices 83 = .ok (.iload 4, 2) := by decide +kernel
theorem dX8_setPrices_85 : decode cX8_setPrices 85 = .ok (.putfield 71, 3) := by decide +kernel
theorem dX8_setPrices_88 : decode cX8_setPrices 88 = .ok (.iload 5, 2) := by decide +kernel
theorem dX8_setPrices_90 : decode cX8_setPrices 90 = .ok (.ireturn, 1) := by decide +kernel
set_option maxRecDepth 20000 in
theorem ggX8_setCharge_X8_in : GoodIn wsX8_setCharge wsX8_in := goodIn_r _ [6] (by decide +kernel) (by decide +kernel)
set_option maxRecDepth 20000 in
theorem gX8_setCharge_X8_in : GoodIn wsX8_setCharge (va_wsS RX8 122 yX8_in wsX8_in) := goodIn_app (goodIn_of _ (by decide +kernel)) ggX8_setCharge_X8_in
theorem dX8_setCharge_0 : decode cX8_setCharge 0 = .ok (.aload_n 0, 1) := by decide +kernel
theorem dX8_setCharge_1 : decode cX8_setCharge 1 = .ok (.iload_n 1, 1) := by decide +kernel
theorem dX8_setCharge_2 : decode cX8_setCharge 2 = .ok (.iconst 0, 1) := by decide +kernel
theorem dX8_setCharge_3 : decode cX8_setCharge 3 = .ok (.sipush 1000, 3) := by decide +kernel
theorem dX8_setCharge_6 : decode cX8_setCharge 6 = .ok (.invokestatic 122, 3) := by decide +kernel
theorem dX8_setCharge_9 : decode cX8_setCharge 9 = .ok (.ifCond .eq 7, 3) := by decide +kernel
theorem dX8_setCharge_12 : decode cX8_setCharge 12 = .ok (.iconst 0, 1) := by decide +kernel
theorem dX8_setCharge_13 : decode cX8_setCharge 13 = .ok (.goto 4, 3) := by decide +kernel
theorem dX8_setCharge_16 : decode cX8_setCharge 16 = .ok (.iconst 1, 1) := by decide +kernel
theorem dX8_setCharge_17 : decode cX8_setCharge 17 = .ok (.putfield 116, 3) := by decide +kernel
theorem dX8_setCharge_20 : decode cX8_setCharge 20 = .ok (.aload_n 0, 1) := by decide +kernel
theorem dX8_setCharge_21 : decode cX8_setCharge 21 = .ok (.getfield 116, 3) := by decide +kernel
theorem dX8_setCharge_24 : decode cX8_setCharge 24 = .ok (.ifCond .le 5, 3) := by decide +kernel
theorem dX8_setCharge_27 : decode cX8_setCharge 27 = .ok (.iconst 0, 1) := by decide +kernel
theorem dX8_setCharge_28 : decode cX8_setCharge 28 = .ok (.ireturn, 1) := by decide +kernel
theorem dX8_setCharge_29 : decode cX8_setCharge 29 = .ok (.aload_n 0, 1) := by decide +kernel
theorem dX8_setCharge_30 : decode cX8_setCharge 30 = .ok (.getfield 188, 3) := by decide +kernel
theorem dX8_setCharge_33 : decode cX8_setCharge 33 = .ok (.istore_n 2, 1) := by decide +kernel
theorem dX8_setCharge_34 : decode cX8_setCharge 34 = .ok (.aload_n 0, 1) := by decide +kernel
theorem dX8_setCharge_35 : decode cX8_setCharge 35 = .ok (.iload_n 1, 1) := by decide +kernel
theorem dX8_setCharge_36 : decode cX8_setCharge 36 = .ok (.putfield 188, 3) := by decide +kernel
theorem dX8_setCharge_39 : decode cX8_setCharge 39 = .ok (.iload_n 2, 1) := by decide +kernel
theorem dX8_setCharge_40 : decode cX8_setCharge 40 = .ok (.ireturn, 1) := by decide +kernel
set_option maxRecDepth 20000 in
theorem ggX8_setPowerLimit_X8_in : GoodIn wsX8_setPowerLimit wsX8_in := goodIn_r _ [6] (by decide +kernel) (by decide +kernel)
set_option maxRecDepth 20000 in
theorem gX8_setPowerLimit_X8_in : GoodIn wsX8_setPowerLimit (va_wsS RX8 122 yX8_in wsX8_in) := goodIn_app (goodIn_of _ (by decide +kernel)) ggX8_setPowerLimit_X8_in
theorem dX8_setPowerLimit_0 : decode cX8_setPowerLimit 0 = .ok (.aload_n 0, 1) := by decide +kernel
theorem dX8_setPowerLimit_1 : decode cX8_setPowerLimit 1 = .ok (.iload_n 1, 1) := by decide +kernel
theorem dX8_setPowerLimit_2 : decode cX8_setPowerLimit 2 = .ok (.iconst 0, 1) := by decide +kernel
theorem dX8_setPowerLimit_3 : decode cX8_setPowerLimit 3 = .ok (.sipush 400, 3) := by decide +kernel
theorem dX8_setPowerLimit_6 : decode cX8_setPowerLimit 6 = .ok (.invokestatic 122, 3) := by decide +kernel
theorem dX8_setPowerLimit_9 : decode cX8_setPowerLimit 9 = .ok (.ifCond .eq 7, 3) := by decide +kernel
theorem dX8_setPowerLimit_12 : decode cX8_setPowerLimit 12 = .ok (.iconst 0, 1) := by decide +kernel
theorem dX8_setPowerLimit_13 : decode cX8_setPowerLimit 13 = .ok (.goto 4, 3) := by decide +kernel
theorem dX8_setPowerLimit_16 : decode cX8_setPowerLimit 16 = .ok (.iconst 1, 1) := by decide +kernel
theorem dX8_setPowerLimit_17 : decode cX8_setPowerLimit 17 = .ok (.putfield 116, 3) := by decide +kernel
theorem dX8_setPowerLimit_20 : decode cX8_setPowerLimit 20 = .ok (.aload_n 0, 1) := by decide +kernel
theorem dX8_setPowerLimit_21 : decode cX8_setPowerLimit 21 = .ok (.getfield 116, 3) := by decide +kernel
theorem dX8_setPowerLimit_24 : decode cX8_setPowerLimit 24 = .ok (.ifCond .le 5, 3) := by decide +kernel
theorem dX8_setPowerLimit_27 : decode cX8_setPowerLimit 27 = .ok (.iconst 0, 1) := by decide +kernel
theorem dX8_setPowerLimit_28 : decode cX8_setPowerLimit 28 = .ok (.ireturn, 1) := by decide +kernel
theorem dX8_setPowerLimit_29 : decode cX8_setPowerLimit 29 = .ok (.aload_n 0, 1) := by decide +kernel
theorem dX8_setPowerLimit_30 : decode cX8_setPowerLimit 30 = .ok (.getfield 74, 3) := by decide +kernel
theorem dX8_setPowerLimit_33 : decode cX8_setPowerLimit 33 = .ok (.istore_n 2, 1) := by decide +kernel
theorem dX8_setPowerLimit_34 : decode cX8_setPowerLimit 34 = .ok (.aload_n 0, 1) := by decide +kernel
theorem dX8_setPowerLimit_35 : decode cX8_setPowerLimit 35 = .ok (.iload_n 1, 1) := by decide +kernel
theorem dX8_setPowerLimit_36 : decode cX8_setPowerLimit 36 = .ok (.putfield 74, 3) := by decide +kernel
theorem dX8_setPowerLimit_39 : decode cX8_setPowerLimit 39 = .ok (.iload_n 2, 1) := by decide +kernel
theorem dX8_setPowerLimit_40 : decode cX8_setPowerLimit 40 = .ok (.ireturn, 1) := by decide +kernel
theorem dX8_power_0 : decode cX8_power 0 = .ok (.aload_n 0, 1) := by decide +kernel
theorem dX8_power_1 : decode cX8_power 1 = .ok (.iconst 0, 1) := by decide +kernel
theorem dX8_power_2 : decode cX8_power 2 = .ok (.putfield 116, 3) := by decide +kernel
theorem dX8_power_5 : decode cX8_power 5 = .ok (.aload_n 0, 1) := by decide +kernel
theorem dX8_power_6 : decode cX8_power 6 = .ok (.getfield 139, 3) := by decide +kernel
theorem dX8_power_9 : decode cX8_power 9 = .ok (.ireturn, 1) := by decide +kernel
theorem dX8_greatestPower_0 : decode cX8_greatestPower 0 = .ok (.aload_n 0, 1) := by decide +kernel
theorem dX8_greatestPower_1 : decode cX8_greatestPower 1 = .ok (.iconst 0, 1) := by decide +kernel
theorem dX8_greatestPower_2 : decode cX8_greatestPower 2 = .ok (.putfield 116, 3) := by decide +kernel
theorem dX8_greatestPower_5 : decode cX8_greatestPower 5 = .ok (.aload_n 0, 1) := by decide +kernel
theorem dX8_greatestPower_6 : decode cX8_greatestPower 6 = .ok (.getfield 161, 3) := by decide +kernel
theorem dX8_greatestPower_9 : decode cX8_greatestPower 9 = .ok (.ireturn, 1) := by decide +kernel
theorem dX8_bill_0 : decode cX8_bill 0 = .ok (.aload_n 0, 1) := by decide +kernel
theorem dX8_bill_1 : decode cX8_bill 1 = .ok (.iconst 0, 1) := by decide +kernel
theorem dX8_bill_2 : decode cX8_bill 2 = .ok (.putfield 116, 3) := by decide +kernel
theorem dX8_bill_5 : decode cX8_bill 5 = .ok (.aload_n 0, 1) := by decide +kernel
theorem dX8_bill_6 : decode cX8_bill 6 = .ok (.getfield 164, 3) := by decide +kernel
theorem dX8_bill_9 : decode cX8_bill 9 = .ok (.aload_n 0, 1) := by decide +kernel
theorem dX8_bill_10 : decode cX8_bill 10 = .ok (.getfield 161, 3) := by decide +kernel
theorem dX8_bill_13 : decode cX8_bill 13 = .ok (.i2l, 1) := by decide +kernel
theorem dX8_bill_14 : decode cX8_bill 14 = .ok (.aload_n 0, 1) := by decide +kernel
theorem dX8_bill_15 : decode cX8_bill 15 = .ok (.getfield 188, 3) := by decide +kernel
theorem dX8_bill_18 : decode cX8_bill 18 = .ok (.i2l, 1) := by decide +kernel
theorem dX8_bill_19 : decode cX8_bill 19 = .ok (.lmul, 1) := by decide +kernel
theorem dX8_bill_20 : decode cX8_bill 20 = .ok (.ladd, 1) := by decide +kernel
theorem dX8_bill_21 : decode cX8_bill 21 = .ok (.lreturn, 1) := by decide +kernel
set_option maxRecDepth 20000 in
theorem ggX8_billByRecords_X8_bill : GoodIn wsX8_billByRecords wsX8_bill := goodIn_r _ [5, 6, 7, 8, 9, 10, 11, 12, 13, 14, 15, 16, 17, 18, 19, 20, 21, 22, 23, 24, 25, 26, 27, 28, 29, 30, 31, 32, 33, 34, 35, 36, 37, 38, 39, 40, 41, 42, 43, 44, 45, 46, 47, 48, 49, 50, 51, 52, 53] (by decide +kernel) (by decide +kernel)
set_option maxRecDepth 20000 in
theorem gX8_billByRecords_X8_bill : GoodIn wsX8_billByRecords (wsV RX8 191 RX8 yX8_bill wsX8_bill) := goodIn_app (goodIn_of _ (by decide +kernel)) ggX8_billByRecords_X8_bill
theorem dX8_billByRecords_0 : decode cX8_billByRecords 0 = .ok (.aload_n 0, 1) := by decide +kernel
theorem dX8_billByRecords_1 : decode cX8_billByRecords 1 = .ok (.invokevirtual 191, 3) := by decide +kernel
theorem dX8_billByRecords_4 : decode cX8_billByRecords 4 = .ok (.lreturn, 1) := by decide +kernel
set_option maxRecDepth 20000 in
theorem ggX8_addKind_X8_in : GoodIn wsX8_addKind wsX8_in := goodIn_r _ [9] (by decide +kernel) (by decide +kernel)
set_option maxRecDepth 20000 in
theorem gX8_addKind_X8_in : GoodIn wsX8_addKind (va_wsS RX8 122 yX8_in wsX8_in) := goodIn_app (goodIn_of _ (by decide +kernel)) ggX8_addKind_X8_in
theorem dX8_addKind_0 : decode cX8_addKind 0 = .ok (.aload_n 0, 1) := by decide +kernel
theorem dX8_addKind_1 : decode cX8_addKind 1 = .ok (.iload_n 1, 1) := by decide +kernel
theorem dX8_addKind_2 : decode cX8_addKind 2 = .ok (.iconst 1, 1) := by decide +kernel
theorem dX8_addKind_3 : decode cX8_addKind 3 = .ok (.sipush 9999, 3) := by decide +kernel
theorem dX8_addKind_6 : decode cX8_addKind 6 = .ok (.invokestatic 122, 3) := by decide +kernel
theorem dX8_addKind_9 : decode cX8_addKind 9 = .ok (.ifCond .eq 29, 3) := by decide +kernel
theorem dX8_addKind_12 : decode cX8_addKind 12 = .ok (.iload_n 2, 1) := by decide +kernel
theorem dX8_addKind_13 : decode cX8_addKind 13 = .ok (.sipush (-300), 3) := by decide +kernel
theorem dX8_addKind_16 : decode cX8_addKind 16 = .ok (.sipush 300, 3) := by decide +kernel
theorem dX8_addKind_19 : decode cX8_addKind 19 = .ok (.invokestatic 122, 3) := by decide +kernel
theorem dX8_addKind_22 : decode cX8_addKind 22 = .ok (.ifCond .eq 16, 3) := by decide +kernel
theorem dX8_addKind_25 : decode cX8_addKind 25 = .ok (.iload_n 3, 1) := by decide +kernel
theorem dX8_addKind_26 : decode cX8_addKind 26 = .ok (.sipush (-400), 3) := by decide +kernel
theorem dX8_addKind_29 : decode cX8_addKind 29 = .ok (.iload_n 2, 1) := by decide +kernel
theorem dX8_addKind_30 : decode cX8_addKind 30 = .ok (.iconst 1, 1) := by decide +kernel
theorem dX8_addKind_31 : decode cX8_addKind 31 = .ok (.isub, 1) := by decide +kernel
theorem dX8_addKind_32 : decode cX8_addKind 32 = .ok (.invokestatic 122, 3) := by decide +kernel
theorem dX8_addKind_35 : decode cX8_addKind 35 = .ok (.ifCond .ne 7, 3) := by decide +kernel
theorem dX8_addKind_38 : decode cX8_addKind 38 = .ok (.iconst 1, 1) := by decide +kernel
theorem dX8_addKind_39 : decode cX8_addKind 39 = .ok (.goto 16, 3) := by decide +kernel
theorem dX8_addKind_42 : decode cX8_addKind 42 = .ok (.aload_n 0, 1) := by decide +kernel
theorem dX8_addKind_43 : decode cX8_addKind 43 = .ok (.getfield 195, 3) := by decide +kernel
theorem dX8_addKind_46 : decode cX8_addKind 46 = .ok (.iconst 5, 1) := by decide +kernel
theorem dX8_addKind_47 : decode cX8_addKind 47 = .ok (.if_icmp .ne 7, 3) := by decide +kernel
theorem dX8_addKind_50 : decode cX8_addKind 50 = .ok (.iconst 2, 1) := by decide +kernel
theorem dX8_addKind_51 : decode cX8_addKind 51 = .ok (.goto 4, 3) := by decide +kernel
theorem dX8_addKind_54 : decode cX8_addKind 54 = .ok (.iconst 0, 1) := by decide +kernel
theorem dX8_addKind_55 : decode cX8_addKind 55 = .ok (.putfield 116, 3) := by decide +kernel
theorem dX8_addKind_58 : decode cX8_addKind 58 = .ok (.aload_n 0, 1) := by decide +kernel
theorem dX8_addKind_59 : decode cX8_addKind 59 = .ok (.getfield 116, 3) := by decide +kernel
theorem dX8_addKind_62 : decode cX8_addKind 62 = .ok (.ifCond .le 5, 3) := by decide +kernel
theorem dX8_addKind_65 : decode cX8_addKind 65 = .ok (.iconst 0, 1) := by decide +kernel
theorem dX8_addKind_66 : decode cX8_addKind 66 = .ok (.ireturn, 1) := by decide +kernel
theorem dX8_addKind_67 : decode cX8_addKind 67 = .ok (.aload_n 0, 1) := by decide +kernel
theorem dX8_addKind_68 : decode cX8_addKind 68 = .ok (.getfield 77, 3) := by decide +kernel
theorem dX8_addKind_71 : decode cX8_addKind 71 = .ok (.aload_n 0, 1) := by decide +kernel
theorem dX8_addKind_72 : decode cX8_addKind 72 = .ok (.getfield 195, 3) := by decide +kernel
theorem dX8_addKind_75 : decode cX8_addKind 75 = .ok (.iload_n 1, 1) := by decide +kernel
theorem dX8_addKind_76 : decode cX8_addKind 76 = .ok (.iastore, 1) := by decide +kernel
theorem dX8_addKind_77 : decode cX8_addKind 77 = .ok (.aload_n 0, 1) := by decide +kernel
theorem dX8_addKind_78 : decode cX8_addKind 78 = .ok (.getfield 80, 3) := by decide +kernel
theorem dX8_addKind_81 : decode cX8_addKind 81 = .ok (.aload_n 0, 1) := by decide +kernel
theorem dX8_addKind_82 : decode cX8_addKind 82 = .ok (.getfield 195, 3) := by decide +kernel
theorem dX8_addKind_85 : decode cX8_addKind 85 = .ok (.iload_n 2, 1) := by decide +kernel
theorem dX8_addKind_86 : decode cX8_addKind 86 = .ok (.iastore, 1) := by decide +kernel
theorem dX8_addKind_87 : decode cX8_addKind 87 = .ok (.aload_n 0, 1) := by decide +kernel
theorem dX8_addKind_88 : decode cX8_addKind 88 = .ok (.getfield 83, 3) := by decide +kernel
theorem dX8_addKind_91 : decode cX8_addKind 91 = .ok (.aload_n 0, 1) := by decide +kernel
theorem dX8_addKind_92 : decode cX8_addKind 92 = .ok (.getfield 195, 3) := by decide +kernel
theorem dX8_addKind_95 : decode cX8_addKind 95 = .ok (.iload_n 3, 1) := by decide +kernel
theorem dX8_addKind_96 : decode cX8_addKind 96 = .ok (.iastore, 1) := by decide +kernel
theorem dX8_addKind_97 : decode cX8_addKind 97 = .ok (.aload_n 0, 1) := by decide +kernel
theorem dX8_addKind_98 : decode cX8_addKind 98 = .ok (.dup, 1) := by decide +kernel
theorem dX8_addKind_99 : decode cX8_addKind 99 = .ok (.getfield 195, 3) := by decide +kernel
theorem dX8_addKind_102 : decode cX8_addKind 102 = .ok (.iconst 1, 1) := by decide +kernel
theorem dX8_addKind_103 : decode cX8_addKind 103 = .ok (.iadd, 1) := by decide +kernel
theorem dX8_addKind_104 : decode cX8_addKind 104 = .ok (.putfield 195, 3) := by decide +kernel
theorem dX8_addKind_107 : decode cX8_addKind 107 = .ok (.aload_n 0, 1) := by decide +kernel
theorem dX8_addKind_108 : decode cX8_addKind 108 = .ok (.getfield 195, 3) := by decide +kernel
theorem dX8_addKind_111 : decode cX8_addKind 111 = .ok (.iconst 1, 1) := by decide +kernel
theorem dX8_addKind_112 : decode cX8_addKind 112 = .ok (.isub, 1) := by decide +kernel
theorem dX8_addKind_113 : decode cX8_addKind 113 = .ok (.ireturn, 1) := by decide +kernel
set_option maxRecDepth 20000 in
theorem ggX8_addPallet_X8_in : GoodIn wsX8_addPallet wsX8_in := goodIn_r _ [12] (by decide +kernel) (by decide +kernel)
set_option maxRecDepth 20000 in
theorem gX8_addPallet_X8_in : GoodIn wsX8_addPallet (va_wsS RX8 122 yX8_in wsX8_in) := goodIn_app (goodIn_of _ (by decide +kernel)) ggX8_addPallet_X8_in
set_option maxRecDepth 20000 in
theorem ggX8_addPallet_X8_isRoom : GoodIn wsX8_addPallet wsX8_isRoom := goodIn_r _ [16, 17, 9, 10, 11, 12, 22, 23, 24, 25, 26, 27, 28, 29, 30, 31, 32, 33, 34, 35, 36, 37, 38, 39, 40, 41, 42, 43, 44, 45, 46, 47, 48, 49, 50, 51, 52, 53, 54, 55, 56, 57, 58, 59, 60, 61, 62, 63, 64, 65] (by decide +kernel) (by decide +kernel)
set_option maxRecDepth 20000 in
theorem gX8_addPallet_X8_isRoom : GoodIn wsX8_addPallet (wsV RX8 181 RX8 yX8_isRoom wsX8_isRoom) := goodIn_app (goodIn_of _ (by decide +kernel)) ggX8_addPallet_X8_isRoom
set_option maxRecDepth 20000 in
theorem ggX8_addPallet_X8_filled : GoodIn wsX8_addPallet wsX8_filled := goodIn_ca (goodIn_r _ [21, 2, 8, 5, 22, 23, 24, 25, 26, 27, 28, 29, 30, 31, 32, 33, 34, 35, 36, 37, 38, 39, 40, 41, 42, 43, 44, 45, 46, 47, 48, 49, 50, 51, 52, 53, 54, 55, 56, 57, 58, 59, 60, 61, 62, 63, 64, 65] (by decide +kernel) (by decide +kernel)) (goodIn_sub (fun _ h => List.mem_cons_of_mem _ (List.mem_append_right _ h)) (by decide +kernel))
set_option maxRecDepth 20000 in
theorem gX8_addPallet_X8_filled : GoodIn wsX8_addPallet (wsV RX8 185 RX8 yX8_filled wsX8_filled) := goodIn_app (goodIn_of _ (by decide +kernel)) ggX8_addPallet_X8_filled
theorem dX8_addPallet_0 : decode cX8_addPallet 0 = .ok (.aload_n 0, 1) := by decide +kernel
theorem dX8_addPallet_1 : decode cX8_addPallet 1 = .ok (.iload_n 1, 1) := by decide +kernel
theorem dX8_addPallet_2 : decode cX8_addPallet 2 = .ok (.iconst 0, 1) := by decide +kernel
theorem dX8_addPallet_3 : decode cX8_addPallet 3 = .ok (.aload_n 0, 1) := by decide +kernel
theorem dX8_addPallet_4 : decode cX8_addPallet 4 = .ok (.getfield 195, 3) := by decide +kernel
theorem dX8_addPallet_7 : decode cX8_addPallet 7 = .ok (.iconst 1, 1) := by decide +kernel
theorem dX8_addPallet_8 : decode cX8_addPallet 8 = .ok (.isub, 1) := by decide +kernel
theorem dX8_addPallet_9 : decode cX8_addPallet 9 = .ok (.invokestatic 122, 3) := by decide +kernel
theorem dX8_addPallet_12 : decode cX8_addPallet 12 = .ok (.ifCond .eq 11, 3) := by decide +kernel
theorem dX8_addPallet_15 : decode cX8_addPallet 15 = .ok (.aload_n 0, 1) := by decide +kernel
theorem dX8_addPallet_16 : decode cX8_addPallet 16 = .ok (.iload_n 2, 1) := by decide +kernel
theorem dX8_addPallet_17 : decode cX8_addPallet 17 = .ok (.invokevirtual 181, 3) := by decide +kernel
theorem dX8_addPallet_20 : decode cX8_addPallet 20 = .ok (.ifCond .ne 7, 3) := by decide +kernel
theorem dX8_addPallet_23 : decode cX8_addPallet 23 = .ok (.iconst 1, 1) := by decide +kernel
theorem dX8_addPallet_24 : decode cX8_addPallet 24 = .ok (.goto 27, 3) := by decide +kernel
theorem dX8_addPallet_27 : decode cX8_addPallet 27 = .ok (.aload_n 0, 1) := by decide +kernel
theorem dX8_addPallet_28 : decode cX8_addPallet 28 = .ok (.getfield 126, 3) := by decide +kernel
theorem dX8_addPallet_31 : decode cX8_addPallet 31 = .ok (.bipush 24, 2) := by decide +kernel
theorem dX8_addPallet_33 : decode cX8_addPallet 33 = .ok (.if_icmp .eq 13, 3) := by decide +kernel
theorem dX8_addPallet_36 : decode cX8_addPallet 36 = .ok (.aload_n 0, 1) := by decide +kernel
theorem dX8_addPallet_37 : decode cX8_addPallet 37 = .ok (.iload_n 2, 1) := by decide +kernel
theorem dX8_addPallet_38 : decode cX8_addPallet 38 = .ok (.invokevirtual 185, 3) := by decide +kernel
theorem dX8_addPallet_41 : decode cX8_addPallet 41 = .ok (.bipush 8, 2) := by decide +kernel
theorem dX8_addPallet_43 : decode cX8_addPallet 43 = .ok (.if_icmp .ne 7, 3) := by decide +kernel
theorem dX8_addPallet_46 : decode cX8_addPallet 46 = .ok (.iconst 2, 1) := by decide +kernel
theorem dX8_addPallet_47 : decode cX8_addPallet 47 = .ok (.goto 4, 3) := by decide +kernel
theorem dX8_addPallet_50 : decode cX8_addPallet 50 = .ok (.iconst 0, 1) := by decide +kernel
theorem dX8_addPallet_51 : decode cX8_addPallet 51 = .ok (.putfield 116, 3) := by decide +kernel
theorem dX8_addPallet_54 : decode cX8_addPallet 54 = .ok (.aload_n 0, 1) := by decide +kernel
theorem dX8_addPallet_55 : decode cX8_addPallet 55 = .ok (.getfield 116, 3) := by decide +kernel
theorem dX8_addPallet_58 : decode cX8_addPallet 58 = .ok (.ifCond .le 5, 3) := by decide +kernel
theorem dX8_addPallet_61 : decode cX8_addPallet 61 = .ok (.iconst 0, 1) := by decide +kernel
theorem dX8_addPallet_62 : decode cX8_addPallet 62 = .ok (.ireturn, 1) := by decide +kernel
theorem dX8_addPallet_63 : decode cX8_addPallet 63 = .ok (.aload_n 0, 1) := by decide +kernel
theorem dX8_addPallet_64 : decode cX8_addPallet 64 = .ok (.getfield 86, 3) := by decide +kernel
theorem dX8_addPallet_67 : decode cX8_addPallet 67 = .ok (.aload_n 0, 1) := by decide +kernel
theorem dX8_addPallet_68 : decode cX8_addPallet 68 = .ok (.getfield 126, 3) := by decide +kernel
theorem dX8_addPallet_71 : decode cX8_addPallet 71 = .ok (.iload_n 1, 1) := by decide +kernel
theorem dX8_addPallet_72 : decode cX8_addPallet 72 = .ok (.iastore, 1) := by decide +kernel
theorem dX8_addPallet_73 : decode cX8_addPallet 73 = .ok (.aload_n 0, 1) := by decide +kernel
theorem dX8_addPallet_74 : decode cX8_addPallet 74 = .ok (.getfield 89, 3) := by decide +kernel
theorem dX8_addPallet_77 : decode cX8_addPallet 77 = .ok (.aload_n 0, 1) := by decide +kernel
theorem dX8_addPallet_78 : decode cX8_addPallet 78 = .ok (.getfield 126, 3) := by decide +kernel
theorem dX8_addPallet_81 : decode cX8_addPallet 81 = .ok (.iload_n 2, 1) := by decide +kernel
theorem dX8_addPallet_82 : decode cX8_addPallet 82 = .ok (.iastore, 1) := by decide +kernel
theorem dX8_addPallet_83 : decode cX8_addPallet 83 = .ok (.aload_n 0, 1) := by decide +kernel
theorem dX8_addPallet_84 : decode cX8_addPallet 84 = .ok (.getfield 92, 3) := by decide +kernel
theorem dX8_addPallet_87 : decode cX8_addPallet 87 = .ok (.aload_n 0, 1) := by decide +kernel
theorem dX8_addPallet_88 : decode cX8_addPallet 88 = .ok (.getfield 126, 3) := by decide +kernel
theorem dX8_addPallet_91 : decode cX8_addPallet 91 = .ok (.aload_n 0, 1) := by decide +kernel
theorem dX8_addPallet_92 : decode cX8_addPallet 92 = .ok (.getfield 77, 3) := by decide +kernel
theorem dX8_addPallet_95 : decode cX8_addPallet 95 = .ok (.iload_n 1, 1) := by decide +kernel
theorem dX8_addPallet_96 : decode cX8_addPallet 96 = .ok (.iaload, 1) := by decide +kernel
theorem dX8_addPallet_97 : decode cX8_addPallet 97 = .ok (.iastore, 1) := by decide +kernel
theorem dX8_addPallet_98 : decode cX8_addPallet 98 = .ok (.aload_n 0, 1) := by decide +kernel
theorem dX8_addPallet_99 : decode cX8_addPallet 99 = .ok (.getfield 95, 3) := by decide +kernel
theorem dX8_addPallet_102 : decode cX8_addPallet 102 = .ok (.aload_n 0, 1) := by decide +kernel
theorem dX8_addPallet_103 : decode cX8_addPallet 103 = .ok (.getfield 126, 3) := by decide +kernel
theorem dX8_addPallet_106 : decode cX8_addPallet 106 = .ok (.bipush 114, 2) := by decide +kernel
theorem dX8_addPallet_108 : decode cX8_addPallet 108 = .ok (.castore, 1) := by decide +kernel
theorem dX8_addPallet_109 : decode cX8_addPallet 109 = .ok (.aload_n 0, 1) := by decide +kernel
theorem dX8_addPallet_110 : decode cX8_addPallet 110 = .ok (.dup, 1) := by decide +kernel
theorem dX8_addPallet_111 : decode cX8_addPallet 111 = .ok (.getfield 126, 3) := by decide +kernel
theorem dX8_addPallet_114 : decode cX8_addPallet 114 = .ok (.iconst 1, 1) := by decide +kernel
theorem dX8_addPallet_115 : decode cX8_addPallet 115 = .ok (.iadd, 1) := by decide +kernel
theorem dX8_addPallet_116 : decode cX8_addPallet 116 = .ok (.putfield 126, 3) := by decide +kernel
theorem dX8_addPallet_119 : decode cX8_addPallet 119 = .ok (.aload_n 0, 1) := by decide +kernel
theorem dX8_addPallet_120 : decode cX8_addPallet 120 = .ok (.getfield 126, 3) := by decide +kernel
theorem dX8_addPallet_123 : decode cX8_addPallet 123 = .ok (.iconst 1, 1) := by decide +kernel
theorem dX8_addPallet_124 : decode cX8_addPallet 124 = .ok (.isub, 1) := by decide +kernel
theorem dX8_addPallet_125 : decode cX8_addPallet 125 = .ok (.ireturn, 1) := by decide +kernel
set_option maxRecDepth 20000 in
theorem ggX8_movePallet_X8_isPallet : GoodIn wsX8_movePallet wsX8_isPallet := goodIn_r _ [8, 9, 10, 11, 7, 12, 22, 23, 24, 25, 26, 27, 28, 29, 30, 31, 32, 33, 34, 35, 36, 37, 38, 39, 40, 41, 42, 43, 44, 45, 46, 47, 48, 49, 50, 51, 52, 53, 54, 55, 56, 57, 58, 59, 60, 61, 62, 63, 64, 65] (by decide +kernel) (by decide +kernel)
set_option maxRecDepth 20000 in
theorem gX8_movePallet_X8_isPallet : GoodIn wsX8_movePallet (wsV RX8 198 RX8 yX8_isPallet wsX8_isPallet) := goodIn_app (goodIn_of _ (by decide +kernel)) ggX8_movePallet_X8_isPallet
set_option maxRecDepth 20000 in
theorem ggX8_movePallet_X8_isRoom : GoodIn wsX8_movePallet wsX8_isRoom := goodIn_r _ [16, 17, 10, 11, 7, 12, 22, 23, 24, 25, 26, 27, 28, 29, 30, 31, 32, 33, 34, 35, 36, 37, 38, 39, 40, 41, 42, 43, 44, 45, 46, 47, 48, 49, 50, 51, 52, 53, 54, 55, 56, 57, 58, 59, 60, 61, 62, 63, 64, 65] (by decide +kernel) (by decide +kernel)
set_option maxRecDepth 20000 in
theorem gX8_movePallet_X8_isRoom : GoodIn wsX8_movePallet (wsV RX8 181 RX8 yX8_isRoom wsX8_isRoom) := goodIn_app (goodIn_of _ (by decide +kernel)) ggX8_movePallet_X8_isRoom
set_option maxRecDepth 20000 in
theorem ggX8_movePallet_X8_filled : GoodIn wsX8_movePallet wsX8_filled := goodIn_ca (goodIn_r _ [21, 9, 1, 2, 22, 23, 24, 25, 26, 27, 28, 29, 30, 31, 32, 33, 34, 35, 36, 37, 38, 39, 40, 41, 42, 43, 44, 45, 46, 47, 48, 49, 50, 51, 52, 53, 54, 55, 56, 57, 58, 59, 60, 61, 62, 63, 64, 65] (by decide +kernel) (by decide +kernel)) (goodIn_sub (fun _ h => List.mem_cons_of_mem _ (List.mem_append_right _ h)) (by decide +kernel))
set_option maxRecDepth 20000 in
theorem gX8_movePallet_X8_filled : GoodIn wsX8_movePallet (wsV RX8 185 RX8 yX8_filled wsX8_filled) := goodIn_app (goodIn_of _ (by decide +kernel)) ggX8_movePallet_X8_filled
theorem dX8_movePallet_0 : decode cX8_movePallet 0 = .ok (.aload_n 0, 1) := by decide +kernel
theorem dX8_movePallet_1 : decode cX8_movePallet 1 = .ok (.aload_n 0, 1) := by decide +kernel
theorem dX8_movePallet_2 : decode cX8_movePallet 2 = .ok (.iload_n 1, 1) := by decide +kernel
theorem dX8_movePallet_3 : decode cX8_movePallet 3 = .ok (.invokevirtual 198, 3) := by decide +kernel
theorem dX8_movePallet_6 : decode cX8_movePallet 6 = .ok (.ifCond .eq 11, 3) := by decide +kernel
theorem dX8_movePallet_9 : decode cX8_movePallet 9 = .ok (.aload_n 0, 1) := by decide +kernel
theorem dX8_movePallet_10 : decode cX8_movePallet 10 = .ok (.iload_n 2, 1) := by decide +kernel
theorem dX8_movePallet_11 : decode cX8_movePallet 11 = .ok (.invokevirtual 181, 3) := by decide +kernel
theorem dX8_movePallet_14 : decode cX8_movePallet 14 = .ok (.ifCond .ne 7, 3) := by decide +kernel
theorem dX8_movePallet_17 : decode cX8_movePallet 17 = .ok (.iconst 1, 1) := by decide +kernel
theorem dX8_movePallet_18 : decode cX8_movePallet 18 = .ok (.goto 43, 3) := by decide +kernel
theorem dX8_movePallet_21 : decode cX8_movePallet 21 = .ok (.aload_n 0, 1) := by decide +kernel
theorem dX8_movePallet_22 : decode cX8_movePallet 22 = .ok (.getfield 95, 3) := by decide +kernel
theorem dX8_movePallet_25 : decode cX8_movePallet 25 = .ok (.iload_n 1, 1) := by decide +kernel
theorem dX8_movePallet_26 : decode cX8_movePallet 26 = .ok (.caload, 1) := by decide +kernel
theorem dX8_movePallet_27 : decode cX8_movePallet 27 = .ok (.bipush 114, 2) := by decide +kernel
theorem dX8_movePallet_29 : decode cX8_movePallet 29 = .ok (.if_icmp .eq 7, 3) := by decide +kernel
theorem dX8_movePallet_32 : decode cX8_movePallet 32 = .ok (.iconst 2, 1) := by decide +kernel
theorem dX8_movePallet_33 : decode cX8_movePallet 33 = .ok (.goto 28, 3) := by decide +kernel
theorem dX8_movePallet_36 : decode cX8_movePallet 36 = .ok (.aload_n 0, 1) := by decide +kernel
theorem dX8_movePallet_37 : decode cX8_movePallet 37 = .ok (.getfield 89, 3) := by decide +kernel
theorem dX8_movePallet_40 : decode cX8_movePallet 40 = .ok (.iload_n 1, 1) := by decide +kernel
theorem dX8_movePallet_41 : decode cX8_movePallet 41 = .ok (.iaload, 1) := by decide +kernel
theorem dX8_movePallet_42 : decode cX8_movePallet 42 = .ok (.iload_n 2, 1) := by decide +kernel
theorem dX8_movePallet_43 : decode cX8_movePallet 43 = .ok (.if_icmp .eq 17, 3) := by decide +kernel
theorem dX8_movePallet_46 : decode cX8_movePallet 46 = .ok (.aload_n 0, 1) := by decide +kernel
theorem dX8_movePallet_47 : decode cX8_movePallet 47 = .ok (.iload_n 2, 1) := by decide +kernel
theorem dX8_movePallet_48 : decode cX8_movePallet 48 = .ok (.invokevirtual 185, 3) := by decide +kernel
theorem dX8_movePallet_51 : decode cX8_movePallet 51 = .ok (.bipush 8, 2) := by decide +kernel
theorem dX8_movePallet_53 : decode cX8_movePallet 53 = .ok (.if_icmp .ne 7, 3) := by decide +kernel
theorem dX8_movePallet_56 : decode cX8_movePallet 56 = .ok (.iconst 3, 1) := by decide +kernel
theorem dX8_movePallet_57 : decode cX8_movePallet 57 = .ok (.goto 4, 3) := by decide +kernel
theorem dX8_movePallet_60 : decode cX8_movePallet 60 = .ok (.iconst 0, 1) := by decide +kernel
theorem dX8_movePallet_61 : decode cX8_movePallet 61 = .ok (.putfield 116, 3) := by decide +kernel
theorem dX8_movePallet_64 : decode cX8_movePallet 64 = .ok (.aload_n 0, 1) := by decide +kernel
theorem dX8_movePallet_65 : decode cX8_movePallet 65 = .ok (.getfield 116, 3) := by decide +kernel
theorem dX8_movePallet_68 : decode cX8_movePallet 68 = .ok (.ifCond .le 5, 3) := by decide +kernel
theorem dX8_movePallet_71 : decode cX8_movePallet 71 = .ok (.iconst 0, 1) := by decide +kernel
theorem dX8_movePallet_72 : decode cX8_movePallet 72 = .ok (.ireturn, 1) := by decide +kernel
theorem dX8_movePallet_73 : decode cX8_movePallet 73 = .ok (.aload_n 0, 1) := by decide +kernel
theorem dX8_movePallet_74 : decode cX8_movePallet 74 = .ok (.getfield 89, 3) := by decide +kernel
theorem dX8_movePallet_77 : decode cX8_movePallet 77 = .ok (.iload_n 1, 1) := by decide +kernel
theorem dX8_movePallet_78 : decode cX8_movePallet 78 = .ok (.iaload, 1) := by decide +kernel
theorem dX8_movePallet_79 : decode cX8_movePallet 79 = .ok (.istore_n 3, 1) := by decide +kernel
theorem dX8_movePallet_80 : decode cX8_movePallet 80 = .ok (.aload_n 0, 1) := by decide +kernel
theorem dX8_movePallet_81 : decode cX8_movePallet 81 = .ok (.getfield 89, 3) := by decide +kernel
theorem dX8_movePallet_84 : decode cX8_movePallet 84 = .ok (.iload_n 1, 1) := by decide +kernel
theorem dX8_movePallet_85 : decode cX8_movePallet 85 = .ok (.iload_n 2, 1) := by decide +kernel
theorem dX8_movePallet_86 : decode cX8_movePallet 86 = .ok (.iastore, 1) := by decide +kernel
theorem dX8_movePallet_87 : decode cX8_movePallet 87 = .ok (.iload_n 3, 1) := by decide +kernel
theorem dX8_movePallet_88 : decode cX8_movePallet 88 = .ok (.ireturn, 1) := by decide +kernel
set_option maxRecDepth 20000 in
theorem ggX8_scrap_X8_isPallet : GoodIn wsX8_scrap wsX8_isPallet := goodIn_r _ [8, 9, 10, 11, 7, 12, 13, 14, 15, 16, 17, 18, 19, 20, 21, 22, 23, 24, 25, 26, 27, 28, 29, 30, 31, 32, 33, 34, 35, 36, 37, 38, 39, 40, 41, 42, 43, 44, 45, 46, 47, 48, 49, 50, 51, 52, 53, 54, 55, 56] (by decide +kernel) (by decide +kernel)
set_option maxRecDepth 20000 in
theorem gX8_scrap_X8_isPallet : GoodIn wsX8_scrap (wsV RX8 198 RX8 yX8_isPallet wsX8_isPallet) := goodIn_app (goodIn_of _ (by decide +kernel)) ggX8_scrap_X8_isPallet
theorem dX8_scrap_0 : decode cX8_scrap 0 = .ok (.aload_n 0, 1) := by decide +kernel
theorem dX8_scrap_1 : decode cX8_scrap 1 = .ok (.aload_n 0, 1) := by decide +kernel
theorem dX8_scrap_2 : decode cX8_scrap 2 = .ok (.iload_n 1, 1) := by decide +kernel
theorem dX8_scrap_3 : decode cX8_scrap 3 = .ok (.invokevirtual 198, 3) := by decide +kernel
theorem dX8_scrap_6 : decode cX8_scrap 6 = .ok (.ifCond .ne 7, 3) := by decide +kernel
theorem dX8_scrap_9 : decode cX8_scrap 9 = .ok (.iconst 1, 1) := by decide +kernel
theorem dX8_scrap_10 : decode cX8_scrap 10 = .ok (.goto 19, 3) := by decide +kernel
theorem dX8_scrap_13 : decode cX8_scrap 13 = .ok (.aload_n 0, 1) := by decide +kernel
theorem dX8_scrap_14 : decode cX8_scrap 14 = .ok (.getfield 95, 3) := by decide +kernel
theorem dX8_scrap_17 : decode cX8_scrap 17 = .ok (.iload_n 1, 1) := by decide +kernel
theorem dX8_scrap_18 : decode cX8_scrap 18 = .ok (.caload, 1) := by decide +kernel
theorem dX8_scrap_19 : decode cX8_scrap 19 = .ok (.bipush 114, 2) := by decide +kernel
theorem dX8_scrap_21 : decode cX8_scrap 21 = .ok (.if_icmp .eq 7, 3) := by decide +kernel
theorem dX8_scrap_24 : decode cX8_scrap 24 = .ok (.iconst 2, 1) := by decide +kernel
theorem dX8_scrap_25 : decode cX8_scrap 25 = .ok (.goto 4, 3) := by decide +kernel
theorem dX8_scrap_28 : decode cX8_scrap 28 = .ok (.iconst 0, 1) := by decide +kernel
theorem dX8_scrap_29 : decode cX8_scrap 29 = .ok (.putfield 116, 3) := by decide +kernel
theorem dX8_scrap_32 : decode cX8_scrap 32 = .ok (.aload_n 0, 1) := by decide +kernel
theorem dX8_scrap_33 : decode cX8_scrap 33 = .ok (.getfield 116, 3) := by decide +kernel
theorem dX8_scrap_36 : decode cX8_scrap 36 = .ok (.ifCond .le 5, 3) := by decide +kernel
theorem dX8_scrap_39 : decode cX8_scrap 39 = .ok (.iconst 0, 1) := by decide +kernel
theorem dX8_scrap_40 : decode cX8_scrap 40 = .ok (.ireturn, 1) := by decide +kernel
theorem dX8_scrap_41 : decode cX8_scrap 41 = .ok (.aload_n 0, 1) := by decide +kernel
theorem dX8_scrap_42 : decode cX8_scrap 42 = .ok (.getfield 95, 3) := by decide +kernel
theorem dX8_scrap_45 : decode cX8_scrap 45 = .ok (.iload_n 1, 1) := by decide +kernel
theorem dX8_scrap_46 : decode cX8_scrap 46 = .ok (.bipush 120, 2) := by decide +kernel
theorem dX8_scrap_48 : decode cX8_scrap 48 = .ok (.castore, 1) := by decide +kernel
theorem dX8_scrap_49 : decode cX8_scrap 49 = .ok (.aload_n 0, 1) := by decide +kernel
theorem dX8_scrap_50 : decode cX8_scrap 50 = .ok (.getfield 92, 3) := by decide +kernel
theorem dX8_scrap_53 : decode cX8_scrap 53 = .ok (.iload_n 1, 1) := by decide +kernel
theorem dX8_scrap_54 : decode cX8_scrap 54 = .ok (.iaload, 1) := by decide +kernel
theorem dX8_scrap_55 : decode cX8_scrap 55 = .ok (.ireturn, 1) := by decide +kernel
theorem dX8_pallets_0 : decode cX8_pallets 0 = .ok (.aload_n 0, 1) := by decide +kernel
theorem dX8_pallets_1 : decode cX8_pallets 1 = .ok (.iconst 0, 1) := by decide +kernel
theorem dX8_pallets_2 : decode cX8_pallets 2 = .ok (.putfield 116, 3) := by decide +kernel
theorem dX8_pallets_5 : decode cX8_pallets 5 = .ok (.aload_n 0, 1) := by decide +kernel
theorem dX8_pallets_6 : decode cX8_pallets 6 = .ok (.getfield 126, 3) := by decide +kernel
theorem dX8_pallets_9 : decode cX8_pallets 9 = .ok (.ireturn, 1) := by decide +kernel
set_option maxRecDepth 20000 in
theorem ggX8_state_X8_isPallet : GoodIn wsX8_state wsX8_isPallet := goodIn_r _ [7, 8, 9, 10, 6, 11, 12, 13, 14, 15, 16, 17, 18, 19, 20, 21, 22, 23, 24, 25, 26, 27, 28, 29, 30, 31, 32, 33, 34, 35, 36, 37, 38, 39, 40, 41, 42, 43, 44, 45, 46, 47, 48, 49, 50, 51, 52, 53, 54, 55] (by decide +kernel) (by decide +kernel)
set_option maxRecDepth 20000 in
theorem gX8_state_X8_isPallet : GoodIn wsX8_state (wsV RX8 198 RX8 yX8_isPallet wsX8_isPallet) := goodIn_app (goodIn_of _ (by decide +kernel)) ggX8_state_X8_isPallet
theorem dX8_state_0 : decode cX8_state 0 = .ok (.aload_n 0, 1) := by decide +kernel
theorem dX8_state_1 : decode cX8_state 1 = .ok (.aload_n 0, 1) := by decide +kernel
theorem dX8_state_2 : decode cX8_state 2 = .ok (.iload_n 1, 1) := by decide +kernel
theorem dX8_state_3 : decode cX8_state 3 = .ok (.invokevirtual 198, 3) := by decide +kernel
theorem dX8_state_6 : decode cX8_state 6 = .ok (.ifCond .eq 7, 3) := by decide +kernel
theorem dX8_state_9 : decode cX8_state 9 = .ok (.iconst 0, 1) := by decide +kernel
theorem dX8_state_10 : decode cX8_state 10 = .ok (.goto 4, 3) := by decide +kernel
theorem dX8_state_13 : decode cX8_state 13 = .ok (.iconst 1, 1) := by decide +kernel
theorem dX8_state_14 : decode cX8_state 14 = .ok (.putfield 116, 3) := by decide +kernel
theorem dX8_state_17 : decode cX8_state 17 = .ok (.aload_n 0, 1) := by decide +kernel
theorem dX8_state_18 : decode cX8_state 18 = .ok (.getfield 116, 3) := by decide +kernel
theorem dX8_state_21 : decode cX8_state 21 = .ok (.ifCond .le 8, 3) := by decide +kernel
theorem dX8_state_24 : decode cX8_state 24 = .ok (.bipush 32, 2) := by decide +kernel
theorem dX8_state_26 : decode cX8_state 26 = .ok (.goto 9, 3) := by decide +kernel
theorem dX8_state_29 : decode cX8_state 29 = .ok (.aload_n 0, 1) := by decide +kernel
theorem dX8_state_30 : decode cX8_state 30 = .ok (.getfield 95, 3) := by decide +kernel
theorem dX8_state_33 : decode cX8_state 33 = .ok (.iload_n 1, 1) := by decide +kernel
theorem dX8_state_34 : decode cX8_state 34 = .ok (.caload, 1) := by decide +kernel
theorem dX8_state_35 : decode cX8_state 35 = .ok (.ireturn, 1) := by decide +kernel
set_option maxRecDepth 20000 in
theorem ggX8_roomOf_X8_isPallet : GoodIn wsX8_roomOf wsX8_isPallet := goodIn_r _ [8, 9, 10, 11, 7, 12, 13, 14, 15, 16, 17, 18, 19, 20, 21, 22, 23, 24, 25, 26, 27, 28, 29, 30, 31, 32, 33, 34, 35, 36, 37, 38, 39, 40, 41, 42, 43, 44, 45, 46, 47, 48, 49, 50, 51, 52, 53, 54, 55, 56] (by decide +kernel) (by decide +kernel)
set_option maxRecDepth 20000 in
theorem gX8_roomOf_X8_isPallet : GoodIn wsX8_roomOf (wsV RX8 198 RX8 yX8_isPallet wsX8_isPallet) := goodIn_app (goodIn_of _ (by decide +kernel)) ggX8_roomOf_X8_isPallet
theorem dX8_roomOf_0 : decode cX8_roomOf 0 = .ok (.aload_n 0, 1) := by decide +kernel
theorem dX8_roomOf_1 : decode cX8_roomOf 1 = .ok (.aload_n 0, 1) := by decide +kernel
theorem dX8_roomOf_2 : decode cX8_roomOf 2 = .ok (.iload_n 1, 1) := by decide +kernel
theorem dX8_roomOf_3 : decode cX8_roomOf 3 = .ok (.invokevirtual 198, 3) := by decide +kernel
theorem dX8_roomOf_6 : decode cX8_roomOf 6 = .ok (.ifCond .ne 7, 3) := by decide +kernel
theorem dX8_roomOf_9 : decode cX8_roomOf 9 = .ok (.iconst 1, 1) := by decide +kernel
theorem dX8_roomOf_10 : decode cX8_roomOf 10 = .ok (.goto 19, 3) := by decide +kernel
theorem dX8_roomOf_13 : decode cX8_roomOf 13 = .ok (.aload_n 0, 1) := by decide +kernel
theorem dX8_roomOf_14 : decode cX8_roomOf 14 = .ok (.getfield 95, 3) := by decide +kernel
theorem dX8_roomOf_17 : decode cX8_roomOf 17 = .ok (.iload_n 1, 1) := by decide +kernel
theorem dX8_roomOf_18 : decode cX8_roomOf 18 = .ok (.caload, 1) := by decide +kernel
theorem dX8_roomOf_19 : decode cX8_roomOf 19 = .ok (.bipush 114, 2) := by decide +kernel
theorem dX8_roomOf_21 : decode cX8_roomOf 21 = .ok (.if_icmp .eq 7, 3) := by decide +kernel
theorem dX8_roomOf_24 : decode cX8_roomOf 24 = .ok (.iconst 2, 1) := by decide +kernel
theorem dX8_roomOf_25 : decode cX8_roomOf 25 = .ok (.goto 4, 3) := by decide +kernel
theorem dX8_roomOf_28 : decode cX8_roomOf 28 = .ok (.iconst 0, 1) := by decide +kernel
theorem dX8_roomOf_29 : decode cX8_roomOf 29 = .ok (.putfield 116, 3) := by decide +kernel
theorem dX8_roomOf_32 : decode cX8_roomOf 32 = .ok (.aload_n 0, 1) := by decide +kernel
theorem dX8_roomOf_33 : decode cX8_roomOf 33 = .ok (.getfield 116, 3) := by decide +kernel
theorem dX8_roomOf_36 : decode cX8_roomOf 36 = .ok (.ifCond .le 7, 3) := by decide +kernel
theorem dX8_roomOf_39 : decode cX8_roomOf 39 = .ok (.iconst 0, 1) := by decide +kernel
theorem dX8_roomOf_40 : decode cX8_roomOf 40 = .ok (.goto 9, 3) := by decide +kernel
theorem dX8_roomOf_43 : decode cX8_roomOf 43 = .ok (.aload_n 0, 1) := by decide +kernel
theorem dX8_roomOf_44 : decode cX8_roomOf 44 = .ok (.getfield 89, 3) := by decide +kernel
theorem dX8_roomOf_47 : decode cX8_roomOf 47 = .ok (.iload_n 1, 1) := by decide +kernel
theorem dX8_roomOf_48 : decode cX8_roomOf 48 = .ok (.iaload, 1) := by decide +kernel
theorem dX8_roomOf_49 : decode cX8_roomOf 49 = .ok (.ireturn, 1) := by decide +kernel
set_option maxRecDepth 20000 in
theorem ggX8_life_X8_isPallet : GoodIn wsX8_life wsX8_isPallet := goodIn_r _ [7, 8, 9, 10, 6, 11, 12, 13, 14, 15, 16, 17, 18, 19, 20, 21, 22, 23, 24, 25, 26, 27, 28, 29, 30, 31, 32, 33, 34, 35, 36, 37, 38, 39, 40, 41, 42, 43, 44, 45, 46, 47, 48, 49, 50, 51, 52, 53, 54, 55] (by decide +kernel) (by decide +kernel)
set_option maxRecDepth 20000 in
theorem gX8_life_X8_isPallet : GoodIn wsX8_life (wsV RX8 198 RX8 yX8_isPallet wsX8_isPallet) := goodIn_app (goodIn_of _ (by decide +kernel)) ggX8_life_X8_isPallet
theorem dX8_life_0 : decode cX8_life 0 = .ok (.aload_n 0, 1) := by decide +kernel
theorem dX8_life_1 : decode cX8_life 1 = .ok (.aload_n 0, 1) := by decide +kernel
theorem dX8_life_2 : decode cX8_life 2 = .ok (.iload_n 1, 1) := by decide +kernel
theorem dX8_life_3 : decode cX8_life 3 = .ok (.invokevirtual 198, 3) := by decide +kernel
theorem dX8_life_6 : decode cX8_life 6 = .ok (.ifCond .eq 7, 3) := by decide +kernel
theorem dX8_life_9 : decode cX8_life 9 = .ok (.iconst 0, 1) := by decide +kernel
theorem dX8_life_10 : decode cX8_life 10 = .ok (.goto 4, 3) := by decide +kernel
theorem dX8_life_13 : decode cX8_life 13 = .ok (.iconst 1, 1) := by decide +kernel
theorem dX8_life_14 : decode cX8_life 14 = .ok (.putfield 116, 3) := by decide +kernel
theorem dX8_life_17 : decode cX8_life 17 = .ok (.aload_n 0, 1) := by decide +kernel
theorem dX8_life_18 : decode cX8_life 18 = .ok (.getfield 116, 3) := by decide +kernel
theorem dX8_life_21 : decode cX8_life 21 = .ok (.ifCond .le 7, 3) := by decide +kernel
theorem dX8_life_24 : decode cX8_life 24 = .ok (.iconst 0, 1) := by decide +kernel
theorem dX8_life_25 : decode cX8_life 25 = .ok (.goto 9, 3) := by decide +kernel
theorem dX8_life_28 : decode cX8_life 28 = .ok (.aload_n 0, 1) := by decide +kernel
theorem dX8_life_29 : decode cX8_life 29 = .ok (.getfield 92, 3) := by decide +kernel
theorem dX8_life_32 : decode cX8_life 32 = .ok (.iload_n 1, 1) := by decide +kernel
theorem dX8_life_33 : decode cX8_life 33 = .ok (.iaload, 1) := by decide +kernel
theorem dX8_life_34 : decode cX8_life 34 = .ok (.ireturn, 1) := by decide +kernel
set_option maxRecDepth 20000 in
theorem ggX8_lifeByRecords_X8_life : GoodIn wsX8_lifeByRecords wsX8_life := goodIn_ca (goodIn_r _ [5, 6, 7, 8, 9, 10, 4, 11, 12, 13, 14, 15, 16, 17, 18, 19, 20, 21, 22, 23, 24, 25, 26, 27, 28, 29, 30, 31, 32, 33, 34, 35, 36, 37, 38, 39, 40, 41, 42, 43, 44, 45, 46, 47, 48, 49, 50, 51, 52, 53, 54, 55, 56, 57, 58, 59] (by decide +kernel) (by decide +kernel)) (goodIn_sub (fun _ h => List.mem_cons_of_mem _ (List.mem_append_right _ h)) (by decide +kernel))
set_option maxRecDepth 20000 in
theorem gX8_lifeByRecords_X8_life : GoodIn wsX8_lifeByRecords (wsV RX8 201 RX8 yX8_life wsX8_life) := goodIn_app (goodIn_of _ (by decide +kernel)) ggX8_lifeByRecords_X8_life
theorem dX8_lifeByRecords_0 : decode cX8_lifeByRecords 0 = .ok (.aload_n 0, 1) := by decide +kernel
theorem dX8_lifeByRecords_1 : decode cX8_lifeByRecords 1 = .ok (.iload_n 1, 1) := by decide +kernel
theorem dX8_lifeByRecords_2 : decode cX8_lifeByRecords 2 = .ok (.invokevirtual 201, 3) := by decide +kernel
theorem dX8_lifeByRecords_5 : decode cX8_lifeByRecords 5 = .ok (.ireturn, 1) := by decide +kernel
set_option maxRecDepth 20000 in
theorem ggX8_forecast_X8_isPallet : GoodIn wsX8_forecast wsX8_isPallet := goodIn_r _ [14, 15, 16, 17, 13, 18, 26, 27, 28, 29, 30, 31, 32, 33, 34, 35, 36, 37, 38, 39, 40, 41, 42, 43, 44, 45, 46, 47, 48, 49, 50, 51, 52, 53, 54, 55, 56, 57, 58, 59, 60, 61, 62, 63, 64, 65, 66, 67, 68, 69] (by decide +kernel) (by decide +kernel)
set_option maxRecDepth 20000 in
theorem gX8_forecast_X8_isPallet : GoodIn wsX8_forecast (wsV RX8 198 RX8 yX8_isPallet wsX8_isPallet) := goodIn_app (goodIn_of _ (by decide +kernel)) ggX8_forecast_X8_isPallet
set_option maxRecDepth 20000 in
theorem ggX8_forecast_X8_in : GoodIn wsX8_forecast wsX8_in := goodIn_r _ [18] (by decide +kernel) (by decide +kernel)
set_option maxRecDepth 20000 in
theorem gX8_forecast_X8_in : GoodIn wsX8_forecast (va_wsS RX8 122 yX8_in wsX8_in) := goodIn_app (goodIn_of _ (by decide +kernel)) ggX8_forecast_X8_in
set_option maxRecDepth 20000 in
theorem ggX8_forecast_X8_loss : GoodIn wsX8_forecast wsX8_loss := goodIn_ca (goodIn_r _ [22, 23, 24, 25, 6, 7, 8, 9, 26, 27, 28, 29, 30, 31, 32, 33, 34, 35, 36, 37, 38, 39, 40, 41, 42, 43, 44, 45, 46, 47, 48, 49, 50, 51, 52, 53, 54, 55, 56, 57, 58, 59, 60, 61, 62, 63, 64, 65, 66, 67, 68, 69] (by decide +kernel) (by decide +kernel)) (goodIn_sub (fun _ h => List.mem_cons_of_mem _ (List.mem_append_right _ h)) (by decide +kernel))
set_option maxRecDepth 20000 in
theorem gX8_forecast_X8_loss : GoodIn wsX8_forecast (wsV RX8 168 RX8 yX8_loss wsX8_loss) := goodIn_app (goodIn_of _ (by decide +kernel)) ggX8_forecast_X8_loss
theorem dX8_forecast_0 : decode cX8_forecast 0 = .ok (.aload_n 0, 1) := by decide +kernel
theorem dX8_forecast_1 : decode cX8_forecast 1 = .ok (.aload_n 0, 1) := by decide +kernel
theorem dX8_forecast_2 : decode cX8_forecast 2 = .ok (.iload_n 1, 1) := by decide +kernel
theorem dX8_forecast_3 : decode cX8_forecast 3 = .ok (.invokevirtual 198, 3) := by decide +kernel
theorem dX8_forecast_6 : decode cX8_forecast 6 = .ok (.ifCond .ne 7, 3) := by decide +kernel
theorem dX8_forecast_9 : decode cX8_forecast 9 = .ok (.iconst 1, 1) := by decide +kernel
theorem dX8_forecast_10 : decode cX8_forecast 10 = .ok (.goto 34, 3) := by decide +kernel
theorem dX8_forecast_13 : decode cX8_forecast 13 = .ok (.aload_n 0, 1) := by decide +kernel
theorem dX8_forecast_14 : decode cX8_forecast 14 = .ok (.getfield 95, 3) := by decide +kernel
theorem dX8_forecast_17 : decode cX8_forecast 17 = .ok (.iload_n 1, 1) := by decide +kernel
theorem dX8_forecast_18 : decode cX8_forecast 18 = .ok (.caload, 1) := by decide +kernel
theorem dX8_forecast_19 : decode cX8_forecast 19 = .ok (.bipush 114, 2) := by decide +kernel
theorem dX8_forecast_21 : decode cX8_forecast 21 = .ok (.if_icmp .eq 7, 3) := by decide +kernel
theorem dX8_forecast_24 : decode cX8_forecast 24 = .ok (.iconst 2, 1) := by decide +kernel
theorem dX8_forecast_25 : decode cX8_forecast 25 = .ok (.goto 19, 3) := by decide +kernel
theorem dX8_forecast_28 : decode cX8_forecast 28 = .ok (.iload_n 2, 1) := by decide +kernel
theorem dX8_forecast_29 : decode cX8_forecast 29 = .ok (.iconst 0, 1) := by decide +kernel
theorem dX8_forecast_30 : decode cX8_forecast 30 = .ok (.sipush 960, 3) := by decide +kernel
theorem dX8_forecast_33 : decode cX8_forecast 33 = .ok (.invokestatic 122, 3) := by decide +kernel
theorem dX8_forecast_36 : decode cX8_forecast 36 = .ok (.ifCond .ne 7, 3) := by decide +kernel
theorem dX8_forecast_39 : decode cX8_forecast 39 = .ok (.iconst 3, 1) := by decide +kernel
theorem dX8_forecast_40 : decode cX8_forecast 40 = .ok (.goto 4, 3) := by decide +kernel
theorem dX8_forecast_43 : decode cX8_forecast 43 = .ok (.iconst 0, 1) := by decide +kernel
theorem dX8_forecast_44 : decode cX8_forecast 44 = .ok (.putfield 116, 3) := by decide +kernel
theorem dX8_forecast_47 : decode cX8_forecast 47 = .ok (.aload_n 0, 1) := by decide +kernel
theorem dX8_forecast_48 : decode cX8_forecast 48 = .ok (.getfield 116, 3) := by decide +kernel
theorem dX8_forecast_51 : decode cX8_forecast 51 = .ok (.ifCond .le 7, 3) := by decide +kernel
theorem dX8_forecast_54 : decode cX8_forecast 54 = .ok (.iconst 0, 1) := by decide +kernel
theorem dX8_forecast_55 : decode cX8_forecast 55 = .ok (.goto 32, 3) := by decide +kernel
theorem dX8_forecast_58 : decode cX8_forecast 58 = .ok (.iconst 0, 1) := by decide +kernel
theorem dX8_forecast_59 : decode cX8_forecast 59 = .ok (.aload_n 0, 1) := by decide +kernel
theorem dX8_forecast_60 : decode cX8_forecast 60 = .ok (.getfield 92, 3) := by decide +kernel
theorem dX8_forecast_63 : decode cX8_forecast 63 = .ok (.iload_n 1, 1) := by decide +kernel
theorem dX8_forecast_64 : decode cX8_forecast 64 = .ok (.iaload, 1) := by decide +kernel
theorem dX8_forecast_65 : decode cX8_forecast 65 = .ok (.iload_n 2, 1) := by decide +kernel
theorem dX8_forecast_66 : decode cX8_forecast 66 = .ok (.aload_n 0, 1) := by decide +kernel
theorem dX8_forecast_67 : decode cX8_forecast 67 = .ok (.iload_n 1, 1) := by decide +kernel
theorem dX8_forecast_68 : decode cX8_forecast 68 = .ok (.aload_n 0, 1) := by decide +kernel
theorem dX8_forecast_69 : decode cX8_forecast 69 = .ok (.getfield 39, 3) := by decide +kernel
theorem dX8_forecast_72 : decode cX8_forecast 72 = .ok (.aload_n 0, 1) := by decide +kernel
theorem dX8_forecast_73 : decode cX8_forecast 73 = .ok (.getfield 89, 3) := by decide +kernel
theorem dX8_forecast_76 : decode cX8_forecast 76 = .ok (.iload_n 1, 1) := by decide +kernel
theorem dX8_forecast_77 : decode cX8_forecast 77 = .ok (.iaload, 1) := by decide +kernel
theorem dX8_forecast_78 : decode cX8_forecast 78 = .ok (.iaload, 1) := by decide +kernel
theorem dX8_forecast_79 : decode cX8_forecast 79 = .ok (.invokevirtual 168, 3) := by decide +kernel
theorem dX8_forecast_82 : decode cX8_forecast 82 = .ok (.imul, 1) := by decide +kernel
theorem dX8_forecast_83 : decode cX8_forecast 83 = .ok (.isub, 1) := by decide +kernel
theorem dX8_forecast_84 : decode cX8_forecast 84 = .ok (.invokestatic 146, 3) := by decide +kernel
theorem dX8_forecast_87 : decode cX8_forecast 87 = .ok (.ireturn, 1) := by decide +kernel
theorem dX8_soonest_0 : decode cX8_soonest 0 = .ok (.iconst (-1), 1) := by decide +kernel
theorem dX8_soonest_1 : decode cX8_soonest 1 = .ok (.istore_n 1, 1) := by decide +kernel
theorem dX8_soonest_2 : decode cX8_soonest 2 = .ok (.iconst 0, 1) := by decide +kernel
theorem dX8_soonest_3 : decode cX8_soonest 3 = .ok (.istore_n 2, 1) := by decide +kernel
theorem dX8_soonest_4 : decode cX8_soonest 4 = .ok (.iload_n 2, 1) := by decide +kernel
theorem dX8_soonest_5 : decode cX8_soonest 5 = .ok (.aload_n 0, 1) := by decide +kernel
theorem dX8_soonest_6 : decode cX8_soonest 6 = .ok (.getfield 126, 3) := by decide +kernel
theorem dX8_soonest_9 : decode cX8_soonest 9 = .ok (.if_icmp .ge 46, 3) := by decide +kernel
theorem dX8_soonest_12 : decode cX8_soonest 12 = .ok (.aload_n 0, 1) := by decide +kernel
theorem dX8_soonest_13 : decode cX8_soonest 13 = .ok (.getfield 95, 3) := by decide +kernel
theorem dX8_soonest_16 : decode cX8_soonest 16 = .ok (.iload_n 2, 1) := by decide +kernel
theorem dX8_soonest_17 : decode cX8_soonest 17 = .ok (.caload, 1) := by decide +kernel
theorem dX8_soonest_18 : decode cX8_soonest 18 = .ok (.bipush 114, 2) := by decide +kernel
theorem dX8_soonest_20 : decode cX8_soonest 20 = .ok (.if_icmp .ne 27, 3) := by decide +kernel
theorem dX8_soonest_23 : decode cX8_soonest 23 = .ok (.iload_n 1, 1) := by decide +kernel
theorem dX8_soonest_24 : decode cX8_soonest 24 = .ok (.iconst (-1), 1) := by decide +kernel
theorem dX8_soonest_25 : decode cX8_soonest 25 = .ok (.if_icmp .eq 18, 3) := by decide +kernel
theorem dX8_soonest_28 : decode cX8_soonest 28 = .ok (.aload_n 0, 1) := by decide +kernel
theorem dX8_soonest_29 : decode cX8_soonest 29 = .ok (.getfield 92, 3) := by decide +kernel
theorem dX8_soonest_32 : decode cX8_soonest 32 = .ok (.iload_n 2, 1) := by decide +kernel
theorem dX8_soonest_33 : decode cX8_soonest 33 = .ok (.iaload, 1) := by decide +kernel
theorem dX8_soonest_34 : decode cX8_soonest 34 = .ok (.aload_n 0, 1) := by decide +kernel
theorem dX8_soonest_35 : decode cX8_soonest 35 = .ok (.getfield 92, 3) := by decide +kernel
theorem dX8_soonest_38 : decode cX8_soonest 38 = .ok (.iload_n 1, 1) := by decide +kernel
theorem dX8_soonest_39 : decode cX8_soonest 39 = .ok (.iaload, 1) := by decide +kernel
theorem dX8_soonest_40 : decode cX8_soonest 40 = .ok (.if_icmp .ge 7, 3) := by decide +kernel
theorem dX8_soonest_43 : decode cX8_soonest 43 = .ok (.iload_n 2, 1) := by decide +kernel
theorem dX8_soonest_44 : decode cX8_soonest 44 = .ok (.goto 4, 3) := by decide +kernel
theorem dX8_soonest_47 : decode cX8_soonest 47 = .ok (.iload_n 1, 1) := by decide +kernel
theorem dX8_soonest_48 : decode cX8_soonest 48 = .ok (.istore_n 1, 1) := by decide +kernel
theorem dX8_soonest_49 : decode cX8_soonest 49 = .ok (.iinc 2 1, 3) := by decide +kernel
theorem dX8_soonest_52 : decode cX8_soonest 52 = .ok (.goto (-48), 3) := by decide +kernel
theorem dX8_soonest_55 : decode cX8_soonest 55 = .ok (.aload_n 0, 1) := by decide +kernel
theorem dX8_soonest_56 : decode cX8_soonest 56 = .ok (.iload_n 1, 1) := by decide +kernel
theorem dX8_soonest_57 : decode cX8_soonest 57 = .ok (.iconst (-1), 1) := by decide +kernel
theorem dX8_soonest_58 : decode cX8_soonest 58 = .ok (.if_icmp .ne 7, 3) := by decide +kernel
theorem dX8_soonest_61 : decode cX8_soonest 61 = .ok (.iconst 1, 1) := by decide +kernel
theorem dX8_soonest_62 : decode cX8_soonest 62 = .ok (.goto 4, 3) := by decide +kernel
theorem dX8_soonest_65 : decode cX8_soonest 65 = .ok (.iconst 0, 1) := by decide +kernel
theorem dX8_soonest_66 : decode cX8_soonest 66 = .ok (.putfield 116, 3) := by decide +kernel
theorem dX8_soonest_69 : decode cX8_soonest 69 = .ok (.aload_n 0, 1) := by decide +kernel
theorem dX8_soonest_70 : decode cX8_soonest 70 = .ok (.getfield 116, 3) := by decide +kernel
theorem dX8_soonest_73 : decode cX8_soonest 73 = .ok (.ifCond .le 7, 3) := by decide +kernel
theorem dX8_soonest_76 : decode cX8_soonest 76 = .ok (.iconst 0, 1) := by decide +kernel
theorem dX8_soonest_77 : decode cX8_soonest 77 = .ok (.goto 4, 3) := by decide +kernel
theorem dX8_soonest_80 : decode cX8_soonest 80 = .ok (.iload_n 1, 1) := by decide +kernel
theorem dX8_soonest_81 : decode cX8_soonest 81 = .ok (.ireturn, 1) := by decide +kernel
theorem dX8_lostShare_0 : decode cX8_lostShare 0 = .ok (.iconst 0, 1) := by decide +kernel
theorem dX8_lostShare_1 : decode cX8_lostShare 1 = .ok (.istore_n 1, 1) := by decide +kernel
theorem dX8_lostShare_2 : decode cX8_lostShare 2 = .ok (.iconst 0, 1) := by decide +kernel
theorem dX8_lostShare_3 : decode cX8_lostShare 3 = .ok (.istore_n 2, 1) := by decide +kernel
theorem dX8_lostShare_4 : decode cX8_lostShare 4 = .ok (.iload_n 2, 1) := by decide +kernel
theorem dX8_lostShare_5 : decode cX8_lostShare 5 = .ok (.aload_n 0, 1) := by decide +kernel
theorem dX8_lostShare_6 : decode cX8_lostShare 6 = .ok (.getfield 126, 3) := by decide +kernel
theorem dX8_lostShare_9 : decode cX8_lostShare 9 = .ok (.if_icmp .ge 37, 3) := by decide +kernel
theorem dX8_lostShare_12 : decode cX8_lostShare 12 = .ok (.iload_n 1, 1) := by decide +kernel
theorem dX8_lostShare_13 : decode cX8_lostShare 13 = .ok (.aload_n 0, 1) := by decide +kernel
theorem dX8_lostShare_14 : decode cX8_lostShare 14 = .ok (.getfield 95, 3) := by decide +kernel
theorem dX8_lostShare_17 : decode cX8_lostShare 17 = .ok (.iload_n 2, 1) := by decide +kernel
theorem dX8_lostShare_18 : decode cX8_lostShare 18 = .ok (.caload, 1) := by decide +kernel
theorem dX8_lostShare_19 : decode cX8_lostShare 19 = .ok (.bipush 120, 2) := by decide +kernel
theorem dX8_lostShare_21 : decode cX8_lostShare 21 = .ok (.if_icmp .eq 12, 3) := by decide +kernel
theorem dX8_lostShare_24 : decode cX8_lostShare 24 = .ok (.aload_n 0, 1) := by decide +kernel
theorem dX8_lostShare_25 : decode cX8_lostShare 25 = .ok (.getfield 92, 3) := by decide +kernel
theorem dX8_lostShare_28 : decode cX8_lostShare 28 = .ok (.iload_n 2, 1) := by decide +kernel
theorem dX8_lostShare_29 : decode cX8_lostShare 29 = .ok (.iaload, 1) := by decide +kernel
theorem dX8_lostShare_30 : decode cX8_lostShare 30 = .ok (.ifCond .ne 7, 3) := by decide +kernel
theorem dX8_lostShare_33 : decode cX8_lostShare 33 = .ok (.iconst 1, 1) := by decide +kernel
theorem dX8_lostShare_34 : decode cX8_lostShare 34 = .ok (.goto 4, 3) := by decide +kernel
theorem dX8_lostShare_37 : decode cX8_lostShare 37 = .ok (.iconst 0, 1) := by decide +kernel
theorem dX8_lostShare_38 : decode cX8_lostShare 38 = .ok (.iadd, 1) := by decide +kernel
theorem dX8_lostShare_39 : decode cX8_lostShare 39 = .ok (.istore_n 1, 1) := by decide +kernel
theorem dX8_lostShare_40 : decode cX8_lostShare 40 = .ok (.iinc 2 1, 3) := by decide +kernel
theorem dX8_lostShare_43 : decode cX8_lostShare 43 = .ok (.goto (-39), 3) := by decide +kernel
theorem dX8_lostShare_46 : decode cX8_lostShare 46 = .ok (.aload_n 0, 1) := by decide +kernel
theorem dX8_lostShare_47 : decode cX8_lostShare 47 = .ok (.aload_n 0, 1) := by decide +kernel
theorem dX8_lostShare_48 : decode cX8_lostShare 48 = .ok (.getfield 126, 3) := by decide +kernel
theorem dX8_lostShare_51 : decode cX8_lostShare 51 = .ok (.ifCond .ne 7, 3) := by decide +kernel
theorem dX8_lostShare_54 : decode cX8_lostShare 54 = .ok (.iconst 1, 1) := by decide +kernel
theorem dX8_lostShare_55 : decode cX8_lostShare 55 = .ok (.goto 4, 3) := by decide +kernel
theorem dX8_lostShare_58 : decode cX8_lostShare 58 = .ok (.iconst 0, 1) := by decide +kernel
theorem dX8_lostShare_59 : decode cX8_lostShare 59 = .ok (.putfield 116, 3) := by decide +kernel
theorem dX8_lostShare_62 : decode cX8_lostShare 62 = .ok (.aload_n 0, 1) := by decide +kernel
theorem dX8_lostShare_63 : decode cX8_lostShare 63 = .ok (.getfield 116, 3) := by decide +kernel
theorem dX8_lostShare_66 : decode cX8_lostShare 66 = .ok (.ifCond .le 7, 3) := by decide +kernel
theorem dX8_lostShare_69 : decode cX8_lostShare 69 = .ok (.fconst 0, 1) := by decide +kernel
theorem dX8_lostShare_70 : decode cX8_lostShare 70 = .ok (.goto 11, 3) := by decide +kernel
theorem dX8_lostShare_73 : decode cX8_lostShare 73 = .ok (.iload_n 1, 1) := by decide +kernel
theorem dX8_lostShare_74 : decode cX8_lostShare 74 = .ok (.i2f, 1) := by decide +kernel
theorem dX8_lostShare_75 : decode cX8_lostShare 75 = .ok (.aload_n 0, 1) := by decide +kernel
theorem dX8_lostShare_76 : decode cX8_lostShare 76 = .ok (.getfield 126, 3) := by decide +kernel
theorem dX8_lostShare_79 : decode cX8_lostShare 79 = .ok (.i2f, 1) := by decide +kernel
theorem dX8_lostShare_80 : decode cX8_lostShare 80 = .ok (.fdiv, 1) := by decide +kernel
theorem dX8_lostShare_81 : decode cX8_lostShare 81 = .ok (.freturn, 1) := by decide +kernel
set_option maxRecDepth 20000 in
theorem ggX8_order_X8_in : GoodIn wsX8_order wsX8_in := goodIn_r _ [13] (by decide +kernel) (by decide +kernel)
set_option maxRecDepth 20000 in
theorem gX8_order_X8_in : GoodIn wsX8_order (va_wsS RX8 122 yX8_in wsX8_in) := goodIn_app (goodIn_of _ (by decide +kernel)) ggX8_order_X8_in
theorem dX8_order_0 : decode cX8_order 0 = .ok (.iload_n 2, 1) := by decide +kernel
theorem dX8_order_1 : decode cX8_order 1 = .ok (.iconst 1, 1) := by decide +kernel
theorem dX8_order_2 : decode cX8_order 2 = .ok (.bipush 8, 2) := by decide +kernel
theorem dX8_order_4 : decode cX8_order 4 = .ok (.invokestatic 122, 3) := by decide +kernel
theorem dX8_order_7 : decode cX8_order 7 = .ok (.ifCond .eq 35, 3) := by decide +kernel
theorem dX8_order_10 : decode cX8_order 10 = .ok (.iload_n 3, 1) := by decide +kernel
theorem dX8_order_11 : decode cX8_order 11 = .ok (.iconst 0, 1) := by decide +kernel
theorem dX8_order_12 : decode cX8_order 12 = .ok (.sipush 9999, 3) := by decide +kernel
theorem dX8_order_15 : decode cX8_order 15 = .ok (.invokestatic 122, 3) := by decide +kernel
theorem dX8_order_18 : decode cX8_order 18 = .ok (.ifCond .eq 24, 3) := by decide +kernel
theorem dX8_order_21 : decode cX8_order 21 = .ok (.iload 4, 2) := by decide +kernel
theorem dX8_order_23 : decode cX8_order 23 = .ok (.aload_n 0, 1) := by decide +kernel
theorem dX8_order_24 : decode cX8_order 24 = .ok (.getfield 132, 3) := by decide +kernel
theorem dX8_order_27 : decode cX8_order 27 = .ok (.iconst 1, 1) := by decide +kernel
theorem dX8_order_28 : decode cX8_order 28 = .ok (.iadd, 1) := by decide +kernel
theorem dX8_order_29 : decode cX8_order 29 = .ok (.sipush 960, 3) := by decide +kernel
theorem dX8_order_32 : decode cX8_order 32 = .ok (.invokestatic 122, 3) := by decide +kernel
theorem dX8_order_35 : decode cX8_order 35 = .ok (.ifCond .eq 7, 3) := by decide +kernel
theorem dX8_order_38 : decode cX8_order 38 = .ok (.iconst 1, 1) := by decide +kernel
theorem dX8_order_39 : decode cX8_order 39 = .ok (.goto 4, 3) := by decide +kernel
theorem dX8_order_42 : decode cX8_order 42 = .ok (.iconst 0, 1) := by decide +kernel
theorem dX8_order_43 : decode cX8_order 43 = .ok (.istore 5, 2) := by decide +kernel
theorem dX8_order_45 : decode cX8_order 45 = .ok (.aload_n 0, 1) := by decide +kernel
theorem dX8_order_46 : decode cX8_order 46 = .ok (.iload_n 1, 1) := by decide +kernel
theorem dX8_order_47 : decode cX8_order 47 = .ok (.iconst 0, 1) := by decide +kernel
theorem dX8_order_48 : decode cX8_order 48 = .ok (.aload_n 0, 1) := by decide +kernel
theorem dX8_order_49 : decode cX8_order 49 = .ok (.getfield 195, 3) := by decide +kernel
theorem dX8_order_52 : decode cX8_order 52 = .ok (.iconst 1, 1) := by decide +kernel
theorem dX8_order_53 : decode cX8_order 53 = .ok (.isub, 1) := by decide +kernel
theorem dX8_order_54 : decode cX8_order 54 = .ok (.invokestatic 122, 3) := by decide +kernel
theorem dX8_order_57 : decode cX8_order 57 = .ok (.ifCond .ne 7, 3) := by decide +kernel
theorem dX8_order_60 : decode cX8_order 60 = .ok (.iconst 1, 1) := by decide +kernel
theorem dX8_order_61 : decode cX8_order 61 = .ok (.goto 26, 3) := by decide +kernel
theorem dX8_order_64 : decode cX8_order 64 = .ok (.iload 5, 2) := by decide +kernel
theorem dX8_order_66 : decode cX8_order 66 = .ok (.ifCond .ne 7, 3) := by decide +kernel
theorem dX8_order_69 : decode cX8_order 69 = .ok (.iconst 2, 1) := by decide +kernel
theorem dX8_order_70 : decode cX8_order 70 = .ok (.goto 17, 3) := by decide +kernel
theorem dX8_order_73 : decode cX8_order 73 = .ok (.aload_n 0, 1) := by decide +kernel
theorem dX8_order_74 : decode cX8_order 74 = .ok (.getfield 129, 3) := by decide +kernel
theorem dX8_order_77 : decode cX8_order 77 = .ok (.bipush 12, 2) := by decide +kernel
theorem dX8_order_79 : decode cX8_order 79 = .ok (.if_icmp .ne 7, 3) := by decide +kernel
theorem dX8_order_82 : decode cX8_order 82 = .ok (.iconst 3, 1) := by decide +kernel
theorem dX8_order_83 : decode cX8_order 83 = .ok (.goto 4, 3) := by decide +kernel
theorem dX8_order_86 : decode cX8_order 86 = .ok (.iconst 0, 1) := by decide +kernel
theorem dX8_order_87 : decode cX8_order 87 = .ok (.putfield 116, 3) := by decide +kernel
theorem dX8_order_90 : decode cX8_order 90 = .ok (.aload_n 0, 1) := by decide +kernel
theorem dX8_order_91 : decode cX8_order 91 = .ok (.getfield 116, 3) := by decide +kernel
theorem dX8_order_94 : decode cX8_order 94 = .ok (.ifCond .le 5, 3) := by decide +kernel
theorem dX8_order_97 : decode cX8_order 97 = .ok (.iconst 0, 1) := by decide +kernel
theorem dX8_order_98 : decode cX8_order 98 = .ok (.ireturn, 1) := by decide +kernel
theorem dX8_order_99 : decode cX8_order 99 = .ok (.aload_n 0, 1) := by decide +kernel
theorem dX8_order_100 : decode cX8_order 100 = .ok (.getfield 98, 3) := by decide +kernel
theorem dX8_order_103 : decode cX8_order 103 = .ok (.aload_n 0, 1) := by decide +kernel
theorem dX8_order_104 : decode cX8_order 104 = .ok (.getfield 129, 3) := by decide +kernel
theorem dX8_order_107 : decode cX8_order 107 = .ok (.iload_n 1, 1) := by decide +kernel
theorem dX8_order_108 : decode cX8_order 108 = .ok (.iastore, 1) := by decide +kernel
theorem dX8_order_109 : decode cX8_order 109 = .ok (.aload_n 0, 1) := by decide +kernel
theorem dX8_order_110 : decode cX8_order 110 = .ok (.getfield 101, 3) := by decide +kernel
theorem dX8_order_113 : decode cX8_order 113 = .ok (.aload_n 0, 1) := by decide +kernel
theorem dX8_order_114 : decode cX8_order 114 = .ok (.getfield 129, 3) := by decide +kernel
theorem dX8_order_117 : decode cX8_order 117 = .ok (.iload_n 2, 1) := by decide +kernel
theorem dX8_order_118 : decode cX8_order 118 = .ok (.iastore, 1) := by decide +kernel
theorem dX8_order_119 : decode cX8_order 119 = .ok (.aload_n 0, 1) := by decide +kernel
theorem dX8_order_120 : decode cX8_order 120 = .ok (.getfield 104, 3) := by decide +kernel
theorem dX8_order_123 : decode cX8_order 123 = .ok (.aload_n 0, 1) := by decide +kernel
theorem dX8_order_124 : decode cX8_order 124 = .ok (.getfield 129, 3) := by decide +kernel
theorem dX8_order_127 : decode cX8_order 127 = .ok (.iload_n 3, 1) := by decide +kernel
theorem dX8_order_128 : decode cX8_order 128 = .ok (.iastore, 1) := by decide +kernel
theorem dX8_order_129 : decode cX8_order 129 = .ok (.aload_n 0, 1) := by decide +kernel
theorem dX8_order_130 : decode cX8_order 130 = .ok (.getfield 107, 3) := by decide +kernel
theorem dX8_order_133 : decode cX8_order 133 = .ok (.aload_n 0, 1) := by decide +kernel
theorem dX8_order_134 : decode cX8_order 134 = .ok (.getfield 129, 3) := by decide +kernel
theorem dX8_order_137 : decode cX8_order 137 = .ok (.iload 4, 2) := by decide +kernel
theorem dX8_order_139 : decode cX8_order 139 = .ok (.iastore, 1) := by decide +kernel
theorem dX8_order_140 : decode cX8_order 140 = .ok (.aload_n 0, 1) := by decide +kernel
theorem dX8_order_141 : decode cX8_order 141 = .ok (.getfield 110, 3) := by decide +kernel
theorem dX8_order_144 : decode cX8_order 144 = .ok (.aload_n 0, 1) := by decide +kernel
theorem dX8_order_145 : decode cX8_order 145 = .ok (.getfield 129, 3) := by decide +kernel
theorem dX8_order_148 : decode cX8_order 148 = .ok (.bipush 111, 2) := by decide +kernel
theorem dX8_order_150 : decode cX8_order 150 = .ok (.castore, 1) := by decide +kernel
theorem dX8_order_151 : decode cX8_order 151 = .ok (.aload_n 0, 1) := by decide +kernel
theorem dX8_order_152 : decode cX8_order 152 = .ok (.dup, 1) := by decide +kernel
theorem dX8_order_153 : decode cX8_order 153 = .ok (.getfield 129, 3) := by decide +kernel
theorem dX8_order_156 : decode cX8_order 156 = .ok (.iconst 1, 1) := by decide +kernel
theorem dX8_order_157 : decode cX8_order 157 = .ok (.iadd, 1) := by decide +kernel
theorem dX8_order_158 : decode cX8_order 158 = .ok (.putfield 129, 3) := by decide +kernel
theorem dX8_order_161 : decode cX8_order 161 = .ok (.aload_n 0, 1) := by decide +kernel
theorem dX8_order_162 : decode cX8_order 162 = .ok (.getfield 129, 3) := by decide +kernel
theorem dX8_order_165 : decode cX8_order 165 = .ok (.iconst 1, 1) := by decide +kernel
theorem dX8_order_166 : decode cX8_order 166 = .ok (.isub, 1) := by decide +kernel
theorem dX8_order_167 : decode cX8_order 167 = .ok (.ireturn, 1) := by decide +kernel
set_option maxRecDepth 20000 in
theorem ggX8_cancel_X8_isOrder : GoodIn wsX8_cancel wsX8_isOrder := goodIn_r _ [8, 3, 9, 10, 7, 11, 12, 13, 14, 15, 16, 17, 18, 19, 20, 21, 22, 23, 24, 25, 26, 27, 28, 29, 30, 31, 32, 33, 34, 35, 36, 37, 38, 39, 40, 41, 42, 43, 44, 45, 46, 47, 48, 49, 50, 51, 52, 53, 54, 55] (by decide +kernel) (by decide +kernel)
set_option maxRecDepth 20000 in
theorem gX8_cancel_X8_isOrder : GoodIn wsX8_cancel (wsV RX8 204 RX8 yX8_isOrder wsX8_isOrder) := goodIn_app (goodIn_of _ (by decide +kernel)) ggX8_cancel_X8_isOrder
theorem dX8_cancel_0 : decode cX8_cancel 0 = .ok (.aload_n 0, 1) := by decide +kernel
theorem dX8_cancel_1 : decode cX8_cancel 1 = .ok (.aload_n 0, 1) := by decide +kernel
theorem dX8_cancel_2 : decode cX8_cancel 2 = .ok (.iload_n 1, 1) := by decide +kernel
theorem dX8_cancel_3 : decode cX8_cancel 3 = .ok (.invokevirtual 204, 3) := by decide +kernel
theorem dX8_cancel_6 : decode cX8_cancel 6 = .ok (.ifCond .ne 7, 3) := by decide +kernel
theorem dX8_cancel_9 : decode cX8_cancel 9 = .ok (.iconst 1, 1) := by decide +kernel
theorem dX8_cancel_10 : decode cX8_cancel 10 = .ok (.goto 19, 3) := by decide +kernel
theorem dX8_cancel_13 : decode cX8_cancel 13 = .ok (.aload_n 0, 1) := by decide +kernel
theorem dX8_cancel_14 : decode cX8_cancel 14 = .ok (.getfield 110, 3) := by decide +kernel
theorem dX8_cancel_17 : decode cX8_cancel 17 = .ok (.iload_n 1, 1) := by decide +kernel
theorem dX8_cancel_18 : decode cX8_cancel 18 = .ok (.caload, 1) := by decide +kernel
theorem dX8_cancel_19 : decode cX8_cancel 19 = .ok (.bipush 111, 2) := by decide +kernel
theorem dX8_cancel_21 : decode cX8_cancel 21 = .ok (.if_icmp .eq 7, 3) := by decide +kernel
theorem dX8_cancel_24 : decode cX8_cancel 24 = .ok (.iconst 2, 1) := by decide +kernel
theorem dX8_cancel_25 : decode cX8_cancel 25 = .ok (.goto 4, 3) := by decide +kernel
theorem dX8_cancel_28 : decode cX8_cancel 28 = .ok (.iconst 0, 1) := by decide +kernel
theorem dX8_cancel_29 : decode cX8_cancel 29 = .ok (.putfield 116, 3) := by decide +kernel
theorem dX8_cancel_32 : decode cX8_cancel 32 = .ok (.aload_n 0, 1) := by decide +kernel
theorem dX8_cancel_33 : decode cX8_cancel 33 = .ok (.getfield 116, 3) := by decide +kernel
theorem dX8_cancel_36 : decode cX8_cancel 36 = .ok (.ifCond .le 5, 3) := by decide +kernel
theorem dX8_cancel_39 : decode cX8_cancel 39 = .ok (.iconst 0, 1) := by decide +kernel
theorem dX8_cancel_40 : decode cX8_cancel 40 = .ok (.ireturn, 1) := by decide +kernel
theorem dX8_cancel_41 : decode cX8_cancel 41 = .ok (.aload_n 0, 1) := by decide +kernel
theorem dX8_cancel_42 : decode cX8_cancel 42 = .ok (.getfield 110, 3) := by decide +kernel
theorem dX8_cancel_45 : decode cX8_cancel 45 = .ok (.iload_n 1, 1) := by decide +kernel
theorem dX8_cancel_46 : decode cX8_cancel 46 = .ok (.bipush 99, 2) := by decide +kernel
theorem dX8_cancel_48 : decode cX8_cancel 48 = .ok (.castore, 1) := by decide +kernel
theorem dX8_cancel_49 : decode cX8_cancel 49 = .ok (.iconst 0, 1) := by decide +kernel
theorem dX8_cancel_50 : decode cX8_cancel 50 = .ok (.istore_n 2, 1) := by decide +kernel
theorem dX8_cancel_51 : decode cX8_cancel 51 = .ok (.iconst 0, 1) := by decide +kernel
theorem dX8_cancel_52 : decode cX8_cancel 52 = .ok (.istore_n 3, 1) := by decide +kernel
theorem dX8_cancel_53 : decode cX8_cancel 53 = .ok (.iload_n 3, 1) := by decide +kernel
theorem dX8_cancel_54 : decode cX8_cancel 54 = .ok (.aload_n 0, 1) := by decide +kernel
theorem dX8_cancel_55 : decode cX8_cancel 55 = .ok (.getfield 129, 3) := by decide +kernel
theorem dX8_cancel_58 : decode cX8_cancel 58 = .ok (.if_icmp .ge 28, 3) := by decide +kernel
theorem dX8_cancel_61 : decode cX8_cancel 61 = .ok (.iload_n 2, 1) := by decide +kernel
theorem dX8_cancel_62 : decode cX8_cancel 62 = .ok (.aload_n 0, 1) := by decide +kernel
theorem dX8_cancel_63 : decode cX8_cancel 63 = .ok (.getfield 110, 3) := by decide +kernel
theorem dX8_cancel_66 : decode cX8_cancel 66 = .ok (.iload_n 3, 1) := by decide +kernel
theorem dX8_cancel_67 : decode cX8_cancel 67 = .ok (.caload, 1) := by decide +kernel
theorem dX8_cancel_68 : decode cX8_cancel 68 = .ok (.bipush 111, 2) := by decide +kernel
theorem dX8_cancel_70 : decode cX8_cancel 70 = .ok (.if_icmp .ne 7, 3) := by decide +kernel
theorem dX8_cancel_73 : decode cX8_cancel 73 = .ok (.iconst 1, 1) := by decide +kernel
theorem dX8_cancel_74 : decode cX8_cancel 74 = .ok (.goto 4, 3) := by decide +kernel
theorem dX8_cancel_77 : decode cX8_cancel 77 = .ok (.iconst 0, 1) := by decide +kernel
theorem dX8_cancel_78 : decode cX8_cancel 78 = .ok (.iadd, 1) := by decide +kernel
theorem dX8_cancel_79 : decode cX8_cancel 79 = .ok (.istore_n 2, 1) := by decide +kernel
theorem dX8_cancel_80 : decode cX8_cancel 80 = .ok (.iinc 3 1, 3) := by decide +kernel
theorem dX8_cancel_83 : decode cX8_cancel 83 = .ok (.goto (-30), 3) := by decide +kernel
theorem dX8_cancel_86 : decode cX8_cancel 86 = .ok (.iload_n 2, 1) := by decide +kernel
theorem dX8_cancel_87 : decode cX8_cancel 87 = .ok (.ireturn, 1) := by decide +kernel
theorem dX8_isCandidate_0 : decode cX8_isCandidate 0 = .ok (.aload_n 0, 1) := by decide +kernel
theorem dX8_isCandidate_1 : decode cX8_isCandidate 1 = .ok (.getfield 95, 3) := by decide +kernel
theorem dX8_isCandidate_4 : decode cX8_isCandidate 4 = .ok (.iload_n 2, 1) := by decide +kernel
theorem dX8_isCandidate_5 : decode cX8_isCandidate 5 = .ok (.caload, 1) := by decide +kernel
theorem dX8_isCandidate_6 : decode cX8_isCandidate 6 = .ok (.bipush 114, 2) := by decide +kernel
theorem dX8_isCandidate_8 : decode cX8_isCandidate 8 = .ok (.if_icmp .ne 37, 3) := by decide +kernel
theorem dX8_isCandidate_11 : decode cX8_isCandidate 11 = .ok (.aload_n 0, 1) := by decide +kernel
theorem dX8_isCandidate_12 : decode cX8_isCandidate 12 = .ok (.getfield 86, 3) := by decide +kernel
theorem dX8_isCandidate_15 : decode cX8_isCandidate 15 = .ok (.iload_n 2, 1) := by decide +kernel
theorem dX8_isCandidate_16 : decode cX8_isCandidate 16 = .ok (.iaload, 1) := by decide +kernel
theorem dX8_isCandidate_17 : decode cX8_isCandidate 17 = .ok (.aload_n 0, 1) := by decide +kernel
theorem dX8_isCandidate_18 : decode cX8_isCandidate 18 = .ok (.getfield 98, 3) := by decide +kernel
theorem dX8_isCandidate_21 : decode cX8_isCandidate 21 = .ok (.iload_n 1, 1) := by decide +kernel
theorem dX8_isCandidate_22 : decode cX8_isCandidate 22 = .ok (.iaload, 1) := by decide +kernel
theorem dX8_isCandidate_23 : decode cX8_isCandidate 23 = .ok (.if_icmp .ne 22, 3) := by decide +kernel
theorem dX8_isCandidate_26 : decode cX8_isCandidate 26 = .ok (.aload_n 0, 1) := by decide +kernel
theorem dX8_isCandidate_27 : decode cX8_isCandidate 27 = .ok (.getfield 92, 3) := by decide +kernel
theorem dX8_isCandidate_30 : decode cX8_isCandidate 30 = .ok (.iload_n 2, 1) := by decide +kernel
theorem dX8_isCandidate_31 : decode cX8_isCandidate 31 = .ok (.iaload, 1) := by decide +kernel
theorem dX8_isCandidate_32 : decode cX8_isCandidate 32 = .ok (.aload_n 0, 1) := by decide +kernel
theorem dX8_isCandidate_33 : decode cX8_isCandidate 33 = .ok (.getfield 104, 3) := by decide +kernel
theorem dX8_isCandidate_36 : decode cX8_isCandidate 36 = .ok (.iload_n 1, 1) := by decide +kernel
theorem dX8_isCandidate_37 : decode cX8_isCandidate 37 = .ok (.iaload, 1) := by decide +kernel
theorem dX8_isCandidate_38 : decode cX8_isCandidate 38 = .ok (.if_icmp .lt 7, 3) := by decide +kernel
theorem dX8_isCandidate_41 : decode cX8_isCandidate 41 = .ok (.iconst 1, 1) := by decide +kernel
theorem dX8_isCandidate_42 : decode cX8_isCandidate 42 = .ok (.goto 4, 3) := by decide +kernel
theorem dX8_isCandidate_45 : decode cX8_isCandidate 45 = .ok (.iconst 0, 1) := by decide +kernel
theorem dX8_isCandidate_46 : decode cX8_isCandidate 46 = .ok (.ireturn, 1) := by decide +kernel
set_option maxRecDepth 20000 in
theorem ggX8_candidatesOf_X8_isCandidate : GoodIn wsX8_candidatesOf wsX8_isCandidate := goodIn_ca (goodIn_r _ [6, 7, 8, 9, 10, 11, 12, 13, 14, 15, 16, 17, 18, 19, 20, 21, 22, 23, 24, 25, 26, 27, 28, 29, 30, 31, 32, 33, 34, 35, 36, 37, 38, 39, 40, 41, 42, 43, 44, 45, 46, 47, 48, 49, 50, 51, 52, 53, 54, 55] (by decide +kernel) (by decide +kernel)) (goodIn_sub (fun _ h => List.mem_cons_of_mem _ (List.mem_append_right _ h)) (by decide +kernel))
set_option maxRecDepth 20000 in
theorem gX8_candidatesOf_X8_isCandidate : GoodIn wsX8_candidatesOf (wsV RX8 207 RX8 yX8_isCandidate wsX8_isCandidate) := goodIn_app (goodIn_of _ (by decide +kernel)) ggX8_candidatesOf_X8_isCandidate
theorem dX8_candidatesOf_0 : decode cX8_candidatesOf 0 = .ok (.iconst 0, 1) := by decide +kernel
theorem dX8_candidatesOf_1 : decode cX8_candidatesOf 1 = .ok (.istore_n 2, 1) := by decide +kernel
theorem dX8_candidatesOf_2 : decode cX8_candidatesOf 2 = .ok (.iconst 0, 1) := by decide +kernel
theorem dX8_candidatesOf_3 : decode cX8_candidatesOf 3 = .ok (.istore_n 3, 1) := by decide +kernel
theorem dX8_candidatesOf_4 : decode cX8_candidatesOf 4 = .ok (.iload_n 3, 1) := by decide +kernel
theorem dX8_candidatesOf_5 : decode cX8_candidatesOf 5 = .ok (.aload_n 0, 1) := by decide +kernel
theorem dX8_candidatesOf_6 : decode cX8_candidatesOf 6 = .ok (.getfield 126, 3) := by decide +kernel
theorem dX8_candidatesOf_9 : decode cX8_candidatesOf 9 = .ok (.if_icmp .ge 26, 3) := by decide +kernel
theorem dX8_candidatesOf_12 : decode cX8_candidatesOf 12 = .ok (.iload_n 2, 1) := by decide +kernel
theorem dX8_candidatesOf_13 : decode cX8_candidatesOf 13 = .ok (.aload_n 0, 1) := by decide +kernel
theorem dX8_candidatesOf_14 : decode cX8_candidatesOf 14 = .ok (.iload_n 1, 1) := by decide +kernel
theorem dX8_candidatesOf_15 : decode cX8_candidatesOf 15 = .ok (.iload_n 3, 1) := by decide +kernel
theorem dX8_candidatesOf_16 : decode cX8_candidatesOf 16 = .ok (.invokevirtual 207, 3) := by decide +kernel
theorem dX8_candidatesOf_19 : decode cX8_candidatesOf 19 = .ok (.ifCond .eq 7, 3) := by decide +kernel
theorem dX8_candidatesOf_22 : decode cX8_candidatesOf 22 = .ok (.iconst 1, 1) := by decide +kernel
theorem dX8_candidatesOf_23 : decode cX8_candidatesOf 23 = .ok (.goto 4, 3) := by decide +kernel
theorem dX8_candidatesOf_26 : decode cX8_candidatesOf 26 = .ok (.iconst 0, 1) := by decide +kernel
theorem dX8_candidatesOf_27 : decode cX8_candidatesOf 27 = .ok (.iadd, 1) := by decide +kernel
theorem dX8_candidatesOf_28 : decode cX8_candidatesOf 28 = .ok (.istore_n 2, 1) := by decide +kernel
theorem dX8_candidatesOf_29 : decode cX8_candidatesOf 29 = .ok (.iinc 3 1, 3) := by decide +kernel
theorem dX8_candidatesOf_32 : decode cX8_candidatesOf 32 = .ok (.goto (-28), 3) := by decide +kernel
theorem dX8_candidatesOf_35 : decode cX8_candidatesOf 35 = .ok (.iload_n 2, 1) := by decide +kernel
theorem dX8_candidatesOf_36 : decode cX8_candidatesOf 36 = .ok (.ireturn, 1) := by decide +kernel
set_option maxRecDepth 20000 in
theorem ggX8_candidate_X8_isCandidate : GoodIn wsX8_candidate wsX8_isCandidate := goodIn_ca (goodIn_r _ [7, 8, 9, 10, 2, 11, 12, 13, 14, 15, 16, 17, 18, 19, 20, 21, 22, 23, 24, 25, 26, 27, 28, 29, 30, 31, 32, 33, 34, 35, 36, 37, 38, 39, 40, 41, 42, 43, 44, 45, 46, 47, 48, 49, 50, 51, 52, 53, 54, 55] (by decide +kernel) (by decide +kernel)) (goodIn_sub (fun _ h => List.mem_cons_of_mem _ (List.mem_append_right _ h)) (by decide +kernel))
set_option maxRecDepth 20000 in
theorem gX8_candidate_X8_isCandidate : GoodIn wsX8_candidate (wsV RX8 207 RX8 yX8_isCandidate wsX8_isCandidate) := goodIn_app (goodIn_of _ (by decide +kernel)) ggX8_candidate_X8_isCandidate
theorem dX8_candidate_0 : decode cX8_candidate 0 = .ok (.iconst 0, 1) := by decide +kernel
theorem dX8_candidate_1 : decode cX8_candidate 1 = .ok (.istore_n 3, 1) := by decide +kernel
theorem dX8_candidate_2 : decode cX8_candidate 2 = .ok (.iload_n 3, 1) := by decide +kernel
theorem dX8_candidate_3 : decode cX8_candidate 3 = .ok (.aload_n 0, 1) := by decide +kernel
theorem dX8_candidate_4 : decode cX8_candidate 4 = .ok (.getfield 126, 3) := by decide +kernel
theorem dX8_candidate_7 : decode cX8_candidate 7 = .ok (.if_icmp .ge 114, 3) := by decide +kernel
theorem dX8_candidate_10 : decode cX8_candidate 10 = .ok (.iconst 0, 1) := by decide +kernel
theorem dX8_candidate_11 : decode cX8_candidate 11 = .ok (.istore 4, 2) := by decide +kernel
theorem dX8_candidate_13 : decode cX8_candidate 13 = .ok (.iconst 0, 1) := by decide +kernel
theorem dX8_candidate_14 : decode cX8_candidate 14 = .ok (.istore 5, 2) := by decide +kernel
theorem dX8_candidate_16 : decode cX8_candidate 16 = .ok (.iload 5, 2) := by decide +kernel
theorem dX8_candidate_18 : decode cX8_candidate 18 = .ok (.aload_n 0, 1) := by decide +kernel
theorem dX8_candidate_19 : decode cX8_candidate 19 = .ok (.getfield 126, 3) := by decide +kernel
theorem dX8_candidate_22 : decode cX8_candidate 22 = .ok (.if_icmp .ge 76, 3) := by decide +kernel
theorem dX8_candidate_25 : decode cX8_candidate 25 = .ok (.aload_n 0, 1) := by decide +kernel
theorem dX8_candidate_26 : decode cX8_candidate 26 = .ok (.iload_n 1, 1) := by decide +kernel
theorem dX8_candidate_27 : decode cX8_candidate 27 = .ok (.iload_n 3, 1) := by decide +kernel
theorem dX8_candidate_28 : decode cX8_candidate 28 = .ok (.invokevirtual 207, 3) := by decide +kernel
theorem dX8_candidate_31 : decode cX8_candidate 31 = .ok (.ifCond .eq 67, 3) := by decide +kernel
theorem dX8_candidate_34 : decode cX8_candidate 34 = .ok (.iload 4, 2) := by decide +kernel
theorem dX8_candidate_36 : decode cX8_candidate 36 = .ok (.aload_n 0, 1) := by decide +kernel
theorem dX8_candidate_37 : decode cX8_candidate 37 = .ok (.iload_n 1, 1) := by decide +kernel
theorem dX8_candidate_38 : decode cX8_candidate 38 = .ok (.iload 5, 2) := by decide +kernel
theorem dX8_candidate_40 : decode cX8_candidate 40 = .ok (.invokevirtual 207, 3) := by decide +kernel
theorem dX8_candidate_43 : decode cX8_candidate 43 = .ok (.ifCond .eq 45, 3) := by decide +kernel
theorem dX8_candidate_46 : decode cX8_candidate 46 = .ok (.aload_n 0, 1) := by decide +kernel
theorem dX8_candidate_47 : decode cX8_candidate 47 = .ok (.getfield 92, 3) := by decide +kernel
theorem dX8_candidate_50 : decode cX8_candidate 50 = .ok (.iload 5, 2) := by decide +kernel
theorem dX8_candidate_52 : decode cX8_candidate 52 = .ok (.iaload, 1) := by decide +kernel
theorem dX8_candidate_53 : decode cX8_candidate 53 = .ok (.aload_n 0, 1) := by decide +kernel
theorem dX8_candidate_54 : decode cX8_candidate 54 = .ok (.getfield 92, 3) := by decide +kernel
theorem dX8_candidate_57 : decode cX8_candidate 57 = .ok (.iload_n 3, 1) := by decide +kernel
theorem dX8_candidate_58 : decode cX8_candidate 58 = .ok (.iaload, 1) := by decide +kernel
theorem dX8_candidate_59 : decode cX8_candidate 59 = .ok (.if_icmp .lt 25, 3) := by decide +kernel
theorem dX8_candidate_62 : decode cX8_candidate 62 = .ok (.aload_n 0, 1) := by decide +kernel
theorem dX8_candidate_63 : decode cX8_candidate 63 = .ok (.getfield 92, 3) := by decide +kernel
theorem dX8_candidate_66 : decode cX8_candidate 66 = .ok (.iload 5, 2) := by decide +kernel
theorem dX8_candidate_68 : decode cX8_candidate 68 = .ok (.iaload, 1) := by decide +kernel
theorem dX8_candidate_69 : decode cX8_candidate 69 = .ok (.aload_n 0, 1) := by decide +kernel
theorem dX8_candidate_70 : decode cX8_candidate 70 = .ok (.getfield 92, 3) := by decide +kernel
theorem dX8_candidate_73 : decode cX8_candidate 73 = .ok (.iload_n 3, 1) := by decide +kernel
theorem dX8_candidate_74 : decode cX8_candidate 74 = .ok (.iaload, 1) := by decide +kernel
theorem dX8_candidate_75 : decode cX8_candidate 75 = .ok (.if_icmp .ne 13, 3) := by decide +kernel
theorem dX8_candidate_78 : decode cX8_candidate 78 = .ok (.iload 5, 2) := by decide +kernel
theorem dX8_candidate_80 : decode cX8_candidate 80 = .ok (.iload_n 3, 1) := by decide +kernel
theorem dX8_candidate_81 : decode cX8_candidate 81 = .ok (.if_icmp .ge 7, 3) := by decide +kernel
theorem dX8_candidate_84 : decode cX8_candidate 84 = .ok (.iconst 1, 1) := by decide +kernel
theorem dX8_candidate_85 : decode cX8_candidate 85 = .ok (.goto 4, 3) := by decide +kernel
theorem dX8_candidate_88 : decode cX8_candidate 88 = .ok (.iconst 0, 1) := by decide +kernel
theorem dX8_candidate_89 : decode cX8_candidate 89 = .ok (.iadd, 1) := by decide +kernel
theorem dX8_candidate_90 : decode cX8_candidate 90 = .ok (.istore 4, 2) := by decide +kernel
theorem dX8_candidate_92 : decode cX8_candidate 92 = .ok (.iinc 5 1, 3) := by decide +kernel
theorem dX8_candidate_95 : decode cX8_candidate 95 = .ok (.goto (-79), 3) := by decide +kernel
theorem dX8_candidate_98 : decode cX8_candidate 98 = .ok (.aload_n 0, 1) := by decide +kernel
theorem dX8_candidate_99 : decode cX8_candidate 99 = .ok (.iload_n 1, 1) := by decide +kernel
theorem dX8_candidate_100 : decode cX8_candidate 100 = .ok (.iload_n 3, 1) := by decide +kernel
theorem dX8_candidate_101 : decode cX8_candidate 101 = .ok (.invokevirtual 207, 3) := by decide +kernel
theorem dX8_candidate_104 : decode cX8_candidate 104 = .ok (.ifCond .eq 11, 3) := by decide +kernel
theorem dX8_candidate_107 : decode cX8_candidate 107 = .ok (.iload 4, 2) := by decide +kernel
theorem dX8_candidate_109 : decode cX8_candidate 109 = .ok (.iload_n 2, 1) := by decide +kernel
theorem dX8_candidate_110 : decode cX8_candidate 110 = .ok (.if_icmp .ne 5, 3) := by decide +kernel
theorem dX8_candidate_113 : decode cX8_candidate 113 = .ok (.iload_n 3, 1) := by decide +kernel
theorem dX8_candidate_114 : decode cX8_candidate 114 = .ok (.ireturn, 1) := by decide +kernel
theorem dX8_candidate_115 : decode cX8_candidate 115 = .ok (.iinc 3 1, 3) := by decide +kernel
theorem dX8_candidate_118 : decode cX8_candidate 118 = .ok (.goto (-116), 3) := by decide +kernel
theorem dX8_candidate_121 : decode cX8_candidate 121 = .ok (.iconst (-1), 1) := by decide +kernel
theorem dX8_candidate_122 : decode cX8_candidate 122 = .ok (.ireturn, 1) := by decide +kernel
set_option maxRecDepth 20000 in
theorem ggX8_ships_X8_candidate : GoodIn wsX8_ships wsX8_candidate := goodIn_ca (goodIn_r _ [10, 11, 2, 12, 13, 14, 9, 15, 4, 16, 17, 18, 19, 20, 21, 22, 23, 24, 25, 26, 27, 28, 29, 30, 31, 32, 33, 34, 35, 36, 37, 38, 39, 40, 41, 42, 43, 44, 45, 46, 47, 48, 49, 50, 51, 52, 53, 54, 55, 56, 57, 58, 59, 60, 61, 62] (by decide +kernel) (by decide +kernel)) (goodIn_sub (fun _ h => List.mem_cons_of_mem _ (List.mem_append_right _ h)) (by decide +kernel))
set_option maxRecDepth 20000 in
theorem gX8_ships_X8_candidate : GoodIn wsX8_ships (wsV RX8 211 RX8 yX8_candidate wsX8_candidate) := goodIn_app (goodIn_of _ (by decide +kernel)) ggX8_ships_X8_candidate
theorem dX8_ships_0 : decode cX8_ships 0 = .ok (.iconst 0, 1) := by decide +kernel
theorem dX8_ships_1 : decode cX8_ships 1 = .ok (.istore_n 2, 1) := by decide +kernel
theorem dX8_ships_2 : decode cX8_ships 2 = .ok (.aload_n 0, 1) := by decide +kernel
theorem dX8_ships_3 : decode cX8_ships 3 = .ok (.getfield 113, 3) := by decide +kernel
theorem dX8_ships_6 : decode cX8_ships 6 = .ok (.iload_n 1, 1) := by decide +kernel
theorem dX8_ships_7 : decode cX8_ships 7 = .ok (.aload_n 0, 1) := by decide +kernel
theorem dX8_ships_8 : decode cX8_ships 8 = .ok (.getfield 92, 3) := by decide +kernel
theorem dX8_ships_11 : decode cX8_ships 11 = .ok (.aload_n 0, 1) := by decide +kernel
theorem dX8_ships_12 : decode cX8_ships 12 = .ok (.iload_n 1, 1) := by decide +kernel
theorem dX8_ships_13 : decode cX8_ships 13 = .ok (.iconst 0, 1) := by decide +kernel
theorem dX8_ships_14 : decode cX8_ships 14 = .ok (.invokevirtual 211, 3) := by decide +kernel
theorem dX8_ships_17 : decode cX8_ships 17 = .ok (.iaload, 1) := by decide +kernel
theorem dX8_ships_18 : decode cX8_ships 18 = .ok (.iastore, 1) := by decide +kernel
theorem dX8_ships_19 : decode cX8_ships 19 = .ok (.iconst 0, 1) := by decide +kernel
theorem dX8_ships_20 : decode cX8_ships 20 = .ok (.istore_n 3, 1) := by decide +kernel
theorem dX8_ships_21 : decode cX8_ships 21 = .ok (.iload_n 3, 1) := by decide +kernel
theorem dX8_ships_22 : decode cX8_ships 22 = .ok (.aload_n 0, 1) := by decide +kernel
theorem dX8_ships_23 : decode cX8_ships 23 = .ok (.getfield 101, 3) := by decide +kernel
theorem dX8_ships_26 : decode cX8_ships 26 = .ok (.iload_n 1, 1) := by decide +kernel
theorem dX8_ships_27 : decode cX8_ships 27 = .ok (.iaload, 1) := by decide +kernel
theorem dX8_ships_28 : decode cX8_ships 28 = .ok (.if_icmp .ge 36, 3) := by decide +kernel
theorem dX8_ships_31 : decode cX8_ships 31 = .ok (.aload_n 0, 1) := by decide +kernel
theorem dX8_ships_32 : decode cX8_ships 32 = .ok (.iload_n 1, 1) := by decide +kernel
theorem dX8_ships_33 : decode cX8_ships 33 = .ok (.iconst 0, 1) := by decide +kernel
theorem dX8_ships_34 : decode cX8_ships 34 = .ok (.invokevirtual 211, 3) := by decide +kernel
theorem dX8_ships_37 : decode cX8_ships 37 = .ok (.istore 4, 2) := by decide +kernel
theorem dX8_ships_39 : decode cX8_ships 39 = .ok (.iload_n 2, 1) := by decide +kernel
theorem dX8_ships_40 : decode cX8_ships 40 = .ok (.aload_n 0, 1) := by decide +kernel
theorem dX8_ships_41 : decode cX8_ships 41 = .ok (.getfield 92, 3) := by decide +kernel
theorem dX8_ships_44 : decode cX8_ships 44 = .ok (.iload 4, 2) := by decide +kernel
theorem dX8_ships_46 : decode cX8_ships 46 = .ok (.iaload, 1) := by decide +kernel
theorem dX8_ships_47 : decode cX8_ships 47 = .ok (.iadd, 1) := by decide +kernel
theorem dX8_ships_48 : decode cX8_ships 48 = .ok (.istore_n 2, 1) := by decide +kernel
theorem dX8_ships_49 : decode cX8_ships 49 = .ok (.aload_n 0, 1) := by decide +kernel
theorem dX8_ships_50 : decode cX8_ships 50 = .ok (.getfield 95, 3) := by decide +kernel
theorem dX8_ships_53 : decode cX8_ships 53 = .ok (.iload 4, 2) := by decide +kernel
theorem dX8_ships_55 : decode cX8_ships 55 = .ok (.bipush 115, 2) := by decide +kernel
theorem dX8_ships_57 : decode cX8_ships 57 = .ok (.castore, 1) := by decide +kernel
theorem dX8_ships_58 : decode cX8_ships 58 = .ok (.iinc 3 1, 3) := by decide +kernel
theorem dX8_ships_61 : decode cX8_ships 61 = .ok (.goto (-40), 3) := by decide +kernel
theorem dX8_ships_64 : decode cX8_ships 64 = .ok (.aload_n 0, 1) := by decide +kernel
theorem dX8_ships_65 : decode cX8_ships 65 = .ok (.getfield 110, 3) := by decide +kernel
theorem dX8_ships_68 : decode cX8_ships 68 = .ok (.iload_n 1, 1) := by decide +kernel
theorem dX8_ships_69 : decode cX8_ships 69 = .ok (.bipush 115, 2) := by decide +kernel
theorem dX8_ships_71 : decode cX8_ships 71 = .ok (.castore, 1) := by decide +kernel
theorem dX8_ships_72 : decode cX8_ships 72 = .ok (.iload_n 2, 1) := by decide +kernel
theorem dX8_ships_73 : decode cX8_ships 73 = .ok (.ireturn, 1) := by decide +kernel
set_option maxRecDepth 20000 in
theorem ggX8_candidates_X8_isOrder : GoodIn wsX8_candidates wsX8_isOrder := goodIn_r _ [6, 7, 8, 9, 5, 10, 25, 26, 27, 28, 29, 30, 31, 32, 33, 34, 35, 36, 37, 38, 39, 40, 41, 42, 43, 44, 45, 46, 47, 48, 49, 50, 51, 52, 53, 54, 55, 56, 57, 58, 59, 60, 61, 62, 63, 64, 65, 66, 67, 68] (by decide +kernel) (by decide +kernel)
set_option maxRecDepth 20000 in
theorem gX8_candidates_X8_isOrder : GoodIn wsX8_candidates (wsV RX8 204 RX8 yX8_isOrder wsX8_isOrder) := goodIn_app (goodIn_of _ (by decide +kernel)) ggX8_candidates_X8_isOrder
set_option maxRecDepth 20000 in
theorem ggX8_candidates_X8_candidatesOf : GoodIn wsX8_candidates wsX8_candidatesOf := goodIn_ca (goodIn_r _ [14, 15, 16, 17, 18, 5, 19, 20, 21, 22, 23, 24, 25, 26, 27, 28, 29, 30, 31, 32, 33, 34, 35, 36, 37, 38, 39, 40, 41, 42, 43, 44, 45, 46, 47, 48, 49, 50, 51, 52, 53, 54, 55, 56, 57, 58, 59, 60, 61, 62, 63, 64, 65, 66, 67, 68] (by decide +kernel) (by decide +kernel)) (goodIn_sub (fun _ h => List.mem_cons_of_mem _ (List.mem_append_right _ h)) (by decide +kernel))
set_option maxRecDepth 20000 in
theorem gX8_candidates_X8_candidatesOf : GoodIn wsX8_candidates (wsV RX8 171 RX8 yX8_candidatesOf wsX8_candidatesOf) := goodIn_app (goodIn_of _ (by decide +kernel)) ggX8_candidates_X8_candidatesOf
theorem dX8_candidates_0 : decode cX8_candidates 0 = .ok (.aload_n 0, 1) := by decide +kernel
theorem dX8_candidates_1 : decode cX8_candidates 1 = .ok (.aload_n 0, 1) := by decide +kernel
theorem dX8_candidates_2 : decode cX8_candidates 2 = .ok (.iload_n 1, 1) := by decide +kernel
theorem dX8_candidates_3 : decode cX8_candidates 3 = .ok (.invokevirtual 204, 3) := by decide +kernel
theorem dX8_candidates_6 : decode cX8_candidates 6 = .ok (.ifCond .eq 7, 3) := by decide +kernel
theorem dX8_candidates_9 : decode cX8_candidates 9 = .ok (.iconst 0, 1) := by decide +kernel
theorem dX8_candidates_10 : decode cX8_candidates 10 = .ok (.goto 4, 3) := by decide +kernel
theorem dX8_candidates_13 : decode cX8_candidates 13 = .ok (.iconst 1, 1) := by decide +kernel
theorem dX8_candidates_14 : decode cX8_candidates 14 = .ok (.putfield 116, 3) := by decide +kernel
theorem dX8_candidates_17 : decode cX8_candidates 17 = .ok (.aload_n 0, 1) := by decide +kernel
theorem dX8_candidates_18 : decode cX8_candidates 18 = .ok (.getfield 116, 3) := by decide +kernel
theorem dX8_candidates_21 : decode cX8_candidates 21 = .ok (.ifCond .le 7, 3) := by decide +kernel
theorem dX8_candidates_24 : decode cX8_candidates 24 = .ok (.iconst 0, 1) := by decide +kernel
theorem dX8_candidates_25 : decode cX8_candidates 25 = .ok (.goto 8, 3) := by decide +kernel
theorem dX8_candidates_28 : decode cX8_candidates 28 = .ok (.aload_n 0, 1) := by decide +kernel
theorem dX8_candidates_29 : decode cX8_candidates 29 = .ok (.iload_n 1, 1) := by decide +kernel
theorem dX8_candidates_30 : decode cX8_candidates 30 = .ok (.invokevirtual 171, 3) := by decide +kernel
theorem dX8_candidates_33 : decode cX8_candidates 33 = .ok (.ireturn, 1) := by decide +kernel
set_option maxRecDepth 20000 in
theorem ggX8_candidateAt_X8_isOrder : GoodIn wsX8_candidateAt wsX8_isOrder := goodIn_r _ [6, 7, 8, 9, 5, 10, 29, 30, 31, 32, 33, 34, 35, 36, 37, 38, 39, 40, 41, 42, 43, 44, 45, 46, 47, 48, 49, 50, 51, 52, 53, 54, 55, 56, 57, 58, 59, 60, 61, 62, 63, 64, 65, 66, 67, 68, 69, 70, 71, 72] (by decide +kernel) (by decide +kernel)
set_option maxRecDepth 20000 in
theorem gX8_candidateAt_X8_isOrder : GoodIn wsX8_candidateAt (wsV RX8 204 RX8 yX8_isOrder wsX8_isOrder) := goodIn_app (goodIn_of _ (by decide +kernel)) ggX8_candidateAt_X8_isOrder
set_option maxRecDepth 20000 in
theorem ggX8_candidateAt_X8_raises : GoodIn wsX8_candidateAt wsX8_raises := goodIn_r _ [14, 1, 29, 30, 31, 32, 33, 34, 35, 36, 37, 38, 39, 40, 41, 42, 43, 44, 45, 46, 47, 48, 49, 50, 51, 52, 53, 54, 55, 56, 57, 58, 59, 60, 61, 62, 63, 64, 65, 66, 67, 68, 69, 70, 71, 72] (by decide +kernel) (by decide +kernel)
set_option maxRecDepth 20000 in
theorem gX8_candidateAt_X8_raises : GoodIn wsX8_candidateAt (wsV RX8 214 RX8 yX8_raises wsX8_raises) := goodIn_app (goodIn_of _ (by decide +kernel)) ggX8_candidateAt_X8_raises
set_option maxRecDepth 20000 in
theorem ggX8_candidateAt_X8_candidate : GoodIn wsX8_candidateAt wsX8_candidate := goodIn_ca (goodIn_r _ [18, 19, 20, 21, 22, 23, 5, 24, 25, 26, 27, 28, 29, 30, 31, 32, 33, 34, 35, 36, 37, 38, 39, 40, 41, 42, 43, 44, 45, 46, 47, 48, 49, 50, 51, 52, 53, 54, 55, 56, 57, 58, 59, 60, 61, 62, 63, 64, 65, 66, 67, 68, 69, 70, 71, 72] (by decide +kernel) (by decide +kernel)) (goodIn_sub (fun _ h => List.mem_cons_of_mem _ (List.mem_append_right _ h)) (by decide +kernel))
set_option maxRecDepth 20000 in
theorem gX8_candidateAt_X8_candidate : GoodIn wsX8_candidateAt (wsV RX8 211 RX8 yX8_candidate wsX8_candidate) := goodIn_app (goodIn_of _ (by decide +kernel)) ggX8_candidateAt_X8_candidate
theorem dX8_candidateAt_0 : decode cX8_candidateAt 0 = .ok (.aload_n 0, 1) := by decide +kernel
theorem dX8_candidateAt_1 : decode cX8_candidateAt 1 = .ok (.iload_n 1, 1) := by decide +kernel
theorem dX8_candidateAt_2 : decode cX8_candidateAt 2 = .ok (.invokevirtual 204, 3) := by decide +kernel
theorem dX8_candidateAt_5 : decode cX8_candidateAt 5 = .ok (.ifCond .ne 9, 3) := by decide +kernel
theorem dX8_candidateAt_8 : decode cX8_candidateAt 8 = .ok (.aload_n 0, 1) := by decide +kernel
theorem dX8_candidateAt_9 : decode cX8_candidateAt 9 = .ok (.iconst 1, 1) := by decide +kernel
theorem dX8_candidateAt_10 : decode cX8_candidateAt 10 = .ok (.invokevirtual 214, 3) := by decide +kernel
theorem dX8_candidateAt_13 : decode cX8_candidateAt 13 = .ok (.ireturn, 1) := by decide +kernel
theorem dX8_candidateAt_14 : decode cX8_candidateAt 14 = .ok (.aload_n 0, 1) := by decide +kernel
theorem dX8_candidateAt_15 : decode cX8_candidateAt 15 = .ok (.iload_n 1, 1) := by decide +kernel
theorem dX8_candidateAt_16 : decode cX8_candidateAt 16 = .ok (.iload_n 2, 1) := by decide +kernel
theorem dX8_candidateAt_17 : decode cX8_candidateAt 17 = .ok (.invokevirtual 211, 3) := by decide +kernel
theorem dX8_candidateAt_20 : decode cX8_candidateAt 20 = .ok (.istore_n 3, 1) := by decide +kernel
theorem dX8_candidateAt_21 : decode cX8_candidateAt 21 = .ok (.aload_n 0, 1) := by decide +kernel
theorem dX8_candidateAt_22 : decode cX8_candidateAt 22 = .ok (.iload_n 3, 1) := by decide +kernel
theorem dX8_candidateAt_23 : decode cX8_candidateAt 23 = .ok (.iconst (-1), 1) := by decide +kernel
theorem dX8_candidateAt_24 : decode cX8_candidateAt 24 = .ok (.if_icmp .ne 7, 3) := by decide +kernel
theorem dX8_candidateAt_27 : decode cX8_candidateAt 27 = .ok (.iconst 2, 1) := by decide +kernel
theorem dX8_candidateAt_28 : decode cX8_candidateAt 28 = .ok (.goto 4, 3) := by decide +kernel
theorem dX8_candidateAt_31 : decode cX8_candidateAt 31 = .ok (.iconst 0, 1) := by decide +kernel
theorem dX8_candidateAt_32 : decode cX8_candidateAt 32 = .ok (.putfield 116, 3) := by decide +kernel
theorem dX8_candidateAt_35 : decode cX8_candidateAt 35 = .ok (.aload_n 0, 1) := by decide +kernel
theorem dX8_candidateAt_36 : decode cX8_candidateAt 36 = .ok (.getfield 116, 3) := by decide +kernel
theorem dX8_candidateAt_39 : decode cX8_candidateAt 39 = .ok (.ifCond .le 7, 3) := by decide +kernel
theorem dX8_candidateAt_42 : decode cX8_candidateAt 42 = .ok (.iconst 0, 1) := by decide +kernel
theorem dX8_candidateAt_43 : decode cX8_candidateAt 43 = .ok (.goto 4, 3) := by decide +kernel
theorem dX8_candidateAt_46 : decode cX8_candidateAt 46 = .ok (.iload_n 3, 1) := by decide +kernel
theorem dX8_candidateAt_47 : decode cX8_candidateAt 47 = .ok (.ireturn, 1) := by decide +kernel
set_option maxRecDepth 20000 in
theorem ggX8_ship_X8_isOrder : GoodIn wsX8_ship wsX8_isOrder := goodIn_r _ [8, 9, 10, 11, 7, 12, 36, 37, 38, 39, 40, 41, 42, 43, 44, 45, 46, 47, 48, 49, 50, 51, 52, 53, 54, 55, 56, 57, 58, 59, 60, 61, 62, 63, 64, 65, 66, 67, 68, 69, 70, 71, 72, 73, 74, 75, 76, 77, 78, 79] (by decide +kernel) (by decide +kernel)
set_option maxRecDepth 20000 in
theorem gX8_ship_X8_isOrder : GoodIn wsX8_ship (wsV RX8 204 RX8 yX8_isOrder wsX8_isOrder) := goodIn_app (goodIn_of _ (by decide +kernel)) ggX8_ship_X8_isOrder
set_option maxRecDepth 20000 in
theorem ggX8_ship_X8_candidatesOf : GoodIn wsX8_ship wsX8_candidatesOf := goodIn_ca (goodIn_r _ [16, 17, 18, 19, 20, 7, 21, 22, 23, 24, 25, 26, 36, 37, 38, 39, 40, 41, 42, 43, 44, 45, 46, 47, 48, 49, 50, 51, 52, 53, 54, 55, 56, 57, 58, 59, 60, 61, 62, 63, 64, 65, 66, 67, 68, 69, 70, 71, 72, 73, 74, 75, 76, 77, 78, 79] (by decide +kernel) (by decide +kernel)) (goodIn_sub (fun _ h => List.mem_cons_of_mem _ (List.mem_append_right _ h)) (by decide +kernel))
set_option maxRecDepth 20000 in
theorem gX8_ship_X8_candidatesOf : GoodIn wsX8_ship (wsV RX8 171 RX8 yX8_candidatesOf wsX8_candidatesOf) := goodIn_app (goodIn_of _ (by decide +kernel)) ggX8_ship_X8_candidatesOf
set_option maxRecDepth 20000 in
theorem ggX8_ship_X8_ships : GoodIn wsX8_ship wsX8_ships := goodIn_ca (goodIn_r _ [30, 31, 25, 2, 22, 1, 32, 33, 34, 7, 35, 17, 18, 19, 20, 21, 23, 24, 26, 36, 37, 38, 39, 40, 41, 42, 43, 44, 45, 46, 47, 48, 49, 50, 51, 52, 53, 54, 55, 56, 57, 58, 59, 60, 61, 62, 63, 64, 65, 66, 67, 68, 69, 70, 71, 72, 73, 74, 75, 76, 77, 78, 79] (by decide +kernel) (by decide +kernel)) (goodIn_sub (fun _ h => List.mem_cons_of_mem _ (List.mem_append_right _ h)) (by decide +kernel))
set_option maxRecDepth 20000 in
theorem gX8_ship_X8_ships : GoodIn wsX8_ship (wsV RX8 175 RX8 yX8_ships wsX8_ships) := goodIn_app (goodIn_of _ (by decide +kernel)) ggX8_ship_X8_ships
theorem dX8_ship_0 : decode cX8_ship 0 = .ok (.aload_n 0, 1) := by decide +kernel
theorem dX8_ship_1 : decode cX8_ship 1 = .ok (.aload_n 0, 1) := by decide +kernel
theorem dX8_ship_2 : decode cX8_ship 2 = .ok (.iload_n 1, 1) := by decide +kernel
theorem dX8_ship_3 : decode cX8_ship 3 = .ok (.invokevirtual 204, 3) := by decide +kernel
theorem dX8_ship_6 : decode cX8_ship 6 = .ok (.ifCond .ne 7, 3) := by decide +kernel
theorem dX8_ship_9 : decode cX8_ship 9 = .ok (.iconst 1, 1) := by decide +kernel
theorem dX8_ship_10 : decode cX8_ship 10 = .ok (.goto 37, 3) := by decide +kernel
theorem dX8_ship_13 : decode cX8_ship 13 = .ok (.aload_n 0, 1) := by decide +kernel
theorem dX8_ship_14 : decode cX8_ship 14 = .ok (.getfield 110, 3) := by decide +kernel
theorem dX8_ship_17 : decode cX8_ship 17 = .ok (.iload_n 1, 1) := by decide +kernel
theorem dX8_ship_18 : decode cX8_ship 18 = .ok (.caload, 1) := by decide +kernel
theorem dX8_ship_19 : decode cX8_ship 19 = .ok (.bipush 111, 2) := by decide +kernel
theorem dX8_ship_21 : decode cX8_ship 21 = .ok (.if_icmp .eq 7, 3) := by decide +kernel
theorem dX8_ship_24 : decode cX8_ship 24 = .ok (.iconst 2, 1) := by decide +kernel
theorem dX8_ship_25 : decode cX8_ship 25 = .ok (.goto 22, 3) := by decide +kernel
theorem dX8_ship_28 : decode cX8_ship 28 = .ok (.aload_n 0, 1) := by decide +kernel
theorem dX8_ship_29 : decode cX8_ship 29 = .ok (.iload_n 1, 1) := by decide +kernel
theorem dX8_ship_30 : decode cX8_ship 30 = .ok (.invokevirtual 171, 3) := by decide +kernel
theorem dX8_ship_33 : decode cX8_ship 33 = .ok (.aload_n 0, 1) := by decide +kernel
theorem dX8_ship_34 : decode cX8_ship 34 = .ok (.getfield 101, 3) := by decide +kernel
theorem dX8_ship_37 : decode cX8_ship 37 = .ok (.iload_n 1, 1) := by decide +kernel
theorem dX8_ship_38 : decode cX8_ship 38 = .ok (.iaload, 1) := by decide +kernel
theorem dX8_ship_39 : decode cX8_ship 39 = .ok (.if_icmp .ge 7, 3) := by decide +kernel
theorem dX8_ship_42 : decode cX8_ship 42 = .ok (.iconst 3, 1) := by decide +kernel
theorem dX8_ship_43 : decode cX8_ship 43 = .ok (.goto 4, 3) := by decide +kernel
theorem dX8_ship_46 : decode cX8_ship 46 = .ok (.iconst 0, 1) := by decide +kernel
theorem dX8_ship_47 : decode cX8_ship 47 = .ok (.putfield 116, 3) := by decide +kernel
theorem dX8_ship_50 : decode cX8_ship 50 = .ok (.aload_n 0, 1) := by decide +kernel
theorem dX8_ship_51 : decode cX8_ship 51 = .ok (.getfield 116, 3) := by decide +kernel
theorem dX8_ship_54 : decode cX8_ship 54 = .ok (.ifCond .le 7, 3) := by decide +kernel
theorem dX8_ship_57 : decode cX8_ship 57 = .ok (.iconst 0, 1) := by decide +kernel
theorem dX8_ship_58 : decode cX8_ship 58 = .ok (.goto 8, 3) := by decide +kernel
theorem dX8_ship_61 : decode cX8_ship 61 = .ok (.aload_n 0, 1) := by decide +kernel
theorem dX8_ship_62 : decode cX8_ship 62 = .ok (.iload_n 1, 1) := by decide +kernel
theorem dX8_ship_63 : decode cX8_ship 63 = .ok (.invokevirtual 175, 3) := by decide +kernel
theorem dX8_ship_66 : decode cX8_ship 66 = .ok (.ireturn, 1) := by decide +kernel
set_option maxRecDepth 20000 in
theorem ggX8_orderState_X8_isOrder : GoodIn wsX8_orderState wsX8_isOrder := goodIn_r _ [7, 8, 9, 10, 6, 11, 12, 13, 14, 15, 16, 17, 18, 19, 20, 21, 22, 23, 24, 25, 26, 27, 28, 29, 30, 31, 32, 33, 34, 35, 36, 37, 38, 39, 40, 41, 42, 43, 44, 45, 46, 47, 48, 49, 50, 51, 52, 53, 54, 55] (by decide +kernel) (by decide +kernel)
set_option maxRecDepth 20000 in
theorem gX8_orderState_X8_isOrder : GoodIn wsX8_orderState (wsV RX8 204 RX8 yX8_isOrder wsX8_isOrder) := goodIn_app (goodIn_of _ (by decide +kernel)) ggX8_orderState_X8_isOrder
theorem dX8_orderState_0 : decode cX8_orderState 0 = .ok (.aload_n 0, 1) := by decide +kernel
theorem dX8_orderState_1 : decode cX8_orderState 1 = .ok (.aload_n 0, 1) := by decide +kernel
theorem dX8_orderState_2 : decode cX8_orderState 2 = .ok (.iload_n 1, 1) := by decide +kernel
theorem dX8_orderState_3 : decode cX8_orderState 3 = .ok (.invokevirtual 204, 3) := by decide +kernel
theorem dX8_orderState_6 : decode cX8_orderState 6 = .ok (.ifCond .eq 7, 3) := by decide +kernel
theorem dX8_orderState_9 : decode cX8_orderState 9 = .ok (.iconst 0, 1) := by decide +kernel
theorem dX8_orderState_10 : decode cX8_orderState 10 = .ok (.goto 4, 3) := by decide +kernel
theorem dX8_orderState_13 : decode cX8_orderState 13 = .ok (.iconst 1, 1) := by decide +kernel
theorem dX8_orderState_14 : decode cX8_orderState 14 = .ok (.putfield 116, 3) := by decide +kernel
theorem dX8_orderState_17 : decode cX8_orderState 17 = .ok (.aload_n 0, 1) := by decide +kernel
theorem dX8_orderState_18 : decode cX8_orderState 18 = .ok (.getfield 116, 3) := by decide +kernel
theorem dX8_orderState_21 : decode cX8_orderState 21 = .ok (.ifCond .le 8, 3) := by decide +kernel
theorem dX8_orderState_24 : decode cX8_orderState 24 = .ok (.bipush 32, 2) := by decide +kernel
theorem dX8_orderState_26 : decode cX8_orderState 26 = .ok (.goto 9, 3) := by decide +kernel
theorem dX8_orderState_29 : decode cX8_orderState 29 = .ok (.aload_n 0, 1) := by decide +kernel
theorem dX8_orderState_30 : decode cX8_orderState 30 = .ok (.getfield 110, 3) := by decide +kernel
theorem dX8_orderState_33 : decode cX8_orderState 33 = .ok (.iload_n 1, 1) := by decide +kernel
theorem dX8_orderState_34 : decode cX8_orderState 34 = .ok (.caload, 1) := by decide +kernel
theorem dX8_orderState_35 : decode cX8_orderState 35 = .ok (.ireturn, 1) := by decide +kernel
set_option maxRecDepth 20000 in
theorem ggX8_leastShipped_X8_isOrder : GoodIn wsX8_leastShipped wsX8_isOrder := goodIn_r _ [8, 9, 10, 11, 7, 12, 13, 14, 15, 16, 17, 18, 19, 20, 21, 22, 23, 24, 25, 26, 27, 28, 29, 30, 31, 32, 33, 34, 35, 36, 37, 38, 39, 40, 41, 42, 43, 44, 45, 46, 47, 48, 49, 50, 51, 52, 53, 54, 55, 56] (by decide +kernel) (by decide +kernel)
set_option maxRecDepth 20000 in
theorem gX8_leastShipped_X8_isOrder : GoodIn wsX8_leastShipped (wsV RX8 204 RX8 yX8_isOrder wsX8_isOrder) := goodIn_app (goodIn_of _ (by decide +kernel)) ggX8_leastShipped_X8_isOrder
theorem dX8_leastShipped_0 : decode cX8_leastShipped 0 = .ok (.aload_n 0, 1) := by decide +kernel
theorem dX8_leastShipped_1 : decode cX8_leastShipped 1 = .ok (.aload_n 0, 1) := by decide +kernel
theorem dX8_leastShipped_2 : decode cX8_leastShipped 2 = .ok (.iload_n 1, 1) := by decide +kernel
theorem dX8_leastShipped_3 : decode cX8_leastShipped 3 = .ok (.invokevirtual 204, 3) := by decide +kernel
theorem dX8_leastShipped_6 : decode cX8_leastShipped 6 = .ok (.ifCond .ne 7, 3) := by decide +kernel
theorem dX8_leastShipped_9 : decode cX8_leastShipped 9 = .ok (.iconst 1, 1) := by decide +kernel
theorem dX8_leastShipped_10 : decode cX8_leastShipped 10 = .ok (.goto 19, 3) := by decide +kernel
theorem dX8_leastShipped_13 : decode cX8_leastShipped 13 = .ok (.aload_n 0, 1) := by decide +kernel
theorem dX8_leastShipped_14 : decode cX8_leastShipped 14 = .ok (.getfield 110, 3) := by decide +kernel
theorem dX8_leastShipped_17 : decode cX8_leastShipped 17 = .ok (.iload_n 1, 1) := by decide +kernel
theorem dX8_leastShipped_18 : decode cX8_leastShipped 18 = .ok (.caload, 1) := by decide +kernel
theorem dX8_leastShipped_19 : decode cX8_leastShipped 19 = .ok (.bipush 115, 2) := by decide +kernel
theorem dX8_leastShipped_21 : decode cX8_leastShipped 21 = .ok (.if_icmp .eq 7, 3) := by decide +kernel
theorem dX8_leastShipped_24 : decode cX8_leastShipped 24 = .ok (.iconst 2, 1) := by decide +kernel
theorem dX8_leastShipped_25 : decode cX8_leastShipped 25 = .ok (.goto 4, 3) := by decide +kernel
theorem dX8_leastShipped_28 : decode cX8_leastShipped 28 = .ok (.iconst 0, 1) := by decide +kernel
theorem dX8_leastShipped_29 : decode cX8_leastShipped 29 = .ok (.putfield 116, 3) := by decide +kernel
theorem dX8_leastShipped_32 : decode cX8_leastShipped 32 = .ok (.aload_n 0, 1) := by decide +kernel
theorem dX8_leastShipped_33 : decode cX8_leastShipped 33 = .ok (.getfield 116, 3) := by decide +kernel
theorem dX8_leastShipped_36 : decode cX8_leastShipped 36 = .ok (.ifCond .le 7, 3) := by decide +kernel
theorem dX8_leastShipped_39 : decode cX8_leastShipped 39 = .ok (.iconst 0, 1) := by decide +kernel
theorem dX8_leastShipped_40 : decode cX8_leastShipped 40 = .ok (.goto 9, 3) := by decide +kernel
theorem dX8_leastShipped_43 : decode cX8_leastShipped 43 = .ok (.aload_n 0, 1) := by decide +kernel
theorem dX8_leastShipped_44 : decode cX8_leastShipped 44 = .ok (.getfield 113, 3) := by decide +kernel
theorem dX8_leastShipped_47 : decode cX8_leastShipped 47 = .ok (.iload_n 1, 1) := by decide +kernel
theorem dX8_leastShipped_48 : decode cX8_leastShipped 48 = .ok (.iaload, 1) := by decide +kernel
theorem dX8_leastShipped_49 : decode cX8_leastShipped 49 = .ok (.ireturn, 1) := by decide +kernel
theorem dX8_isConsistent_0 : decode cX8_isConsistent 0 = .ok (.aload_n 0, 1) := by decide +kernel
theorem dX8_isConsistent_1 : decode cX8_isConsistent 1 = .ok (.iconst 0, 1) := by decide +kernel
theorem dX8_isConsistent_2 : decode cX8_isConsistent 2 = .ok (.putfield 116, 3) := by decide +kernel
theorem dX8_isConsistent_5 : decode cX8_isConsistent 5 = .ok (.iconst 1, 1) := by decide +kernel
theorem dX8_isConsistent_6 : decode cX8_isConsistent 6 = .ok (.ireturn, 1) := by decide +kernel
