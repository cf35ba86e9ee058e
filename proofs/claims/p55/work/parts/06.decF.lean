set_option maxRecDepth 20000 in
theorem ggX9_init_X7_init : GoodIn wsX9_init wsX7_init := goodIn_r _ [49, 50, 2, 3, 4, 51, 142, 143] (by decide +kernel) (by decide +kernel)
set_option maxRecDepth 20000 in
theorem gX9_init_X7_init : GoodIn wsX9_init (wsX7_init) := ggX9_init_X7_init
set_option maxRecDepth 20000 in
theorem ggX9_init_X1_init : GoodIn wsX9_init wsX1_init := goodIn_r _ [53, 54, 2, 3, 55, 56, 57, 58, 59, 60, 15, 16, 61, 62, 48, 49, 50, 4, 51, 144, 145, 146, 147, 148, 149, 150, 142, 143] (by decide +kernel) (by decide +kernel)
set_option maxRecDepth 20000 in
theorem gX9_init_X1_init_n50 : GoodIn wsX9_init (wsX1_init) := ggX9_init_X1_init
set_option maxRecDepth 20000 in
theorem ggX9_init_X5_init : GoodIn wsX9_init wsX5_init := goodIn_r _ [64, 65, 2, 3, 55, 66, 67, 68, 69, 70, 71, 72, 151, 152, 153, 154, 155, 156, 157, 158, 159] (by decide +kernel) (by decide +kernel)
set_option maxRecDepth 20000 in
theorem gX9_init_X5_init_n57 : GoodIn wsX9_init (wsX5_init) := ggX9_init_X5_init
set_option maxRecDepth 20000 in
theorem ggX9_init_X0_init : GoodIn wsX9_init wsX0_init := goodIn_r _ [74, 75, 2, 3, 76, 20, 21, 77, 78, 55, 79, 80, 52, 53, 54, 56, 57, 58, 59, 60, 15, 16, 61, 62, 48, 49, 50, 4, 51, 144, 145, 146, 147, 148, 149, 150, 160, 161, 162, 163, 142, 143] (by decide +kernel) (by decide +kernel)
set_option maxRecDepth 20000 in
theorem gX9_init_X0_init_n64 : GoodIn wsX9_init (wsX0_init) := ggX9_init_X0_init
set_option maxRecDepth 20000 in
theorem ggX9_init_X6_init : GoodIn wsX9_init wsX6_init := goodIn_r _ [82, 83, 2, 3, 84, 85, 86, 164, 165] (by decide +kernel) (by decide +kernel)
set_option maxRecDepth 20000 in
theorem gX9_init_X6_init_n71 : GoodIn wsX9_init (wsX6_init) := ggX9_init_X6_init
set_option maxRecDepth 20000 in
theorem ggX9_init_X8_init : GoodIn wsX9_init wsX8_init := goodIn_r _ [88, 89, 2, 3, 90, 15, 16, 91, 92, 55, 93, 94, 48, 49, 50, 4, 51, 142, 143, 166, 167, 168, 169, 170, 171] (by decide +kernel) (by decide +kernel)
set_option maxRecDepth 20000 in
theorem gX9_init_X8_init_n78 : GoodIn wsX9_init (wsX8_init) := ggX9_init_X8_init
set_option maxRecDepth 20000 in
theorem ggX9_init_X4_init : GoodIn wsX9_init wsX4_init := goodIn_r _ [97, 98, 2, 3, 99, 100, 101, 15, 16, 102, 103, 104, 48, 49, 50, 4, 51, 172, 173, 174, 175, 176, 142, 143] (by decide +kernel) (by decide +kernel)
set_option maxRecDepth 20000 in
theorem gX9_init_X4_init : GoodIn wsX9_init (wsX4_init) := ggX9_init_X4_init
set_option maxRecDepth 20000 in
theorem ggX9_init_X2_init : GoodIn wsX9_init wsX2_init := goodIn_r _ [107, 108, 2, 3, 109, 20, 21, 110, 111, 112, 15, 16, 52, 53, 54, 55, 56, 57, 58, 59, 60, 61, 62, 48, 49, 50, 4, 51, 113, 144, 145, 146, 147, 148, 149, 150, 177, 178, 179, 142, 143] (by decide +kernel) (by decide +kernel)
set_option maxRecDepth 20000 in
theorem gX9_init_X2_init : GoodIn wsX9_init (wsX2_init) := ggX9_init_X2_init
set_option maxRecDepth 20000 in
theorem ggX9_init_X3_init : GoodIn wsX9_init wsX3_init := goodIn_r _ [116, 117, 2, 3, 118, 119, 55, 120, 84, 121, 122, 15, 16, 123, 48, 49, 50, 4, 51, 180, 181, 182, 183, 142, 143] (by decide +kernel) (by decide +kernel)
set_option maxRecDepth 20000 in
theorem gX9_init_X3_init : GoodIn wsX9_init (wsX3_init) := ggX9_init_X3_init
theorem dX9_init_0 : decode cX9_init 0 = .ok (.aload_n 0, 1) := by decide +kernel
theorem dX9_init_1 : decode cX9_init 1 = .ok (.invokespecial 3, 3) := by decide +kernel
theorem dX9_init_4 : decode cX9_init 4 = .ok (.aload_n 0, 1) := by decide +kernel
theorem dX9_init_5 : decode cX9_init 5 = .ok (.bipush 30, 2) := by decide +kernel
theorem dX9_init_7 : decode cX9_init 7 = .ok (.newarray .byte, 2) := by decide +kernel
theorem dX9_init_9 : decode cX9_init 9 = .ok (.putfield 9, 3) := by decide +kernel
theorem dX9_init_12 : decode cX9_init 12 = .ok (.aload_n 0, 1) := by decide +kernel
theorem dX9_init_13 : decode cX9_init 13 = .ok (.bipush 24, 2) := by decide +kernel
theorem dX9_init_15 : decode cX9_init 15 = .ok (.anewarray 13, 3) := by decide +kernel
theorem dX9_init_18 : decode cX9_init 18 = .ok (.putfield 15, 3) := by decide +kernel
theorem dX9_init_21 : decode cX9_init 21 = .ok (.aload_n 0, 1) := by decide +kernel
theorem dX9_init_22 : decode cX9_init 22 = .ok (.bipush 24, 2) := by decide +kernel
theorem dX9_init_24 : decode cX9_init 24 = .ok (.anewarray 13, 3) := by decide +kernel
theorem dX9_init_27 : decode cX9_init 27 = .ok (.putfield 19, 3) := by decide +kernel
theorem dX9_init_30 : decode cX9_init 30 = .ok (.aload_n 0, 1) := by decide +kernel
theorem dX9_init_31 : decode cX9_init 31 = .ok (.bipush 24, 2) := by decide +kernel
theorem dX9_init_33 : decode cX9_init 33 = .ok (.newarray .boolean, 2) := by decide +kernel
theorem dX9_init_35 : decode cX9_init 35 = .ok (.putfield 22, 3) := by decide +kernel
theorem dX9_init_38 : decode cX9_init 38 = .ok (.aload_n 0, 1) := by decide +kernel
theorem dX9_init_39 : decode cX9_init 39 = .ok (.bipush 8, 2) := by decide +kernel
theorem dX9_init_41 : decode cX9_init 41 = .ok (.anewarray 26, 3) := by decide +kernel
theorem dX9_init_44 : decode cX9_init 44 = .ok (.putfield 28, 3) := by decide +kernel
theorem dX9_init_47 : decode cX9_init 47 = .ok (.aload_n 0, 1) := by decide +kernel
theorem dX9_init_48 : decode cX9_init 48 = .ok (.bipush 6, 2) := by decide +kernel
theorem dX9_init_50 : decode cX9_init 50 = .ok (.anewarray 32, 3) := by decide +kernel
theorem dX9_init_53 : decode cX9_init 53 = .ok (.putfield 34, 3) := by decide +kernel
theorem dX9_init_56 : decode cX9_init 56 = .ok (.aload_n 0, 1) := by decide +kernel
theorem dX9_init_57 : decode cX9_init 57 = .ok (.new 13, 3) := by decide +kernel
theorem dX9_init_60 : decode cX9_init 60 = .ok (.dup, 1) := by decide +kernel
theorem dX9_init_61 : decode cX9_init 61 = .ok (.sipush 3600, 3) := by decide +kernel
theorem dX9_init_64 : decode cX9_init 64 = .ok (.invokespecial 38, 3) := by decide +kernel
theorem dX9_init_67 : decode cX9_init 67 = .ok (.putfield 41, 3) := by decide +kernel
theorem dX9_init_70 : decode cX9_init 70 = .ok (.aload_n 0, 1) := by decide +kernel
theorem dX9_init_71 : decode cX9_init 71 = .ok (.new 13, 3) := by decide +kernel
theorem dX9_init_74 : decode cX9_init 74 = .ok (.dup, 1) := by decide +kernel
theorem dX9_init_75 : decode cX9_init 75 = .ok (.sipush 3600, 3) := by decide +kernel
theorem dX9_init_78 : decode cX9_init 78 = .ok (.invokespecial 38, 3) := by decide +kernel
theorem dX9_init_81 : decode cX9_init 81 = .ok (.putfield 45, 3) := by decide +kernel
theorem dX9_init_84 : decode cX9_init 84 = .ok (.aload_n 0, 1) := by decide +kernel
theorem dX9_init_85 : decode cX9_init 85 = .ok (.new 48, 3) := by decide +kernel
theorem dX9_init_88 : decode cX9_init 88 = .ok (.dup, 1) := by decide +kernel
theorem dX9_init_89 : decode cX9_init 89 = .ok (.invokespecial 50, 3) := by decide +kernel
theorem dX9_init_92 : decode cX9_init 92 = .ok (.putfield 51, 3) := by decide +kernel
theorem dX9_init_95 : decode cX9_init 95 = .ok (.aload_n 0, 1) := by decide +kernel
theorem dX9_init_96 : decode cX9_init 96 = .ok (.new 55, 3) := by decide +kernel
theorem dX9_init_99 : decode cX9_init 99 = .ok (.dup, 1) := by decide +kernel
theorem dX9_init_100 : decode cX9_init 100 = .ok (.invokespecial 57, 3) := by decide +kernel
theorem dX9_init_103 : decode cX9_init 103 = .ok (.putfield 58, 3) := by decide +kernel
theorem dX9_init_106 : decode cX9_init 106 = .ok (.aload_n 0, 1) := by decide +kernel
theorem dX9_init_107 : decode cX9_init 107 = .ok (.new 62, 3) := by decide +kernel
theorem dX9_init_110 : decode cX9_init 110 = .ok (.dup, 1) := by decide +kernel
theorem dX9_init_111 : decode cX9_init 111 = .ok (.invokespecial 64, 3) := by decide +kernel
theorem dX9_init_114 : decode cX9_init 114 = .ok (.putfield 65, 3) := by decide +kernel
theorem dX9_init_117 : decode cX9_init 117 = .ok (.aload_n 0, 1) := by decide +kernel
theorem dX9_init_118 : decode cX9_init 118 = .ok (.new 69, 3) := by decide +kernel
theorem dX9_init_121 : decode cX9_init 121 = .ok (.dup, 1) := by decide +kernel
theorem dX9_init_122 : decode cX9_init 122 = .ok (.invokespecial 71, 3) := by decide +kernel
theorem dX9_init_125 : decode cX9_init 125 = .ok (.putfield 72, 3) := by decide +kernel
theorem dX9_init_128 : decode cX9_init 128 = .ok (.aload_n 0, 1) := by decide +kernel
theorem dX9_init_129 : decode cX9_init 129 = .ok (.new 76, 3) := by decide +kernel
theorem dX9_init_132 : decode cX9_init 132 = .ok (.dup, 1) := by decide +kernel
theorem dX9_init_133 : decode cX9_init 133 = .ok (.invokespecial 78, 3) := by decide +kernel
theorem dX9_init_136 : decode cX9_init 136 = .ok (.putfield 79, 3) := by decide +kernel
theorem dX9_init_139 : decode cX9_init 139 = .ok (.aload_n 0, 1) := by decide +kernel
theorem dX9_init_140 : decode cX9_init 140 = .ok (.new 83, 3) := by decide +kernel
theorem dX9_init_143 : decode cX9_init 143 = .ok (.dup, 1) := by decide +kernel
theorem dX9_init_144 : decode cX9_init 144 = .ok (.invokespecial 85, 3) := by decide +kernel
theorem dX9_init_147 : decode cX9_init 147 = .ok (.putfield 86, 3) := by decide +kernel
theorem dX9_init_150 : decode cX9_init 150 = .ok (.iconst 0, 1) := by decide +kernel
theorem dX9_init_151 : decode cX9_init 151 = .ok (.istore_n 1, 1) := by decide +kernel
theorem dX9_init_152 : decode cX9_init 152 = .ok (.iload_n 1, 1) := by decide +kernel
theorem dX9_init_153 : decode cX9_init 153 = .ok (.bipush 24, 2) := by decide +kernel
theorem dX9_init_155 : decode cX9_init 155 = .ok (.if_icmp .ge 39, 3) := by decide +kernel
theorem dX9_init_158 : decode cX9_init 158 = .ok (.aload_n 0, 1) := by decide +kernel
theorem dX9_init_159 : decode cX9_init 159 = .ok (.getfield 15, 3) := by decide +kernel
theorem dX9_init_162 : decode cX9_init 162 = .ok (.iload_n 1, 1) := by decide +kernel
theorem dX9_init_163 : decode cX9_init 163 = .ok (.new 13, 3) := by decide +kernel
theorem dX9_init_166 : decode cX9_init 166 = .ok (.dup, 1) := by decide +kernel
theorem dX9_init_167 : decode cX9_init 167 = .ok (.bipush 60, 2) := by decide +kernel
theorem dX9_init_169 : decode cX9_init 169 = .ok (.invokespecial 38, 3) := by decide +kernel
theorem dX9_init_172 : decode cX9_init 172 = .ok (.aastore, 1) := by decide +kernel
theorem dX9_init_173 : decode cX9_init 173 = .ok (.aload_n 0, 1) := by decide +kernel
theorem dX9_init_174 : decode cX9_init 174 = .ok (.getfield 19, 3) := by decide +kernel
theorem dX9_init_177 : decode cX9_init 177 = .ok (.iload_n 1, 1) := by decide +kernel
theorem dX9_init_178 : decode cX9_init 178 = .ok (.new 13, 3) := by decide +kernel
theorem dX9_init_181 : decode cX9_init 181 = .ok (.dup, 1) := by decide +kernel
theorem dX9_init_182 : decode cX9_init 182 = .ok (.bipush 60, 2) := by decide +kernel
theorem dX9_init_184 : decode cX9_init 184 = .ok (.invokespecial 38, 3) := by decide +kernel
theorem dX9_init_187 : decode cX9_init 187 = .ok (.aastore, 1) := by decide +kernel
theorem dX9_init_188 : decode cX9_init 188 = .ok (.iinc 1 1, 3) := by decide +kernel
theorem dX9_init_191 : decode cX9_init 191 = .ok (.goto (-39), 3) := by decide +kernel
theorem dX9_init_194 : decode cX9_init 194 = .ok (.iconst 0, 1) := by decide +kernel
theorem dX9_init_195 : decode cX9_init 195 = .ok (.istore_n 1, 1) := by decide +kernel
theorem dX9_init_196 : decode cX9_init 196 = .ok (.iload_n 1, 1) := by decide +kernel
theorem dX9_init_197 : decode cX9_init 197 = .ok (.bipush 8, 2) := by decide +kernel
theorem dX9_init_199 : decode cX9_init 199 = .ok (.if_icmp .ge 22, 3) := by decide +kernel
theorem dX9_init_202 : decode cX9_init 202 = .ok (.aload_n 0, 1) := by decide +kernel
theorem dX9_init_203 : decode cX9_init 203 = .ok (.getfield 28, 3) := by decide +kernel
theorem dX9_init_206 : decode cX9_init 206 = .ok (.iload_n 1, 1) := by decide +kernel
theorem dX9_init_207 : decode cX9_init 207 = .ok (.new 26, 3) := by decide +kernel
theorem dX9_init_210 : decode cX9_init 210 = .ok (.dup, 1) := by decide +kernel
theorem dX9_init_211 : decode cX9_init 211 = .ok (.invokespecial 90, 3) := by decide +kernel
theorem dX9_init_214 : decode cX9_init 214 = .ok (.aastore, 1) := by decide +kernel
theorem dX9_init_215 : decode cX9_init 215 = .ok (.iinc 1 1, 3) := by decide +kernel
theorem dX9_init_218 : decode cX9_init 218 = .ok (.goto (-22), 3) := by decide +kernel
theorem dX9_init_221 : decode cX9_init 221 = .ok (.iconst 0, 1) := by decide +kernel
theorem dX9_init_222 : decode cX9_init 222 = .ok (.istore_n 1, 1) := by decide +kernel
theorem dX9_init_223 : decode cX9_init 223 = .ok (.iload_n 1, 1) := by decide +kernel
theorem dX9_init_224 : decode cX9_init 224 = .ok (.bipush 6, 2) := by decide +kernel
theorem dX9_init_226 : decode cX9_init 226 = .ok (.if_icmp .ge 22, 3) := by decide +kernel
theorem dX9_init_229 : decode cX9_init 229 = .ok (.aload_n 0, 1) := by decide +kernel
theorem dX9_init_230 : decode cX9_init 230 = .ok (.getfield 34, 3) := by decide +kernel
theorem dX9_init_233 : decode cX9_init 233 = .ok (.iload_n 1, 1) := by decide +kernel
theorem dX9_init_234 : decode cX9_init 234 = .ok (.new 32, 3) := by decide +kernel
theorem dX9_init_237 : decode cX9_init 237 = .ok (.dup, 1) := by decide +kernel
theorem dX9_init_238 : decode cX9_init 238 = .ok (.invokespecial 91, 3) := by decide +kernel
theorem dX9_init_241 : decode cX9_init 241 = .ok (.aastore, 1) := by decide +kernel
theorem dX9_init_242 : decode cX9_init 242 = .ok (.iinc 1 1, 3) := by decide +kernel
theorem dX9_init_245 : decode cX9_init 245 = .ok (.goto (-22), 3) := by decide +kernel
theorem dX9_init_248 : decode cX9_init 248 = .ok (.return_, 1) := by decide +kernel
set_option maxRecDepth 20000 in
theorem ggX9_type_X9_codeOf : GoodIn wsX9_type wsX9_codeOf := goodIn_ca (goodIn_ca (goodIn_r _ [9, 10, 11, 12] (by decide +kernel) (by decide +kernel)) (goodIn_sub (fun _ h => List.mem_cons_of_mem _ (List.mem_append_left _ (List.mem_append_right _ h))) (by decide +kernel))) (goodIn_sub (fun _ h => List.mem_cons_of_mem _ (List.mem_append_right _ h)) (by decide +kernel))
set_option maxRecDepth 20000 in
theorem gX9_type_X9_codeOf : GoodIn wsX9_type (wsV RX9 92 RX9 yX9_codeOf wsX9_codeOf) := goodIn_app (goodIn_of _ (by decide +kernel)) ggX9_type_X9_codeOf
theorem dX9_type_0 : decode cX9_type 0 = .ok (.aload_n 0, 1) := by decide +kernel
theorem dX9_type_1 : decode cX9_type 1 = .ok (.iload_n 1, 1) := by decide +kernel
theorem dX9_type_2 : decode cX9_type 2 = .ok (.invokevirtual 92, 3) := by decide +kernel
theorem dX9_type_5 : decode cX9_type 5 = .ok (.istore_n 2, 1) := by decide +kernel
theorem dX9_type_6 : decode cX9_type 6 = .ok (.aload_n 0, 1) := by decide +kernel
theorem dX9_type_7 : decode cX9_type 7 = .ok (.getfield 96, 3) := by decide +kernel
theorem dX9_type_10 : decode cX9_type 10 = .ok (.bipush 30, 2) := by decide +kernel
theorem dX9_type_12 : decode cX9_type 12 = .ok (.if_icmp .lt 13, 3) := by decide +kernel
theorem dX9_type_15 : decode cX9_type 15 = .ok (.new 100, 3) := by decide +kernel
theorem dX9_type_18 : decode cX9_type 18 = .ok (.dup, 1) := by decide +kernel
theorem dX9_type_19 : decode cX9_type 19 = .ok (.ldc 102, 2) := by decide +kernel
theorem dX9_type_21 : decode cX9_type 21 = .ok (.invokespecial 104, 3) := by decide +kernel
theorem dX9_type_24 : decode cX9_type 24 = .ok (.athrow, 1) := by decide +kernel
theorem dX9_type_25 : decode cX9_type 25 = .ok (.aload_n 0, 1) := by decide +kernel
theorem dX9_type_26 : decode cX9_type 26 = .ok (.getfield 9, 3) := by decide +kernel
theorem dX9_type_29 : decode cX9_type 29 = .ok (.aload_n 0, 1) := by decide +kernel
theorem dX9_type_30 : decode cX9_type 30 = .ok (.getfield 96, 3) := by decide +kernel
theorem dX9_type_33 : decode cX9_type 33 = .ok (.iload_n 2, 1) := by decide +kernel
theorem dX9_type_34 : decode cX9_type 34 = .ok (.i2b, 1) := by decide +kernel
theorem dX9_type_35 : decode cX9_type 35 = .ok (.bastore, 1) := by decide +kernel
theorem dX9_type_36 : decode cX9_type 36 = .ok (.aload_n 0, 1) := by decide +kernel
theorem dX9_type_37 : decode cX9_type 37 = .ok (.dup, 1) := by decide +kernel
theorem dX9_type_38 : decode cX9_type 38 = .ok (.getfield 96, 3) := by decide +kernel
theorem dX9_type_41 : decode cX9_type 41 = .ok (.iconst 1, 1) := by decide +kernel
theorem dX9_type_42 : decode cX9_type 42 = .ok (.iadd, 1) := by decide +kernel
theorem dX9_type_43 : decode cX9_type 43 = .ok (.putfield 96, 3) := by decide +kernel
theorem dX9_type_46 : decode cX9_type 46 = .ok (.aload_n 0, 1) := by decide +kernel
theorem dX9_type_47 : decode cX9_type 47 = .ok (.getfield 96, 3) := by decide +kernel
theorem dX9_type_50 : decode cX9_type 50 = .ok (.ireturn, 1) := by decide +kernel
theorem dX9_wipe_0 : decode cX9_wipe 0 = .ok (.aload_n 0, 1) := by decide +kernel
theorem dX9_wipe_1 : decode cX9_wipe 1 = .ok (.getfield 96, 3) := by decide +kernel
theorem dX9_wipe_4 : decode cX9_wipe 4 = .ok (.istore_n 1, 1) := by decide +kernel
theorem dX9_wipe_5 : decode cX9_wipe 5 = .ok (.aload_n 0, 1) := by decide +kernel
theorem dX9_wipe_6 : decode cX9_wipe 6 = .ok (.iconst 0, 1) := by decide +kernel
theorem dX9_wipe_7 : decode cX9_wipe 7 = .ok (.putfield 96, 3) := by decide +kernel
theorem dX9_wipe_10 : decode cX9_wipe 10 = .ok (.iload_n 1, 1) := by decide +kernel
theorem dX9_wipe_11 : decode cX9_wipe 11 = .ok (.ireturn, 1) := by decide +kernel
set_option maxRecDepth 20000 in
theorem ggX9_word_X7_clear : GoodIn wsX9_word wsX7_clear := goodIn_r _ [8, 9, 47, 48] (by decide +kernel) (by decide +kernel)
set_option maxRecDepth 20000 in
theorem gX9_word_X7_clear : GoodIn wsX9_word (wsV RX9 107 RX7 yX7_clear wsX7_clear) := goodIn_app (goodIn_of _ (by decide +kernel)) ggX9_word_X7_clear
set_option maxRecDepth 20000 in
theorem ggX9_word_X7_add : GoodIn wsX9_word wsX7_add := goodIn_ca (goodIn_r _ [13, 9, 14, 47, 48] (by decide +kernel) (by decide +kernel)) (goodIn_sub (fun _ h => List.mem_cons_of_mem _ (List.mem_append_left _ (List.mem_append_right _ h))) (by decide +kernel))
set_option maxRecDepth 20000 in
theorem gX9_word_X7_add : GoodIn wsX9_word (wsV RX9 110 RX7 yX7_add wsX7_add) := goodIn_app (goodIn_of _ (by decide +kernel)) ggX9_word_X7_add
set_option maxRecDepth 20000 in
theorem ggX9_word_X9_keep : GoodIn wsX9_word wsX9_keep := goodIn_ca (goodIn_ca (goodIn_r _ [19, 20, 21, 22, 23, 24, 25, 26, 27, 7, 28, 9, 14, 29, 30, 31, 32, 33, 34, 35, 36, 37, 38, 39, 40, 41, 42, 43, 44, 45, 46, 47, 48] (by decide +kernel) (by decide +kernel)) (goodIn_sub (fun _ h => List.mem_cons_of_mem _ (List.mem_append_right _ h)) (by decide +kernel))) (goodIn_sub (fun _ h => List.mem_cons_of_mem _ (List.mem_append_left _ (List.mem_append_right _ h))) (by decide +kernel))
set_option maxRecDepth 20000 in
theorem gX9_word_X9_keep : GoodIn wsX9_word (wsV RX9 113 RX9 yX9_keep wsX9_keep) := goodIn_app (goodIn_of _ (by decide +kernel)) ggX9_word_X9_keep
theorem dX9_word_0 : decode cX9_word 0 = .ok (.aload_n 0, 1) := by decide +kernel
theorem dX9_word_1 : decode cX9_word 1 = .ok (.getfield 41, 3) := by decide +kernel
theorem dX9_word_4 : decode cX9_word 4 = .ok (.invokevirtual 107, 3) := by decide +kernel
theorem dX9_word_7 : decode cX9_word 7 = .ok (.iconst 0, 1) := by decide +kernel
theorem dX9_word_8 : decode cX9_word 8 = .ok (.istore_n 1, 1) := by decide +kernel
theorem dX9_word_9 : decode cX9_word 9 = .ok (.iload_n 1, 1) := by decide +kernel
theorem dX9_word_10 : decode cX9_word 10 = .ok (.aload_n 0, 1) := by decide +kernel
theorem dX9_word_11 : decode cX9_word 11 = .ok (.getfield 96, 3) := by decide +kernel
theorem dX9_word_14 : decode cX9_word 14 = .ok (.if_icmp .ge 22, 3) := by decide +kernel
theorem dX9_word_17 : decode cX9_word 17 = .ok (.aload_n 0, 1) := by decide +kernel
theorem dX9_word_18 : decode cX9_word 18 = .ok (.getfield 41, 3) := by decide +kernel
theorem dX9_word_21 : decode cX9_word 21 = .ok (.aload_n 0, 1) := by decide +kernel
theorem dX9_word_22 : decode cX9_word 22 = .ok (.getfield 9, 3) := by decide +kernel
theorem dX9_word_25 : decode cX9_word 25 = .ok (.iload_n 1, 1) := by decide +kernel
theorem dX9_word_26 : decode cX9_word 26 = .ok (.baload, 1) := by decide +kernel
theorem dX9_word_27 : decode cX9_word 27 = .ok (.invokevirtual 110, 3) := by decide +kernel
theorem dX9_word_30 : decode cX9_word 30 = .ok (.iinc 1 1, 3) := by decide +kernel
theorem dX9_word_33 : decode cX9_word 33 = .ok (.goto (-24), 3) := by decide +kernel
theorem dX9_word_36 : decode cX9_word 36 = .ok (.aload_n 0, 1) := by decide +kernel
theorem dX9_word_37 : decode cX9_word 37 = .ok (.aload_n 0, 1) := by decide +kernel
theorem dX9_word_38 : decode cX9_word 38 = .ok (.getfield 41, 3) := by decide +kernel
theorem dX9_word_41 : decode cX9_word 41 = .ok (.invokevirtual 113, 3) := by decide +kernel
theorem dX9_word_44 : decode cX9_word 44 = .ok (.istore_n 1, 1) := by decide +kernel
theorem dX9_word_45 : decode cX9_word 45 = .ok (.aload_n 0, 1) := by decide +kernel
theorem dX9_word_46 : decode cX9_word 46 = .ok (.iconst 0, 1) := by decide +kernel
theorem dX9_word_47 : decode cX9_word 47 = .ok (.putfield 96, 3) := by decide +kernel
theorem dX9_word_50 : decode cX9_word 50 = .ok (.iload_n 1, 1) := by decide +kernel
theorem dX9_word_51 : decode cX9_word 51 = .ok (.ireturn, 1) := by decide +kernel
set_option maxRecDepth 20000 in
theorem ggX9_length_X9_wordAt : GoodIn wsX9_length wsX9_wordAt := goodIn_ca (goodIn_r _ [6, 7, 8, 9, 10, 13, 14, 15, 16, 17, 18, 19, 20, 21, 22, 23, 24, 25, 26, 27, 28, 29, 30] (by decide +kernel) (by decide +kernel)) (goodIn_sub (fun _ h => List.mem_cons_of_mem _ (List.mem_append_right _ h)) (by decide +kernel))
set_option maxRecDepth 20000 in
theorem gX9_length_X9_wordAt : GoodIn wsX9_length (wsV RX9 117 RX9 yX9_wordAt wsX9_wordAt) := goodIn_app (goodIn_of _ (by decide +kernel)) ggX9_length_X9_wordAt
theorem dX9_length_0 : decode cX9_length 0 = .ok (.aload_n 0, 1) := by decide +kernel
theorem dX9_length_1 : decode cX9_length 1 = .ok (.iload_n 1, 1) := by decide +kernel
theorem dX9_length_2 : decode cX9_length 2 = .ok (.invokevirtual 117, 3) := by decide +kernel
theorem dX9_length_5 : decode cX9_length 5 = .ok (.getfield 121, 3) := by decide +kernel
theorem dX9_length_8 : decode cX9_length 8 = .ok (.ireturn, 1) := by decide +kernel
set_option maxRecDepth 20000 in
theorem ggX9_letter_X9_wordAt : GoodIn wsX9_letter wsX9_wordAt := goodIn_ca (goodIn_r _ [10, 11, 12, 13, 14, 17, 18, 19, 20, 21, 22, 23, 24, 25, 26, 27, 28, 29, 30, 31, 32, 33, 34] (by decide +kernel) (by decide +kernel)) (goodIn_sub (fun _ h => List.mem_cons_of_mem _ (List.mem_append_right _ h)) (by decide +kernel))
set_option maxRecDepth 20000 in
theorem gX9_letter_X9_wordAt : GoodIn wsX9_letter (wsV RX9 117 RX9 yX9_wordAt wsX9_wordAt) := goodIn_app (goodIn_of _ (by decide +kernel)) ggX9_letter_X9_wordAt
theorem dX9_letter_0 : decode cX9_letter 0 = .ok (.aload_n 0, 1) := by decide +kernel
theorem dX9_letter_1 : decode cX9_letter 1 = .ok (.iload_n 1, 1) := by decide +kernel
theorem dX9_letter_2 : decode cX9_letter 2 = .ok (.invokevirtual 117, 3) := by decide +kernel
theorem dX9_letter_5 : decode cX9_letter 5 = .ok (.astore_n 3, 1) := by decide +kernel
theorem dX9_letter_6 : decode cX9_letter 6 = .ok (.iload_n 2, 1) := by decide +kernel
theorem dX9_letter_7 : decode cX9_letter 7 = .ok (.ifCond .lt 11, 3) := by decide +kernel
theorem dX9_letter_10 : decode cX9_letter 10 = .ok (.iload_n 2, 1) := by decide +kernel
theorem dX9_letter_11 : decode cX9_letter 11 = .ok (.aload_n 3, 1) := by decide +kernel
theorem dX9_letter_12 : decode cX9_letter 12 = .ok (.getfield 121, 3) := by decide +kernel
theorem dX9_letter_15 : decode cX9_letter 15 = .ok (.if_icmp .lt 13, 3) := by decide +kernel
theorem dX9_letter_18 : decode cX9_letter 18 = .ok (.new 124, 3) := by decide +kernel
theorem dX9_letter_21 : decode cX9_letter 21 = .ok (.dup, 1) := by decide +kernel
theorem dX9_letter_22 : decode cX9_letter 22 = .ok (.ldc 126, 2) := by decide +kernel
theorem dX9_letter_24 : decode cX9_letter 24 = .ok (.invokespecial 128, 3) := by decide +kernel
theorem dX9_letter_27 : decode cX9_letter 27 = .ok (.athrow, 1) := by decide +kernel
theorem dX9_letter_28 : decode cX9_letter 28 = .ok (.getstatic 129, 3) := by decide +kernel
theorem dX9_letter_31 : decode cX9_letter 31 = .ok (.aload_n 3, 1) := by decide +kernel
theorem dX9_letter_32 : decode cX9_letter 32 = .ok (.getfield 133, 3) := by decide +kernel
theorem dX9_letter_35 : decode cX9_letter 35 = .ok (.iload_n 2, 1) := by decide +kernel
theorem dX9_letter_36 : decode cX9_letter 36 = .ok (.baload, 1) := by decide +kernel
theorem dX9_letter_37 : decode cX9_letter 37 = .ok (.caload, 1) := by decide +kernel
theorem dX9_letter_38 : decode cX9_letter 38 = .ok (.ireturn, 1) := by decide +kernel
set_option maxRecDepth 20000 in
theorem ggX9_compare_X9_wordAt : GoodIn wsX9_compare wsX9_wordAt := goodIn_ca (goodIn_r _ [5, 6, 7, 8, 9, 17, 18, 19, 20, 21, 22, 23, 24, 25, 26, 27, 28, 29, 30, 31, 32, 33, 34] (by decide +kernel) (by decide +kernel)) (goodIn_sub (fun _ h => List.mem_cons_of_mem _ (List.mem_append_left _ (List.mem_append_right _ h))) (by decide +kernel))
set_option maxRecDepth 20000 in
theorem gX9_compare_X9_wordAt : GoodIn wsX9_compare (wsV RX9 117 RX9 yX9_wordAt wsX9_wordAt) := goodIn_app (goodIn_of _ (by decide +kernel)) ggX9_compare_X9_wordAt
set_option maxRecDepth 20000 in
theorem ggX9_compare_X7_orderTo : GoodIn wsX9_compare wsX7_orderTo := goodIn_ca (goodIn_r _ [14, 15, 16, 35, 36] (by decide +kernel) (by decide +kernel)) (goodIn_sub (fun _ h => List.mem_cons_of_mem _ (List.mem_append_right _ h)) (by decide +kernel))
set_option maxRecDepth 20000 in
theorem gX9_compare_X7_orderTo : GoodIn wsX9_compare (wsV RX9 136 RX7 yX7_orderTo wsX7_orderTo) := goodIn_app (goodIn_of _ (by decide +kernel)) ggX9_compare_X7_orderTo
theorem dX9_compare_0 : decode cX9_compare 0 = .ok (.aload_n 0, 1) := by decide +kernel
theorem dX9_compare_1 : decode cX9_compare 1 = .ok (.iload_n 1, 1) := by decide +kernel
theorem dX9_compare_2 : decode cX9_compare 2 = .ok (.invokevirtual 117, 3) := by decide +kernel
theorem dX9_compare_5 : decode cX9_compare 5 = .ok (.aload_n 0, 1) := by decide +kernel
theorem dX9_compare_6 : decode cX9_compare 6 = .ok (.iload_n 2, 1) := by decide +kernel
theorem dX9_compare_7 : decode cX9_compare 7 = .ok (.invokevirtual 117, 3) := by decide +kernel
theorem dX9_compare_10 : decode cX9_compare 10 = .ok (.invokevirtual 136, 3) := by decide +kernel
theorem dX9_compare_13 : decode cX9_compare 13 = .ok (.ireturn, 1) := by decide +kernel
set_option maxRecDepth 20000 in
theorem ggX9_product_X9_wordAt : GoodIn wsX9_product wsX9_wordAt := goodIn_ca (goodIn_r _ [6, 7, 8, 9, 10, 40, 41, 42, 43, 44, 45, 46, 47, 48, 49, 50, 51, 52, 53, 54, 55, 56, 57] (by decide +kernel) (by decide +kernel)) (goodIn_sub (fun _ h => List.mem_cons_of_mem _ (List.mem_append_left _ (List.mem_append_left _ (List.mem_append_right _ h)))) (by decide +kernel))
set_option maxRecDepth 20000 in
theorem gX9_product_X9_wordAt : GoodIn wsX9_product (wsV RX9 117 RX9 yX9_wordAt wsX9_wordAt) := goodIn_app (goodIn_of _ (by decide +kernel)) ggX9_product_X9_wordAt
set_option maxRecDepth 20000 in
theorem ggX9_product_X9_setProduct : GoodIn wsX9_product wsX9_setProduct := goodIn_ca (goodIn_r _ [13, 14, 15, 16, 17, 18, 19, 20, 21, 22, 23, 24, 25, 26, 27, 28, 58, 59] (by decide +kernel) (by decide +kernel)) (goodIn_sub (fun _ h => List.mem_cons_of_mem _ (List.mem_append_left _ (List.mem_append_right _ h))) (by decide +kernel))
set_option maxRecDepth 20000 in
theorem gX9_product_X9_setProduct : GoodIn wsX9_product (va_wsS RX9 139 yX9_setProduct wsX9_setProduct) := goodIn_app (goodIn_of _ (by decide +kernel)) ggX9_product_X9_setProduct
set_option maxRecDepth 20000 in
theorem ggX9_product_X9_keep : GoodIn wsX9_product wsX9_keep := goodIn_ca (goodIn_ca (goodIn_r _ [32, 33, 34, 9, 35, 10, 36, 37, 38, 17, 39, 19, 24, 40, 41, 42, 43, 44, 45, 46, 47, 48, 49, 50, 51, 52, 53, 54, 55, 56, 57, 58, 59] (by decide +kernel) (by decide +kernel)) (goodIn_sub (fun _ h => List.mem_cons_of_mem _ (List.mem_append_right _ h)) (by decide +kernel))) (goodIn_sub (fun _ h => List.mem_cons_of_mem _ (List.mem_append_left _ (List.mem_append_right _ h))) (by decide +kernel))
set_option maxRecDepth 20000 in
theorem gX9_product_X9_keep : GoodIn wsX9_product (wsV RX9 113 RX9 yX9_keep wsX9_keep) := goodIn_app (goodIn_of _ (by decide +kernel)) ggX9_product_X9_keep
theorem dX9_product_0 : decode cX9_product 0 = .ok (.aload_n 0, 1) := by decide +kernel
theorem dX9_product_1 : decode cX9_product 1 = .ok (.getfield 41, 3) := by decide +kernel
theorem dX9_product_4 : decode cX9_product 4 = .ok (.aload_n 0, 1) := by decide +kernel
theorem dX9_product_5 : decode cX9_product 5 = .ok (.iload_n 1, 1) := by decide +kernel
theorem dX9_product_6 : decode cX9_product 6 = .ok (.invokevirtual 117, 3) := by decide +kernel
theorem dX9_product_9 : decode cX9_product 9 = .ok (.aload_n 0, 1) := by decide +kernel
theorem dX9_product_10 : decode cX9_product 10 = .ok (.iload_n 2, 1) := by decide +kernel
theorem dX9_product_11 : decode cX9_product 11 = .ok (.invokevirtual 117, 3) := by decide +kernel
theorem dX9_product_14 : decode cX9_product 14 = .ok (.invokestatic 139, 3) := by decide +kernel
theorem dX9_product_17 : decode cX9_product 17 = .ok (.aload_n 0, 1) := by decide +kernel
theorem dX9_product_18 : decode cX9_product 18 = .ok (.aload_n 0, 1) := by decide +kernel
theorem dX9_product_19 : decode cX9_product 19 = .ok (.getfield 41, 3) := by decide +kernel
theorem dX9_product_22 : decode cX9_product 22 = .ok (.invokevirtual 113, 3) := by decide +kernel
theorem dX9_product_25 : decode cX9_product 25 = .ok (.ireturn, 1) := by decide +kernel
set_option maxRecDepth 20000 in
theorem ggX9_inverse_X9_wordAt : GoodIn wsX9_inverse wsX9_wordAt := goodIn_ca (goodIn_r _ [6, 7, 8, 9, 10, 37, 38, 39, 40, 41, 42, 43, 44, 45, 46, 47, 48, 49, 50, 51, 52, 53, 54] (by decide +kernel) (by decide +kernel)) (goodIn_sub (fun _ h => List.mem_cons_of_mem _ (List.mem_append_left _ (List.mem_append_left _ (List.mem_append_right _ h)))) (by decide +kernel))
set_option maxRecDepth 20000 in
theorem gX9_inverse_X9_wordAt : GoodIn wsX9_inverse (wsV RX9 117 RX9 yX9_wordAt wsX9_wordAt) := goodIn_app (goodIn_of _ (by decide +kernel)) ggX9_inverse_X9_wordAt
set_option maxRecDepth 20000 in
theorem ggX9_inverse_X7_clear : GoodIn wsX9_inverse wsX7_clear := goodIn_r _ [15, 16, 55, 56] (by decide +kernel) (by decide +kernel)
set_option maxRecDepth 20000 in
theorem gX9_inverse_X7_clear : GoodIn wsX9_inverse (wsV RX9 107 RX7 yX7_clear wsX7_clear) := goodIn_app (goodIn_of _ (by decide +kernel)) ggX9_inverse_X7_clear
set_option maxRecDepth 20000 in
theorem ggX9_inverse_X7_addInverse : GoodIn wsX9_inverse wsX7_addInverse := goodIn_ca (goodIn_r _ [20, 16, 21, 22, 23, 24, 14, 25, 55, 56] (by decide +kernel) (by decide +kernel)) (goodIn_sub (fun _ h => List.mem_cons_of_mem _ (List.mem_append_left _ (List.mem_append_right _ h))) (by decide +kernel))
set_option maxRecDepth 20000 in
theorem gX9_inverse_X7_addInverse : GoodIn wsX9_inverse (wsV RX9 143 RX7 yX7_addInverse wsX7_addInverse) := goodIn_app (goodIn_of _ (by decide +kernel)) ggX9_inverse_X7_addInverse
set_option maxRecDepth 20000 in
theorem ggX9_inverse_X9_keep : GoodIn wsX9_inverse wsX9_keep := goodIn_ca (goodIn_ca (goodIn_r _ [29, 30, 31, 9, 32, 10, 33, 34, 35, 14, 36, 16, 21, 37, 38, 39, 40, 41, 42, 43, 44, 45, 46, 47, 48, 49, 50, 51, 52, 53, 54, 55, 56] (by decide +kernel) (by decide +kernel)) (goodIn_sub (fun _ h => List.mem_cons_of_mem _ (List.mem_append_right _ h)) (by decide +kernel))) (goodIn_sub (fun _ h => List.mem_cons_of_mem _ (List.mem_append_left _ (List.mem_append_right _ h))) (by decide +kernel))
set_option maxRecDepth 20000 in
theorem gX9_inverse_X9_keep : GoodIn wsX9_inverse (wsV RX9 113 RX9 yX9_keep wsX9_keep) := goodIn_app (goodIn_of _ (by decide +kernel)) ggX9_inverse_X9_keep
theorem dX9_inverse_0 : decode cX9_inverse 0 = .ok (.aload_n 0, 1) := by decide +kernel
theorem dX9_inverse_1 : decode cX9_inverse 1 = .ok (.iload_n 1, 1) := by decide +kernel
theorem dX9_inverse_2 : decode cX9_inverse 2 = .ok (.invokevirtual 117, 3) := by decide +kernel
theorem dX9_inverse_5 : decode cX9_inverse 5 = .ok (.astore_n 2, 1) := by decide +kernel
theorem dX9_inverse_6 : decode cX9_inverse 6 = .ok (.aload_n 0, 1) := by decide +kernel
theorem dX9_inverse_7 : decode cX9_inverse 7 = .ok (.getfield 41, 3) := by decide +kernel
theorem dX9_inverse_10 : decode cX9_inverse 10 = .ok (.invokevirtual 107, 3) := by decide +kernel
theorem dX9_inverse_13 : decode cX9_inverse 13 = .ok (.aload_n 0, 1) := by decide +kernel
theorem dX9_inverse_14 : decode cX9_inverse 14 = .ok (.getfield 41, 3) := by decide +kernel
theorem dX9_inverse_17 : decode cX9_inverse 17 = .ok (.aload_n 2, 1) := by decide +kernel
theorem dX9_inverse_18 : decode cX9_inverse 18 = .ok (.invokevirtual 143, 3) := by decide +kernel
theorem dX9_inverse_21 : decode cX9_inverse 21 = .ok (.aload_n 0, 1) := by decide +kernel
theorem dX9_inverse_22 : decode cX9_inverse 22 = .ok (.aload_n 0, 1) := by decide +kernel
theorem dX9_inverse_23 : decode cX9_inverse 23 = .ok (.getfield 41, 3) := by decide +kernel
theorem dX9_inverse_26 : decode cX9_inverse 26 = .ok (.invokevirtual 113, 3) := by decide +kernel
theorem dX9_inverse_29 : decode cX9_inverse 29 = .ok (.ireturn, 1) := by decide +kernel
set_option maxRecDepth 20000 in
theorem ggX9_power_X9_wordAt : GoodIn wsX9_power wsX9_wordAt := goodIn_ca (goodIn_r _ [8, 9, 10, 11, 12, 43, 44, 45, 46, 47, 48, 49, 50, 51, 52, 53, 54, 55, 56, 57, 58, 59, 60] (by decide +kernel) (by decide +kernel)) (goodIn_sub (fun _ h => List.mem_cons_of_mem _ (List.mem_append_left _ (List.mem_append_left _ (List.mem_append_right _ h)))) (by decide +kernel))
set_option maxRecDepth 20000 in
theorem gX9_power_X9_wordAt : GoodIn wsX9_power (wsV RX9 117 RX9 yX9_wordAt wsX9_wordAt) := goodIn_app (goodIn_of _ (by decide +kernel)) ggX9_power_X9_wordAt
set_option maxRecDepth 20000 in
theorem ggX9_power_X7_clear : GoodIn wsX9_power wsX7_clear := goodIn_r _ [17, 18, 61, 62] (by decide +kernel) (by decide +kernel)
set_option maxRecDepth 20000 in
theorem gX9_power_X7_clear : GoodIn wsX9_power (wsV RX9 107 RX7 yX7_clear wsX7_clear) := goodIn_app (goodIn_of _ (by decide +kernel)) ggX9_power_X7_clear
set_option maxRecDepth 20000 in
theorem ggX9_power_X7_addRow : GoodIn wsX9_power wsX7_addRow := goodIn_ca (goodIn_r _ [22, 18, 23, 24, 25, 26, 16, 27, 61, 62] (by decide +kernel) (by decide +kernel)) (goodIn_sub (fun _ h => List.mem_cons_of_mem _ (List.mem_append_left _ (List.mem_append_right _ h))) (by decide +kernel))
set_option maxRecDepth 20000 in
theorem gX9_power_X7_addRow : GoodIn wsX9_power (wsV RX9 152 RX7 yX7_addRow wsX7_addRow) := goodIn_app (goodIn_of _ (by decide +kernel)) ggX9_power_X7_addRow
set_option maxRecDepth 20000 in
theorem ggX9_power_X7_addInverse : GoodIn wsX9_power wsX7_addInverse := goodIn_ca (goodIn_r _ [31, 18, 23, 24, 25, 26, 16, 27, 61, 62] (by decide +kernel) (by decide +kernel)) (goodIn_sub (fun _ h => List.mem_cons_of_mem _ (List.mem_append_left _ (List.mem_append_right _ h))) (by decide +kernel))
set_option maxRecDepth 20000 in
theorem gX9_power_X7_addInverse : GoodIn wsX9_power (wsV RX9 143 RX7 yX7_addInverse wsX7_addInverse) := goodIn_app (goodIn_of _ (by decide +kernel)) ggX9_power_X7_addInverse
set_option maxRecDepth 20000 in
theorem ggX9_power_X9_keep : GoodIn wsX9_power wsX9_keep := goodIn_ca (goodIn_ca (goodIn_r _ [35, 36, 37, 11, 38, 12, 39, 40, 41, 16, 42, 18, 23, 43, 44, 45, 46, 47, 48, 49, 50, 51, 52, 53, 54, 55, 56, 57, 58, 59, 60, 61, 62] (by decide +kernel) (by decide +kernel)) (goodIn_sub (fun _ h => List.mem_cons_of_mem _ (List.mem_append_right _ h)) (by decide +kernel))) (goodIn_sub (fun _ h => List.mem_cons_of_mem _ (List.mem_append_left _ (List.mem_append_right _ h))) (by decide +kernel))
set_option maxRecDepth 20000 in
theorem gX9_power_X9_keep : GoodIn wsX9_power (wsV RX9 113 RX9 yX9_keep wsX9_keep) := goodIn_app (goodIn_of _ (by decide +kernel)) ggX9_power_X9_keep
theorem dX9_power_0 : decode cX9_power 0 = .ok (.aload_n 0, 1) := by decide +kernel
theorem dX9_power_1 : decode cX9_power 1 = .ok (.iload_n 1, 1) := by decide +kernel
theorem dX9_power_2 : decode cX9_power 2 = .ok (.invokevirtual 117, 3) := by decide +kernel
theorem dX9_power_5 : decode cX9_power 5 = .ok (.astore_n 3, 1) := by decide +kernel
theorem dX9_power_6 : decode cX9_power 6 = .ok (.iload_n 2, 1) := by decide +kernel
theorem dX9_power_7 : decode cX9_power 7 = .ok (.bipush (-6), 2) := by decide +kernel
theorem dX9_power_9 : decode cX9_power 9 = .ok (.if_icmp .lt 9, 3) := by decide +kernel
theorem dX9_power_12 : decode cX9_power 12 = .ok (.iload_n 2, 1) := by decide +kernel
theorem dX9_power_13 : decode cX9_power 13 = .ok (.bipush 6, 2) := by decide +kernel
theorem dX9_power_15 : decode cX9_power 15 = .ok (.if_icmp .le 13, 3) := by decide +kernel
theorem dX9_power_18 : decode cX9_power 18 = .ok (.new 147, 3) := by decide +kernel
theorem dX9_power_21 : decode cX9_power 21 = .ok (.dup, 1) := by decide +kernel
theorem dX9_power_22 : decode cX9_power 22 = .ok (.ldc 149, 2) := by decide +kernel
theorem dX9_power_24 : decode cX9_power 24 = .ok (.invokespecial 151, 3) := by decide +kernel
theorem dX9_power_27 : decode cX9_power 27 = .ok (.athrow, 1) := by decide +kernel
theorem dX9_power_28 : decode cX9_power 28 = .ok (.aload_n 0, 1) := by decide +kernel
theorem dX9_power_29 : decode cX9_power 29 = .ok (.getfield 41, 3) := by decide +kernel
theorem dX9_power_32 : decode cX9_power 32 = .ok (.invokevirtual 107, 3) := by decide +kernel
theorem dX9_power_35 : decode cX9_power 35 = .ok (.iconst 0, 1) := by decide +kernel
theorem dX9_power_36 : decode cX9_power 36 = .ok (.istore 4, 2) := by decide +kernel
theorem dX9_power_38 : decode cX9_power 38 = .ok (.iload 4, 2) := by decide +kernel
theorem dX9_power_40 : decode cX9_power 40 = .ok (.iload_n 2, 1) := by decide +kernel
theorem dX9_power_41 : decode cX9_power 41 = .ok (.if_icmp .ge 17, 3) := by decide +kernel
theorem dX9_power_44 : decode cX9_power 44 = .ok (.aload_n 0, 1) := by decide +kernel
theorem dX9_power_45 : decode cX9_power 45 = .ok (.getfield 41, 3) := by decide +kernel
theorem dX9_power_48 : decode cX9_power 48 = .ok (.aload_n 3, 1) := by decide +kernel
theorem dX9_power_49 : decode cX9_power 49 = .ok (.invokevirtual 152, 3) := by decide +kernel
theorem dX9_power_52 : decode cX9_power 52 = .ok (.iinc 4 1, 3) := by decide +kernel
theorem dX9_power_55 : decode cX9_power 55 = .ok (.goto (-17), 3) := by decide +kernel
theorem dX9_power_58 : decode cX9_power 58 = .ok (.iconst 0, 1) := by decide +kernel
theorem dX9_power_59 : decode cX9_power 59 = .ok (.istore 4, 2) := by decide +kernel
theorem dX9_power_61 : decode cX9_power 61 = .ok (.iload 4, 2) := by decide +kernel
theorem dX9_power_63 : decode cX9_power 63 = .ok (.iload_n 2, 1) := by decide +kernel
theorem dX9_power_64 : decode cX9_power 64 = .ok (.ineg, 1) := by decide +kernel
theorem dX9_power_65 : decode cX9_power 65 = .ok (.if_icmp .ge 17, 3) := by decide +kernel
theorem dX9_power_68 : decode cX9_power 68 = .ok (.aload_n 0, 1) := by decide +kernel
theorem dX9_power_69 : decode cX9_power 69 = .ok (.getfield 41, 3) := by decide +kernel
theorem dX9_power_72 : decode cX9_power 72 = .ok (.aload_n 3, 1) := by decide +kernel
theorem dX9_power_73 : decode cX9_power 73 = .ok (.invokevirtual 143, 3) := by decide +kernel
theorem dX9_power_76 : decode cX9_power 76 = .ok (.iinc 4 1, 3) := by decide +kernel
theorem dX9_power_79 : decode cX9_power 79 = .ok (.goto (-18), 3) := by decide +kernel
theorem dX9_power_82 : decode cX9_power 82 = .ok (.aload_n 0, 1) := by decide +kernel
theorem dX9_power_83 : decode cX9_power 83 = .ok (.aload_n 0, 1) := by decide +kernel
theorem dX9_power_84 : decode cX9_power 84 = .ok (.getfield 41, 3) := by decide +kernel
theorem dX9_power_87 : decode cX9_power 87 = .ok (.invokevirtual 113, 3) := by decide +kernel
theorem dX9_power_90 : decode cX9_power 90 = .ok (.ireturn, 1) := by decide +kernel
set_option maxRecDepth 20000 in
theorem ggX9_core_X9_wordAt : GoodIn wsX9_core wsX9_wordAt := goodIn_ca (goodIn_r _ [5, 6, 7, 8, 9, 21, 22, 23, 24, 25, 26, 27, 28, 29, 30, 31, 32, 33, 34, 35, 36, 37, 38] (by decide +kernel) (by decide +kernel)) (goodIn_sub (fun _ h => List.mem_cons_of_mem _ (List.mem_append_left _ (List.mem_append_right _ h))) (by decide +kernel))
set_option maxRecDepth 20000 in
theorem gX9_core_X9_wordAt : GoodIn wsX9_core (wsV RX9 117 RX9 yX9_wordAt wsX9_wordAt) := goodIn_app (goodIn_of _ (by decide +kernel)) ggX9_core_X9_wordAt
set_option maxRecDepth 20000 in
theorem ggX9_core_X7_coreSize : GoodIn wsX9_core wsX7_coreSize := goodIn_ca (goodIn_r _ [14, 15, 16, 17, 18, 13, 19, 20, 39, 40] (by decide +kernel) (by decide +kernel)) (goodIn_sub (fun _ h => List.mem_cons_of_mem _ (List.mem_append_right _ h)) (by decide +kernel))
set_option maxRecDepth 20000 in
theorem gX9_core_X7_coreSize : GoodIn wsX9_core (wsV RX9 155 RX7 yX7_coreSize wsX7_coreSize) := goodIn_app (goodIn_of _ (by decide +kernel)) ggX9_core_X7_coreSize
theorem dX9_core_0 : decode cX9_core 0 = .ok (.aload_n 0, 1) := by decide +kernel
theorem dX9_core_1 : decode cX9_core 1 = .ok (.iload_n 1, 1) := by decide +kernel
theorem dX9_core_2 : decode cX9_core 2 = .ok (.invokevirtual 117, 3) := by decide +kernel
theorem dX9_core_5 : decode cX9_core 5 = .ok (.invokevirtual 155, 3) := by decide +kernel
theorem dX9_core_8 : decode cX9_core 8 = .ok (.ireturn, 1) := by decide +kernel
set_option maxRecDepth 20000 in
theorem ggX9_exponent_X9_wordAt : GoodIn wsX9_exponent wsX9_wordAt := goodIn_ca (goodIn_r _ [8, 9, 10, 11, 12, 34, 35, 36, 37, 38, 39, 40, 41, 42, 43, 44, 45, 46, 47, 48, 49, 50, 51] (by decide +kernel) (by decide +kernel)) (goodIn_sub (fun _ h => List.mem_cons_of_mem _ (List.mem_append_left _ (List.mem_append_right _ h))) (by decide +kernel))
set_option maxRecDepth 20000 in
theorem gX9_exponent_X9_wordAt : GoodIn wsX9_exponent (wsV RX9 117 RX9 yX9_wordAt wsX9_wordAt) := goodIn_app (goodIn_of _ (by decide +kernel)) ggX9_exponent_X9_wordAt
set_option maxRecDepth 20000 in
theorem ggX9_exponent_X7_corePeriod : GoodIn wsX9_exponent wsX7_corePeriod := goodIn_ca (goodIn_r _ [17, 18, 19, 20, 21, 16, 22, 23, 24, 25, 26, 27, 32, 33] (by decide +kernel) (by decide +kernel)) (goodIn_sub (fun _ h => List.mem_cons_of_mem _ (List.mem_append_right _ h)) (by decide +kernel))
set_option maxRecDepth 20000 in
theorem gX9_exponent_X7_corePeriod : GoodIn wsX9_exponent (wsV RX9 161 RX7 yX7_corePeriod wsX7_corePeriod) := goodIn_app (goodIn_of _ (by decide +kernel)) ggX9_exponent_X7_corePeriod
set_option maxRecDepth 20000 in
theorem ggX9_exponent_X7_coreSize : GoodIn wsX9_exponent wsX7_coreSize := goodIn_ca (goodIn_r _ [31, 18, 19, 20, 21, 16, 22, 23, 32, 33] (by decide +kernel) (by decide +kernel)) (goodIn_sub (fun _ h => List.mem_cons_of_mem _ (List.mem_append_right _ h)) (by decide +kernel))
set_option maxRecDepth 20000 in
theorem gX9_exponent_X7_coreSize : GoodIn wsX9_exponent (wsV RX9 155 RX7 yX7_coreSize wsX7_coreSize) := goodIn_app (goodIn_of _ (by decide +kernel)) ggX9_exponent_X7_coreSize
theorem dX9_exponent_0 : decode cX9_exponent 0 = .ok (.aload_n 0, 1) := by decide +kernel
theorem dX9_exponent_1 : decode cX9_exponent 1 = .ok (.iload_n 1, 1) := by decide +kernel
theorem dX9_exponent_2 : decode cX9_exponent 2 = .ok (.invokevirtual 117, 3) := by decide +kernel
theorem dX9_exponent_5 : decode cX9_exponent 5 = .ok (.astore_n 2, 1) := by decide +kernel
theorem dX9_exponent_6 : decode cX9_exponent 6 = .ok (.aload_n 2, 1) := by decide +kernel
theorem dX9_exponent_7 : decode cX9_exponent 7 = .ok (.getfield 121, 3) := by decide +kernel
theorem dX9_exponent_10 : decode cX9_exponent 10 = .ok (.ifCond .ne 13, 3) := by decide +kernel
theorem dX9_exponent_13 : decode cX9_exponent 13 = .ok (.new 124, 3) := by decide +kernel
theorem dX9_exponent_16 : decode cX9_exponent 16 = .ok (.dup, 1) := by decide +kernel
theorem dX9_exponent_17 : decode cX9_exponent 17 = .ok (.ldc 159, 2) := by decide +kernel
theorem dX9_exponent_19 : decode cX9_exponent 19 = .ok (.invokespecial 128, 3) := by decide +kernel
theorem dX9_exponent_22 : decode cX9_exponent 22 = .ok (.athrow, 1) := by decide +kernel
theorem dX9_exponent_23 : decode cX9_exponent 23 = .ok (.aload_n 2, 1) := by decide +kernel
theorem dX9_exponent_24 : decode cX9_exponent 24 = .ok (.invokevirtual 161, 3) := by decide +kernel
theorem dX9_exponent_27 : decode cX9_exponent 27 = .ok (.istore_n 3, 1) := by decide +kernel
theorem dX9_exponent_28 : decode cX9_exponent 28 = .ok (.iload_n 3, 1) := by decide +kernel
theorem dX9_exponent_29 : decode cX9_exponent 29 = .ok (.ifCond .le 12, 3) := by decide +kernel
theorem dX9_exponent_32 : decode cX9_exponent 32 = .ok (.aload_n 2, 1) := by decide +kernel
theorem dX9_exponent_33 : decode cX9_exponent 33 = .ok (.invokevirtual 155, 3) := by decide +kernel
theorem dX9_exponent_36 : decode cX9_exponent 36 = .ok (.iload_n 3, 1) := by decide +kernel
theorem dX9_exponent_37 : decode cX9_exponent 37 = .ok (.idiv, 1) := by decide +kernel
theorem dX9_exponent_38 : decode cX9_exponent 38 = .ok (.goto 4, 3) := by decide +kernel
theorem dX9_exponent_41 : decode cX9_exponent 41 = .ok (.iconst 1, 1) := by decide +kernel
theorem dX9_exponent_42 : decode cX9_exponent 42 = .ok (.ireturn, 1) := by decide +kernel
set_option maxRecDepth 20000 in
theorem ggX9_sum_X9_wordAt : GoodIn wsX9_sum wsX9_wordAt := goodIn_ca (goodIn_r _ [5, 6, 7, 8, 9, 24, 25, 26, 27, 28, 29, 30, 31, 32, 33, 34, 35, 36, 37, 38, 39, 40, 41] (by decide +kernel) (by decide +kernel)) (goodIn_sub (fun _ h => List.mem_cons_of_mem _ (List.mem_append_left _ (List.mem_append_left _ (List.mem_append_right _ h)))) (by decide +kernel))
set_option maxRecDepth 20000 in
theorem gX9_sum_X9_wordAt : GoodIn wsX9_sum (wsV RX9 117 RX9 yX9_wordAt wsX9_wordAt) := goodIn_app (goodIn_of _ (by decide +kernel)) ggX9_sum_X9_wordAt
set_option maxRecDepth 20000 in
theorem ggX9_sum_X9_codeOf : GoodIn wsX9_sum wsX9_codeOf := goodIn_ca (goodIn_ca (goodIn_r _ [13, 14, 15, 16] (by decide +kernel) (by decide +kernel)) (goodIn_sub (fun _ h => List.mem_cons_of_mem _ (List.mem_append_left _ (List.mem_append_right _ h))) (by decide +kernel))) (goodIn_sub (fun _ h => List.mem_cons_of_mem _ (List.mem_append_right _ h)) (by decide +kernel))
set_option maxRecDepth 20000 in
theorem gX9_sum_X9_codeOf : GoodIn wsX9_sum (wsV RX9 92 RX9 yX9_codeOf wsX9_codeOf) := goodIn_app (goodIn_of _ (by decide +kernel)) ggX9_sum_X9_codeOf
set_option maxRecDepth 20000 in
theorem ggX9_sum_X7_sumOf : GoodIn wsX9_sum wsX7_sumOf := goodIn_ca (goodIn_r _ [21, 22, 23, 42, 43] (by decide +kernel) (by decide +kernel)) (goodIn_sub (fun _ h => List.mem_cons_of_mem _ (List.mem_append_left _ (List.mem_append_right _ h))) (by decide +kernel))
set_option maxRecDepth 20000 in
theorem gX9_sum_X7_sumOf : GoodIn wsX9_sum (wsV RX9 164 RX7 yX7_sumOf wsX7_sumOf) := goodIn_app (goodIn_of _ (by decide +kernel)) ggX9_sum_X7_sumOf
theorem dX9_sum_0 : decode cX9_sum 0 = .ok (.aload_n 0, 1) := by decide +kernel
theorem dX9_sum_1 : decode cX9_sum 1 = .ok (.iload_n 1, 1) := by decide +kernel
theorem dX9_sum_2 : decode cX9_sum 2 = .ok (.invokevirtual 117, 3) := by decide +kernel
theorem dX9_sum_5 : decode cX9_sum 5 = .ok (.astore_n 3, 1) := by decide +kernel
theorem dX9_sum_6 : decode cX9_sum 6 = .ok (.aload_n 3, 1) := by decide +kernel
theorem dX9_sum_7 : decode cX9_sum 7 = .ok (.aload_n 0, 1) := by decide +kernel
theorem dX9_sum_8 : decode cX9_sum 8 = .ok (.iload_n 2, 1) := by decide +kernel
theorem dX9_sum_9 : decode cX9_sum 9 = .ok (.invokevirtual 92, 3) := by decide +kernel
theorem dX9_sum_12 : decode cX9_sum 12 = .ok (.invokevirtual 164, 3) := by decide +kernel
theorem dX9_sum_15 : decode cX9_sum 15 = .ok (.ireturn, 1) := by decide +kernel
set_option maxRecDepth 20000 in
theorem ggX9_commute_X9_wordAt : GoodIn wsX9_commute wsX9_wordAt := goodIn_ca (goodIn_r _ [7, 8, 9, 10, 11, 34, 35, 36, 37, 38, 39, 40, 41, 42, 43, 44, 45, 46, 47, 48, 49, 50, 51] (by decide +kernel) (by decide +kernel)) (goodIn_sub (fun _ h => List.mem_cons_of_mem _ (List.mem_append_left _ (List.mem_append_right _ h))) (by decide +kernel))
set_option maxRecDepth 20000 in
theorem gX9_commute_X9_wordAt : GoodIn wsX9_commute (wsV RX9 117 RX9 yX9_wordAt wsX9_wordAt) := goodIn_app (goodIn_of _ (by decide +kernel)) ggX9_commute_X9_wordAt
set_option maxRecDepth 20000 in
theorem ggX9_commute_X9_setProduct : GoodIn wsX9_commute wsX9_setProduct := goodIn_ca (goodIn_r _ [14, 15, 16, 17, 18, 19, 20, 21, 22, 23, 24, 25, 26, 27, 28, 29, 52, 53] (by decide +kernel) (by decide +kernel)) (goodIn_sub (fun _ h => List.mem_cons_of_mem _ (List.mem_append_right _ h)) (by decide +kernel))
set_option maxRecDepth 20000 in
theorem gX9_commute_X9_setProduct : GoodIn wsX9_commute (va_wsS RX9 139 yX9_setProduct wsX9_setProduct) := goodIn_app (goodIn_of _ (by decide +kernel)) ggX9_commute_X9_setProduct
set_option maxRecDepth 20000 in
theorem ggX9_commute_X7_orderTo : GoodIn wsX9_commute wsX7_orderTo := goodIn_ca (goodIn_r _ [33, 20, 25, 52, 53] (by decide +kernel) (by decide +kernel)) (goodIn_sub (fun _ h => List.mem_cons_of_mem _ (List.mem_append_right _ h)) (by decide +kernel))
set_option maxRecDepth 20000 in
theorem gX9_commute_X7_orderTo : GoodIn wsX9_commute (wsV RX9 136 RX7 yX7_orderTo wsX7_orderTo) := goodIn_app (goodIn_of _ (by decide +kernel)) ggX9_commute_X7_orderTo
theorem dX9_commute_0 : decode cX9_commute 0 = .ok (.aload_n 0, 1) := by decide +kernel
theorem dX9_commute_1 : decode cX9_commute 1 = .ok (.iload_n 1, 1) := by decide +kernel
theorem dX9_commute_2 : decode cX9_commute 2 = .ok (.invokevirtual 117, 3) := by decide +kernel
theorem dX9_commute_5 : decode cX9_commute 5 = .ok (.astore_n 3, 1) := by decide +kernel
theorem dX9_commute_6 : decode cX9_commute 6 = .ok (.aload_n 0, 1) := by decide +kernel
theorem dX9_commute_7 : decode cX9_commute 7 = .ok (.iload_n 2, 1) := by decide +kernel
theorem dX9_commute_8 : decode cX9_commute 8 = .ok (.invokevirtual 117, 3) := by decide +kernel
theorem dX9_commute_11 : decode cX9_commute 11 = .ok (.astore 4, 2) := by decide +kernel
theorem dX9_commute_13 : decode cX9_commute 13 = .ok (.aload_n 0, 1) := by decide +kernel
theorem dX9_commute_14 : decode cX9_commute 14 = .ok (.getfield 41, 3) := by decide +kernel
theorem dX9_commute_17 : decode cX9_commute 17 = .ok (.aload_n 3, 1) := by decide +kernel
theorem dX9_commute_18 : decode cX9_commute 18 = .ok (.aload 4, 2) := by decide +kernel
theorem dX9_commute_20 : decode cX9_commute 20 = .ok (.invokestatic 139, 3) := by decide +kernel
theorem dX9_commute_23 : decode cX9_commute 23 = .ok (.aload_n 0, 1) := by decide +kernel
theorem dX9_commute_24 : decode cX9_commute 24 = .ok (.getfield 45, 3) := by decide +kernel
theorem dX9_commute_27 : decode cX9_commute 27 = .ok (.aload 4, 2) := by decide +kernel
theorem dX9_commute_29 : decode cX9_commute 29 = .ok (.aload_n 3, 1) := by decide +kernel
theorem dX9_commute_30 : decode cX9_commute 30 = .ok (.invokestatic 139, 3) := by decide +kernel
theorem dX9_commute_33 : decode cX9_commute 33 = .ok (.aload_n 0, 1) := by decide +kernel
theorem dX9_commute_34 : decode cX9_commute 34 = .ok (.getfield 41, 3) := by decide +kernel
theorem dX9_commute_37 : decode cX9_commute 37 = .ok (.aload_n 0, 1) := by decide +kernel
theorem dX9_commute_38 : decode cX9_commute 38 = .ok (.getfield 45, 3) := by decide +kernel
theorem dX9_commute_41 : decode cX9_commute 41 = .ok (.invokevirtual 136, 3) := by decide +kernel
theorem dX9_commute_44 : decode cX9_commute 44 = .ok (.ifCond .ne 7, 3) := by decide +kernel
theorem dX9_commute_47 : decode cX9_commute 47 = .ok (.iconst 1, 1) := by decide +kernel
theorem dX9_commute_48 : decode cX9_commute 48 = .ok (.goto 4, 3) := by decide +kernel
theorem dX9_commute_51 : decode cX9_commute 51 = .ok (.iconst 0, 1) := by decide +kernel
theorem dX9_commute_52 : decode cX9_commute 52 = .ok (.ireturn, 1) := by decide +kernel
set_option maxRecDepth 20000 in
theorem ggX9_conjugator_X9_wordAt : GoodIn wsX9_conjugator wsX9_wordAt := goodIn_ca (goodIn_r _ [9, 10, 11, 12, 13, 77, 78, 79, 80, 81, 82, 83, 84, 85, 86, 87, 88, 89, 90, 91, 92, 93, 94] (by decide +kernel) (by decide +kernel)) (goodIn_sub (fun _ h => List.mem_cons_of_mem _ (List.mem_append_left _ (List.mem_append_left _ (List.mem_append_right _ h)))) (by decide +kernel))
set_option maxRecDepth 20000 in
theorem gX9_conjugator_X9_wordAt : GoodIn wsX9_conjugator (wsV RX9 117 RX9 yX9_wordAt wsX9_wordAt) := goodIn_app (goodIn_of _ (by decide +kernel)) ggX9_conjugator_X9_wordAt
set_option maxRecDepth 20000 in
theorem ggX9_conjugator_X7_turnOfCore : GoodIn wsX9_conjugator wsX7_turnOfCore := goodIn_ca (goodIn_r _ [18, 19, 20, 21, 17, 22, 23, 24, 25, 26, 27, 28, 29, 30, 31, 32, 95, 96] (by decide +kernel) (by decide +kernel)) (goodIn_sub (fun _ h => List.mem_cons_of_mem _ (List.mem_append_left _ (List.mem_append_right _ h))) (by decide +kernel))
set_option maxRecDepth 20000 in
theorem gX9_conjugator_X7_turnOfCore : GoodIn wsX9_conjugator (wsV RX9 168 RX7 yX7_turnOfCore wsX7_turnOfCore) := goodIn_app (goodIn_of _ (by decide +kernel)) ggX9_conjugator_X7_turnOfCore
set_option maxRecDepth 20000 in
theorem ggX9_conjugator_X9_setConjugator : GoodIn wsX9_conjugator wsX9_setConjugator := goodIn_ca (goodIn_r _ [36, 37, 25, 26, 17, 27, 23, 28, 38, 39, 40, 41, 42, 43, 44, 45, 46, 47, 48, 49, 50, 51, 52, 53, 24, 54, 55, 56, 57, 58, 59, 60, 61, 95, 96] (by decide +kernel) (by decide +kernel)) (goodIn_sub (fun _ h => List.mem_cons_of_mem _ (List.mem_append_left _ (List.mem_append_right _ h))) (by decide +kernel))
set_option maxRecDepth 20000 in
theorem gX9_conjugator_X9_setConjugator : GoodIn wsX9_conjugator (wsV RX9 173 RX9 yX9_setConjugator wsX9_setConjugator) := goodIn_app (goodIn_of _ (by decide +kernel)) ggX9_conjugator_X9_setConjugator
set_option maxRecDepth 20000 in
theorem ggX9_conjugator_X7_orderTo : GoodIn wsX9_conjugator wsX7_orderTo := goodIn_ca (goodIn_r _ [65, 23, 28, 95, 96] (by decide +kernel) (by decide +kernel)) (goodIn_sub (fun _ h => List.mem_cons_of_mem _ (List.mem_append_left _ (List.mem_append_right _ h))) (by decide +kernel))
set_option maxRecDepth 20000 in
theorem gX9_conjugator_X7_orderTo : GoodIn wsX9_conjugator (wsV RX9 136 RX7 yX7_orderTo wsX7_orderTo) := goodIn_app (goodIn_of _ (by decide +kernel)) ggX9_conjugator_X7_orderTo
set_option maxRecDepth 20000 in
theorem ggX9_conjugator_X9_keep : GoodIn wsX9_conjugator wsX9_keep := goodIn_ca (goodIn_ca (goodIn_r _ [69, 70, 71, 12, 72, 13, 73, 74, 75, 17, 76, 23, 28, 77, 78, 79, 80, 81, 82, 83, 84, 85, 86, 87, 88, 89, 90, 91, 92, 93, 94, 95, 96] (by decide +kernel) (by decide +kernel)) (goodIn_sub (fun _ h => List.mem_cons_of_mem _ (List.mem_append_right _ h)) (by decide +kernel))) (goodIn_sub (fun _ h => List.mem_cons_of_mem _ (List.mem_append_left _ (List.mem_append_right _ h))) (by decide +kernel))
set_option maxRecDepth 20000 in
theorem gX9_conjugator_X9_keep : GoodIn wsX9_conjugator (wsV RX9 113 RX9 yX9_keep wsX9_keep) := goodIn_app (goodIn_of _ (by decide +kernel)) ggX9_conjugator_X9_keep
theorem dX9_conjugator_0 : decode cX9_conjugator 0 = .ok (.aload_n 0, 1) := by decide +kernel
theorem dX9_conjugator_1 : decode cX9_conjugator 1 = .ok (.iload_n 1, 1) := by decide +kernel
theorem dX9_conjugator_2 : decode cX9_conjugator 2 = .ok (.invokevirtual 117, 3) := by decide +kernel
theorem dX9_conjugator_5 : decode cX9_conjugator 5 = .ok (.astore_n 3, 1) := by decide +kernel
theorem dX9_conjugator_6 : decode cX9_conjugator 6 = .ok (.aload_n 0, 1) := by decide +kernel
theorem dX9_conjugator_7 : decode cX9_conjugator 7 = .ok (.iload_n 2, 1) := by decide +kernel
theorem dX9_conjugator_8 : decode cX9_conjugator 8 = .ok (.invokevirtual 117, 3) := by decide +kernel
theorem dX9_conjugator_11 : decode cX9_conjugator 11 = .ok (.astore 4, 2) := by decide +kernel
theorem dX9_conjugator_13 : decode cX9_conjugator 13 = .ok (.aload 4, 2) := by decide +kernel
theorem dX9_conjugator_15 : decode cX9_conjugator 15 = .ok (.aload_n 3, 1) := by decide +kernel
theorem dX9_conjugator_16 : decode cX9_conjugator 16 = .ok (.invokevirtual 168, 3) := by decide +kernel
theorem dX9_conjugator_19 : decode cX9_conjugator 19 = .ok (.istore 5, 2) := by decide +kernel
theorem dX9_conjugator_21 : decode cX9_conjugator 21 = .ok (.iload 5, 2) := by decide +kernel
theorem dX9_conjugator_23 : decode cX9_conjugator 23 = .ok (.iconst (-1), 1) := by decide +kernel
theorem dX9_conjugator_24 : decode cX9_conjugator 24 = .ok (.if_icmp .ne 13, 3) := by decide +kernel
theorem dX9_conjugator_27 : decode cX9_conjugator 27 = .ok (.new 124, 3) := by decide +kernel
theorem dX9_conjugator_30 : decode cX9_conjugator 30 = .ok (.dup, 1) := by decide +kernel
theorem dX9_conjugator_31 : decode cX9_conjugator 31 = .ok (.ldc 171, 2) := by decide +kernel
theorem dX9_conjugator_33 : decode cX9_conjugator 33 = .ok (.invokespecial 128, 3) := by decide +kernel
theorem dX9_conjugator_36 : decode cX9_conjugator 36 = .ok (.athrow, 1) := by decide +kernel
theorem dX9_conjugator_37 : decode cX9_conjugator 37 = .ok (.aload_n 0, 1) := by decide +kernel
theorem dX9_conjugator_38 : decode cX9_conjugator 38 = .ok (.aload_n 0, 1) := by decide +kernel
theorem dX9_conjugator_39 : decode cX9_conjugator 39 = .ok (.getfield 41, 3) := by decide +kernel
theorem dX9_conjugator_42 : decode cX9_conjugator 42 = .ok (.aload_n 3, 1) := by decide +kernel
theorem dX9_conjugator_43 : decode cX9_conjugator 43 = .ok (.aload 4, 2) := by decide +kernel
theorem dX9_conjugator_45 : decode cX9_conjugator 45 = .ok (.iload 5, 2) := by decide +kernel
theorem dX9_conjugator_47 : decode cX9_conjugator 47 = .ok (.iconst 0, 1) := by decide +kernel
theorem dX9_conjugator_48 : decode cX9_conjugator 48 = .ok (.invokevirtual 173, 3) := by decide +kernel
theorem dX9_conjugator_51 : decode cX9_conjugator 51 = .ok (.aload_n 0, 1) := by decide +kernel
theorem dX9_conjugator_52 : decode cX9_conjugator 52 = .ok (.aload_n 0, 1) := by decide +kernel
theorem dX9_conjugator_53 : decode cX9_conjugator 53 = .ok (.getfield 45, 3) := by decide +kernel
theorem dX9_conjugator_56 : decode cX9_conjugator 56 = .ok (.aload_n 3, 1) := by decide +kernel
theorem dX9_conjugator_57 : decode cX9_conjugator 57 = .ok (.aload 4, 2) := by decide +kernel
theorem dX9_conjugator_59 : decode cX9_conjugator 59 = .ok (.iload 5, 2) := by decide +kernel
theorem dX9_conjugator_61 : decode cX9_conjugator 61 = .ok (.iconst 1, 1) := by decide +kernel
theorem dX9_conjugator_62 : decode cX9_conjugator 62 = .ok (.invokevirtual 173, 3) := by decide +kernel
theorem dX9_conjugator_65 : decode cX9_conjugator 65 = .ok (.aload_n 0, 1) := by decide +kernel
theorem dX9_conjugator_66 : decode cX9_conjugator 66 = .ok (.aload_n 0, 1) := by decide +kernel
theorem dX9_conjugator_67 : decode cX9_conjugator 67 = .ok (.getfield 45, 3) := by decide +kernel
theorem dX9_conjugator_70 : decode cX9_conjugator 70 = .ok (.aload_n 0, 1) := by decide +kernel
theorem dX9_conjugator_71 : decode cX9_conjugator 71 = .ok (.getfield 41, 3) := by decide +kernel
theorem dX9_conjugator_74 : decode cX9_conjugator 74 = .ok (.invokevirtual 136, 3) := by decide +kernel
theorem dX9_conjugator_77 : decode cX9_conjugator 77 = .ok (.ifCond .ge 10, 3) := by decide +kernel
theorem dX9_conjugator_80 : decode cX9_conjugator 80 = .ok (.aload_n 0, 1) := by decide +kernel
theorem dX9_conjugator_81 : decode cX9_conjugator 81 = .ok (.getfield 45, 3) := by decide +kernel
theorem dX9_conjugator_84 : decode cX9_conjugator 84 = .ok (.goto 7, 3) := by decide +kernel
theorem dX9_conjugator_87 : decode cX9_conjugator 87 = .ok (.aload_n 0, 1) := by decide +kernel
theorem dX9_conjugator_88 : decode cX9_conjugator 88 = .ok (.getfield 41, 3) := by decide +kernel
theorem dX9_conjugator_91 : decode cX9_conjugator 91 = .ok (.invokevirtual 113, 3) := by decide +kernel
theorem dX9_conjugator_94 : decode cX9_conjugator 94 = .ok (.ireturn, 1) := by decide +kernel
set_option maxRecDepth 20000 in
theorem ggX9_setConjugator_X7_coreStart : GoodIn wsX9_setConjugator wsX7_coreStart := goodIn_ca (goodIn_r _ [5, 6, 7, 33, 34] (by decide +kernel) (by decide +kernel)) (goodIn_sub (fun _ h => List.mem_cons_of_mem _ (List.mem_append_right _ h)) (by decide +kernel))
set_option maxRecDepth 20000 in
theorem gX9_setConjugator_X7_coreStart : GoodIn wsX9_setConjugator (wsV RX9 177 RX7 yX7_coreStart wsX7_coreStart) := goodIn_app (goodIn_of _ (by decide +kernel)) ggX9_setConjugator_X7_coreStart
set_option maxRecDepth 20000 in
theorem ggX9_setConjugator_X7_clear : GoodIn wsX9_setConjugator wsX7_clear := goodIn_r _ [11, 6, 33, 34] (by decide +kernel) (by decide +kernel)
set_option maxRecDepth 20000 in
theorem gX9_setConjugator_X7_clear : GoodIn wsX9_setConjugator (wsV RX9 107 RX7 yX7_clear wsX7_clear) := goodIn_app (goodIn_of _ (by decide +kernel)) ggX9_setConjugator_X7_clear
set_option maxRecDepth 20000 in
theorem ggX9_setConjugator_X7_addPart : GoodIn wsX9_setConjugator wsX7_addPart := goodIn_ca (goodIn_r _ [15, 6, 7, 16, 17, 18, 4, 19, 33, 34] (by decide +kernel) (by decide +kernel)) (goodIn_sub (fun _ h => List.mem_cons_of_mem _ (List.mem_append_right _ h)) (by decide +kernel))
set_option maxRecDepth 20000 in
theorem gX9_setConjugator_X7_addPart : GoodIn wsX9_setConjugator (wsV RX9 180 RX7 yX7_addPart wsX7_addPart) := goodIn_app (goodIn_of _ (by decide +kernel)) ggX9_setConjugator_X7_addPart
set_option maxRecDepth 20000 in
theorem ggX9_setConjugator_X7_corePeriod : GoodIn wsX9_setConjugator wsX7_corePeriod := goodIn_ca (goodIn_r _ [23, 6, 24, 2, 3, 4, 5, 7, 25, 26, 27, 28, 33, 34] (by decide +kernel) (by decide +kernel)) (goodIn_sub (fun _ h => List.mem_cons_of_mem _ (List.mem_append_right _ h)) (by decide +kernel))
set_option maxRecDepth 20000 in
theorem gX9_setConjugator_X7_corePeriod : GoodIn wsX9_setConjugator (wsV RX9 161 RX7 yX7_corePeriod wsX7_corePeriod) := goodIn_app (goodIn_of _ (by decide +kernel)) ggX9_setConjugator_X7_corePeriod
set_option maxRecDepth 20000 in
theorem ggX9_setConjugator_X7_addPartInverse : GoodIn wsX9_setConjugator wsX7_addPartInverse := goodIn_ca (goodIn_r _ [32, 6, 7, 16, 17, 18, 4, 19, 33, 34] (by decide +kernel) (by decide +kernel)) (goodIn_sub (fun _ h => List.mem_cons_of_mem _ (List.mem_append_right _ h)) (by decide +kernel))
set_option maxRecDepth 20000 in
theorem gX9_setConjugator_X7_addPartInverse : GoodIn wsX9_setConjugator (wsV RX9 184 RX7 yX7_addPartInverse wsX7_addPartInverse) := goodIn_app (goodIn_of _ (by decide +kernel)) ggX9_setConjugator_X7_addPartInverse
theorem dX9_setConjugator_0 : decode cX9_setConjugator 0 = .ok (.aload_n 2, 1) := by decide +kernel
theorem dX9_setConjugator_1 : decode cX9_setConjugator 1 = .ok (.invokevirtual 177, 3) := by decide +kernel
theorem dX9_setConjugator_4 : decode cX9_setConjugator 4 = .ok (.istore 6, 2) := by decide +kernel
theorem dX9_setConjugator_6 : decode cX9_setConjugator 6 = .ok (.aload_n 1, 1) := by decide +kernel
theorem dX9_setConjugator_7 : decode cX9_setConjugator 7 = .ok (.invokevirtual 107, 3) := by decide +kernel
theorem dX9_setConjugator_10 : decode cX9_setConjugator 10 = .ok (.aload_n 1, 1) := by decide +kernel
theorem dX9_setConjugator_11 : decode cX9_setConjugator 11 = .ok (.aload_n 3, 1) := by decide +kernel
theorem dX9_setConjugator_12 : decode cX9_setConjugator 12 = .ok (.iconst 0, 1) := by decide +kernel
theorem dX9_setConjugator_13 : decode cX9_setConjugator 13 = .ok (.aload_n 3, 1) := by decide +kernel
theorem dX9_setConjugator_14 : decode cX9_setConjugator 14 = .ok (.invokevirtual 177, 3) := by decide +kernel
theorem dX9_setConjugator_17 : decode cX9_setConjugator 17 = .ok (.invokevirtual 180, 3) := by decide +kernel
theorem dX9_setConjugator_20 : decode cX9_setConjugator 20 = .ok (.iload 5, 2) := by decide +kernel
theorem dX9_setConjugator_22 : decode cX9_setConjugator 22 = .ok (.ifCond .eq 23, 3) := by decide +kernel
theorem dX9_setConjugator_25 : decode cX9_setConjugator 25 = .ok (.aload_n 1, 1) := by decide +kernel
theorem dX9_setConjugator_26 : decode cX9_setConjugator 26 = .ok (.aload_n 2, 1) := by decide +kernel
theorem dX9_setConjugator_27 : decode cX9_setConjugator 27 = .ok (.iload 6, 2) := by decide +kernel
theorem dX9_setConjugator_29 : decode cX9_setConjugator 29 = .ok (.iload 4, 2) := by decide +kernel
theorem dX9_setConjugator_31 : decode cX9_setConjugator 31 = .ok (.iadd, 1) := by decide +kernel
theorem dX9_setConjugator_32 : decode cX9_setConjugator 32 = .ok (.iload 6, 2) := by decide +kernel
theorem dX9_setConjugator_34 : decode cX9_setConjugator 34 = .ok (.aload_n 2, 1) := by decide +kernel
theorem dX9_setConjugator_35 : decode cX9_setConjugator 35 = .ok (.invokevirtual 161, 3) := by decide +kernel
theorem dX9_setConjugator_38 : decode cX9_setConjugator 38 = .ok (.iadd, 1) := by decide +kernel
theorem dX9_setConjugator_39 : decode cX9_setConjugator 39 = .ok (.invokevirtual 180, 3) := by decide +kernel
theorem dX9_setConjugator_42 : decode cX9_setConjugator 42 = .ok (.goto 15, 3) := by decide +kernel
theorem dX9_setConjugator_45 : decode cX9_setConjugator 45 = .ok (.aload_n 1, 1) := by decide +kernel
theorem dX9_setConjugator_46 : decode cX9_setConjugator 46 = .ok (.aload_n 2, 1) := by decide +kernel
theorem dX9_setConjugator_47 : decode cX9_setConjugator 47 = .ok (.iload 6, 2) := by decide +kernel
theorem dX9_setConjugator_49 : decode cX9_setConjugator 49 = .ok (.iload 6, 2) := by decide +kernel
theorem dX9_setConjugator_51 : decode cX9_setConjugator 51 = .ok (.iload 4, 2) := by decide +kernel
theorem dX9_setConjugator_53 : decode cX9_setConjugator 53 = .ok (.iadd, 1) := by decide +kernel
theorem dX9_setConjugator_54 : decode cX9_setConjugator 54 = .ok (.invokevirtual 184, 3) := by decide +kernel
theorem dX9_setConjugator_57 : decode cX9_setConjugator 57 = .ok (.aload_n 1, 1) := by decide +kernel
theorem dX9_setConjugator_58 : decode cX9_setConjugator 58 = .ok (.aload_n 2, 1) := by decide +kernel
theorem dX9_setConjugator_59 : decode cX9_setConjugator 59 = .ok (.iconst 0, 1) := by decide +kernel
theorem dX9_setConjugator_60 : decode cX9_setConjugator 60 = .ok (.iload 6, 2) := by decide +kernel
theorem dX9_setConjugator_62 : decode cX9_setConjugator 62 = .ok (.invokevirtual 184, 3) := by decide +kernel
theorem dX9_setConjugator_65 : decode cX9_setConjugator 65 = .ok (.return_, 1) := by decide +kernel
set_option maxRecDepth 20000 in
theorem ggX9_isSound_X7_isCancelled : GoodIn wsX9_isSound wsX7_isCancelled := goodIn_ca (goodIn_r _ [12, 13, 14, 68, 69] (by decide +kernel) (by decide +kernel)) (goodIn_sub (fun _ h => List.mem_cons_of_mem _ (List.mem_append_right _ h)) (by decide +kernel))
set_option maxRecDepth 20000 in
theorem gX9_isSound_X7_isCancelled : GoodIn wsX9_isSound (wsV RX9 381 RX7 yX7_isCancelled wsX7_isCancelled) := goodIn_app (goodIn_of _ (by decide +kernel)) ggX9_isSound_X7_isCancelled
set_option maxRecDepth 20000 in
theorem ggX9_isSound_X2_isConsistent : GoodIn wsX9_isSound wsX2_isConsistent := goodIn_ca (goodIn_r _ [19, 20, 21, 22, 23, 24, 25, 26, 27, 28, 29, 30, 31, 32, 33, 34, 35, 36, 37, 38, 39, 40, 41, 42, 43, 44, 45, 70, 71, 72, 73, 74, 75, 76, 77, 78, 79, 68, 69] (by decide +kernel) (by decide +kernel)) (goodIn_sub (fun _ h => List.mem_cons_of_mem _ (List.mem_append_right _ h)) (by decide +kernel))
set_option maxRecDepth 20000 in
theorem gX9_isSound_X2_isConsistent : GoodIn wsX9_isSound (wsV RX9 384 RX2 yX2_isConsistent wsX2_isConsistent) := goodIn_app (goodIn_of _ (by decide +kernel)) ggX9_isSound_X2_isConsistent
theorem dX9_isSound_0 : decode cX9_isSound 0 = .ok (.iconst 1, 1) := by decide +kernel
theorem dX9_isSound_1 : decode cX9_isSound 1 = .ok (.istore_n 1, 1) := by decide +kernel
theorem dX9_isSound_2 : decode cX9_isSound 2 = .ok (.iconst 0, 1) := by decide +kernel
theorem dX9_isSound_3 : decode cX9_isSound 3 = .ok (.istore_n 2, 1) := by decide +kernel
theorem dX9_isSound_4 : decode cX9_isSound 4 = .ok (.iload_n 2, 1) := by decide +kernel
theorem dX9_isSound_5 : decode cX9_isSound 5 = .ok (.aload_n 0, 1) := by decide +kernel
theorem dX9_isSound_6 : decode cX9_isSound 6 = .ok (.getfield 368, 3) := by decide +kernel
theorem dX9_isSound_9 : decode cX9_isSound 9 = .ok (.if_icmp .ge 31, 3) := by decide +kernel
theorem dX9_isSound_12 : decode cX9_isSound 12 = .ok (.iload_n 1, 1) := by decide +kernel
theorem dX9_isSound_13 : decode cX9_isSound 13 = .ok (.ifCond .eq 19, 3) := by decide +kernel
theorem dX9_isSound_16 : decode cX9_isSound 16 = .ok (.aload_n 0, 1) := by decide +kernel
theorem dX9_isSound_17 : decode cX9_isSound 17 = .ok (.getfield 15, 3) := by decide +kernel
theorem dX9_isSound_20 : decode cX9_isSound 20 = .ok (.iload_n 2, 1) := by decide +kernel
theorem dX9_isSound_21 : decode cX9_isSound 21 = .ok (.aaload, 1) := by decide +kernel
theorem dX9_isSound_22 : decode cX9_isSound 22 = .ok (.invokevirtual 381, 3) := by decide +kernel
theorem dX9_isSound_25 : decode cX9_isSound 25 = .ok (.ifCond .eq 7, 3) := by decide +kernel
theorem dX9_isSound_28 : decode cX9_isSound 28 = .ok (.iconst 1, 1) := by decide +kernel
theorem dX9_isSound_29 : decode cX9_isSound 29 = .ok (.goto 4, 3) := by decide +kernel
theorem dX9_isSound_32 : decode cX9_isSound 32 = .ok (.iconst 0, 1) := by decide +kernel
theorem dX9_isSound_33 : decode cX9_isSound 33 = .ok (.istore_n 1, 1) := by decide +kernel
theorem dX9_isSound_34 : decode cX9_isSound 34 = .ok (.iinc 2 1, 3) := by decide +kernel
theorem dX9_isSound_37 : decode cX9_isSound 37 = .ok (.goto (-33), 3) := by decide +kernel
theorem dX9_isSound_40 : decode cX9_isSound 40 = .ok (.iconst 0, 1) := by decide +kernel
theorem dX9_isSound_41 : decode cX9_isSound 41 = .ok (.istore_n 2, 1) := by decide +kernel
theorem dX9_isSound_42 : decode cX9_isSound 42 = .ok (.iload_n 2, 1) := by decide +kernel
theorem dX9_isSound_43 : decode cX9_isSound 43 = .ok (.aload_n 0, 1) := by decide +kernel
theorem dX9_isSound_44 : decode cX9_isSound 44 = .ok (.getfield 373, 3) := by decide +kernel
theorem dX9_isSound_47 : decode cX9_isSound 47 = .ok (.if_icmp .ge 31, 3) := by decide +kernel
theorem dX9_isSound_50 : decode cX9_isSound 50 = .ok (.iload_n 1, 1) := by decide +kernel
theorem dX9_isSound_51 : decode cX9_isSound 51 = .ok (.ifCond .eq 19, 3) := by decide +kernel
theorem dX9_isSound_54 : decode cX9_isSound 54 = .ok (.aload_n 0, 1) := by decide +kernel
theorem dX9_isSound_55 : decode cX9_isSound 55 = .ok (.getfield 28, 3) := by decide +kernel
theorem dX9_isSound_58 : decode cX9_isSound 58 = .ok (.iload_n 2, 1) := by decide +kernel
theorem dX9_isSound_59 : decode cX9_isSound 59 = .ok (.aaload, 1) := by decide +kernel
theorem dX9_isSound_60 : decode cX9_isSound 60 = .ok (.invokevirtual 384, 3) := by decide +kernel
theorem dX9_isSound_63 : decode cX9_isSound 63 = .ok (.ifCond .eq 7, 3) := by decide +kernel
theorem dX9_isSound_66 : decode cX9_isSound 66 = .ok (.iconst 1, 1) := by decide +kernel
theorem dX9_isSound_67 : decode cX9_isSound 67 = .ok (.goto 4, 3) := by decide +kernel
theorem dX9_isSound_70 : decode cX9_isSound 70 = .ok (.iconst 0, 1) := by decide +kernel
theorem dX9_isSound_71 : decode cX9_isSound 71 = .ok (.istore_n 1, 1) := by decide +kernel
theorem dX9_isSound_72 : decode cX9_isSound 72 = .ok (.iinc 2 1, 3) := by decide +kernel
theorem dX9_isSound_75 : decode cX9_isSound 75 = .ok (.goto (-33), 3) := by decide +kernel
theorem dX9_isSound_78 : decode cX9_isSound 78 = .ok (.iconst 0, 1) := by decide +kernel
theorem dX9_isSound_79 : decode cX9_isSound 79 = .ok (.istore_n 2, 1) := by decide +kernel
theorem dX9_isSound_80 : decode cX9_isSound 80 = .ok (.iload_n 2, 1) := by decide +kernel
theorem dX9_isSound_81 : decode cX9_isSound 81 = .ok (.aload_n 0, 1) := by decide +kernel
theorem dX9_isSound_82 : decode cX9_isSound 82 = .ok (.getfield 314, 3) := by decide +kernel
theorem dX9_isSound_85 : decode cX9_isSound 85 = .ok (.if_icmp .ge 49, 3) := by decide +kernel
theorem dX9_isSound_88 : decode cX9_isSound 88 = .ok (.iconst 0, 1) := by decide +kernel
theorem dX9_isSound_89 : decode cX9_isSound 89 = .ok (.istore_n 3, 1) := by decide +kernel
theorem dX9_isSound_90 : decode cX9_isSound 90 = .ok (.iload_n 3, 1) := by decide +kernel
theorem dX9_isSound_91 : decode cX9_isSound 91 = .ok (.iconst 3, 1) := by decide +kernel
theorem dX9_isSound_92 : decode cX9_isSound 92 = .ok (.if_icmp .ge 36, 3) := by decide +kernel
theorem dX9_isSound_95 : decode cX9_isSound 95 = .ok (.iload_n 1, 1) := by decide +kernel
theorem dX9_isSound_96 : decode cX9_isSound 96 = .ok (.ifCond .eq 24, 3) := by decide +kernel
theorem dX9_isSound_99 : decode cX9_isSound 99 = .ok (.aload_n 0, 1) := by decide +kernel
theorem dX9_isSound_100 : decode cX9_isSound 100 = .ok (.getfield 34, 3) := by decide +kernel
theorem dX9_isSound_103 : decode cX9_isSound 103 = .ok (.iload_n 2, 1) := by decide +kernel
theorem dX9_isSound_104 : decode cX9_isSound 104 = .ok (.aaload, 1) := by decide +kernel
theorem dX9_isSound_105 : decode cX9_isSound 105 = .ok (.getfield 326, 3) := by decide +kernel
theorem dX9_isSound_108 : decode cX9_isSound 108 = .ok (.iload_n 3, 1) := by decide +kernel
theorem dX9_isSound_109 : decode cX9_isSound 109 = .ok (.aaload, 1) := by decide +kernel
theorem dX9_isSound_110 : decode cX9_isSound 110 = .ok (.invokevirtual 381, 3) := by decide +kernel
theorem dX9_isSound_113 : decode cX9_isSound 113 = .ok (.ifCond .eq 7, 3) := by decide +kernel
theorem dX9_isSound_116 : decode cX9_isSound 116 = .ok (.iconst 1, 1) := by decide +kernel
theorem dX9_isSound_117 : decode cX9_isSound 117 = .ok (.goto 4, 3) := by decide +kernel
theorem dX9_isSound_120 : decode cX9_isSound 120 = .ok (.iconst 0, 1) := by decide +kernel
theorem dX9_isSound_121 : decode cX9_isSound 121 = .ok (.istore_n 1, 1) := by decide +kernel
theorem dX9_isSound_122 : decode cX9_isSound 122 = .ok (.iinc 3 1, 3) := by decide +kernel
theorem dX9_isSound_125 : decode cX9_isSound 125 = .ok (.goto (-35), 3) := by decide +kernel
theorem dX9_isSound_128 : decode cX9_isSound 128 = .ok (.iinc 2 1, 3) := by decide +kernel
theorem dX9_isSound_131 : decode cX9_isSound 131 = .ok (.goto (-51), 3) := by decide +kernel
theorem dX9_isSound_134 : decode cX9_isSound 134 = .ok (.iload_n 1, 1) := by decide +kernel
theorem dX9_isSound_135 : decode cX9_isSound 135 = .ok (.ireturn, 1) := by decide +kernel
theorem dX9_codeOf_0 : decode cX9_codeOf 0 = .ok (.iconst 0, 1) := by decide +kernel
theorem dX9_codeOf_1 : decode cX9_codeOf 1 = .ok (.istore_n 2, 1) := by decide +kernel
theorem dX9_codeOf_2 : decode cX9_codeOf 2 = .ok (.iload_n 2, 1) := by decide +kernel
theorem dX9_codeOf_3 : decode cX9_codeOf 3 = .ok (.bipush 6, 2) := by decide +kernel
theorem dX9_codeOf_5 : decode cX9_codeOf 5 = .ok (.if_icmp .ge 20, 3) := by decide +kernel
theorem dX9_codeOf_8 : decode cX9_codeOf 8 = .ok (.getstatic 129, 3) := by decide +kernel
theorem dX9_codeOf_11 : decode cX9_codeOf 11 = .ok (.iload_n 2, 1) := by decide +kernel
theorem dX9_codeOf_12 : decode cX9_codeOf 12 = .ok (.caload, 1) := by decide +kernel
theorem dX9_codeOf_13 : decode cX9_codeOf 13 = .ok (.iload_n 1, 1) := by decide +kernel
theorem dX9_codeOf_14 : decode cX9_codeOf 14 = .ok (.if_icmp .ne 5, 3) := by decide +kernel
theorem dX9_codeOf_17 : decode cX9_codeOf 17 = .ok (.iload_n 2, 1) := by decide +kernel
theorem dX9_codeOf_18 : decode cX9_codeOf 18 = .ok (.ireturn, 1) := by decide +kernel
theorem dX9_codeOf_19 : decode cX9_codeOf 19 = .ok (.iinc 2 1, 3) := by decide +kernel
theorem dX9_codeOf_22 : decode cX9_codeOf 22 = .ok (.goto (-20), 3) := by decide +kernel
theorem dX9_codeOf_25 : decode cX9_codeOf 25 = .ok (.new 147, 3) := by decide +kernel
theorem dX9_codeOf_28 : decode cX9_codeOf 28 = .ok (.dup, 1) := by decide +kernel
theorem dX9_codeOf_29 : decode cX9_codeOf 29 = .ok (.ldc 126, 2) := by decide +kernel
theorem dX9_codeOf_31 : decode cX9_codeOf 31 = .ok (.invokespecial 151, 3) := by decide +kernel
theorem dX9_codeOf_34 : decode cX9_codeOf 34 = .ok (.athrow, 1) := by decide +kernel
theorem dX9_wordAt_0 : decode cX9_wordAt 0 = .ok (.iload_n 1, 1) := by decide +kernel
theorem dX9_wordAt_1 : decode cX9_wordAt 1 = .ok (.ifCond .lt 11, 3) := by decide +kernel
theorem dX9_wordAt_4 : decode cX9_wordAt 4 = .ok (.iload_n 1, 1) := by decide +kernel
theorem dX9_wordAt_5 : decode cX9_wordAt 5 = .ok (.aload_n 0, 1) := by decide +kernel
theorem dX9_wordAt_6 : decode cX9_wordAt 6 = .ok (.getfield 368, 3) := by decide +kernel
theorem dX9_wordAt_9 : decode cX9_wordAt 9 = .ok (.if_icmp .lt 14, 3) := by decide +kernel
theorem dX9_wordAt_12 : decode cX9_wordAt 12 = .ok (.new 387, 3) := by decide +kernel
theorem dX9_wordAt_15 : decode cX9_wordAt 15 = .ok (.dup, 1) := by decide +kernel
theorem dX9_wordAt_16 : decode cX9_wordAt 16 = .ok (.ldc_w 389, 3) := by decide +kernel
theorem dX9_wordAt_19 : decode cX9_wordAt 19 = .ok (.invokespecial 391, 3) := by decide +kernel
theorem dX9_wordAt_22 : decode cX9_wordAt 22 = .ok (.athrow, 1) := by decide +kernel
theorem dX9_wordAt_23 : decode cX9_wordAt 23 = .ok (.aload_n 0, 1) := by decide +kernel
theorem dX9_wordAt_24 : decode cX9_wordAt 24 = .ok (.getfield 15, 3) := by decide +kernel
theorem dX9_wordAt_27 : decode cX9_wordAt 27 = .ok (.iload_n 1, 1) := by decide +kernel
theorem dX9_wordAt_28 : decode cX9_wordAt 28 = .ok (.aaload, 1) := by decide +kernel
theorem dX9_wordAt_29 : decode cX9_wordAt 29 = .ok (.areturn, 1) := by decide +kernel
set_option maxRecDepth 20000 in
theorem ggX9_keep_X7_set : GoodIn wsX9_keep wsX7_set := goodIn_ca (goodIn_r _ [10, 11, 12, 31, 32] (by decide +kernel) (by decide +kernel)) (goodIn_sub (fun _ h => List.mem_cons_of_mem _ (List.mem_append_right _ h)) (by decide +kernel))
set_option maxRecDepth 20000 in
theorem gX9_keep_X7_set : GoodIn wsX9_keep (wsV RX9 329 RX7 yX7_set wsX7_set) := goodIn_app (goodIn_of _ (by decide +kernel)) ggX9_keep_X7_set
theorem dX9_keep_0 : decode cX9_keep 0 = .ok (.aload_n 0, 1) := by decide +kernel
theorem dX9_keep_1 : decode cX9_keep 1 = .ok (.getfield 368, 3) := by decide +kernel
theorem dX9_keep_4 : decode cX9_keep 4 = .ok (.bipush 24, 2) := by decide +kernel
theorem dX9_keep_6 : decode cX9_keep 6 = .ok (.if_icmp .lt 14, 3) := by decide +kernel
theorem dX9_keep_9 : decode cX9_keep 9 = .ok (.new 100, 3) := by decide +kernel
theorem dX9_keep_12 : decode cX9_keep 12 = .ok (.dup, 1) := by decide +kernel
theorem dX9_keep_13 : decode cX9_keep 13 = .ok (.ldc_w 396, 3) := by decide +kernel
theorem dX9_keep_16 : decode cX9_keep 16 = .ok (.invokespecial 104, 3) := by decide +kernel
theorem dX9_keep_19 : decode cX9_keep 19 = .ok (.athrow, 1) := by decide +kernel
theorem dX9_keep_20 : decode cX9_keep 20 = .ok (.aload_n 1, 1) := by decide +kernel
theorem dX9_keep_21 : decode cX9_keep 21 = .ok (.getfield 121, 3) := by decide +kernel
theorem dX9_keep_24 : decode cX9_keep 24 = .ok (.bipush 60, 2) := by decide +kernel
theorem dX9_keep_26 : decode cX9_keep 26 = .ok (.if_icmp .le 14, 3) := by decide +kernel
theorem dX9_keep_29 : decode cX9_keep 29 = .ok (.new 100, 3) := by decide +kernel
theorem dX9_keep_32 : decode cX9_keep 32 = .ok (.dup, 1) := by decide +kernel
theorem dX9_keep_33 : decode cX9_keep 33 = .ok (.ldc_w 398, 3) := by decide +kernel
theorem dX9_keep_36 : decode cX9_keep 36 = .ok (.invokespecial 104, 3) := by decide +kernel
theorem dX9_keep_39 : decode cX9_keep 39 = .ok (.athrow, 1) := by decide +kernel
theorem dX9_keep_40 : decode cX9_keep 40 = .ok (.aload_n 0, 1) := by decide +kernel
theorem dX9_keep_41 : decode cX9_keep 41 = .ok (.getfield 15, 3) := by decide +kernel
theorem dX9_keep_44 : decode cX9_keep 44 = .ok (.aload_n 0, 1) := by decide +kernel
theorem dX9_keep_45 : decode cX9_keep 45 = .ok (.getfield 368, 3) := by decide +kernel
theorem dX9_keep_48 : decode cX9_keep 48 = .ok (.aaload, 1) := by decide +kernel
theorem dX9_keep_49 : decode cX9_keep 49 = .ok (.aload_n 1, 1) := by decide +kernel
theorem dX9_keep_50 : decode cX9_keep 50 = .ok (.invokevirtual 329, 3) := by decide +kernel
theorem dX9_keep_53 : decode cX9_keep 53 = .ok (.aload_n 0, 1) := by decide +kernel
theorem dX9_keep_54 : decode cX9_keep 54 = .ok (.dup, 1) := by decide +kernel
theorem dX9_keep_55 : decode cX9_keep 55 = .ok (.getfield 368, 3) := by decide +kernel
theorem dX9_keep_58 : decode cX9_keep 58 = .ok (.iconst 1, 1) := by decide +kernel
theorem dX9_keep_59 : decode cX9_keep 59 = .ok (.iadd, 1) := by decide +kernel
theorem dX9_keep_60 : decode cX9_keep 60 = .ok (.putfield 368, 3) := by decide +kernel
theorem dX9_keep_63 : decode cX9_keep 63 = .ok (.aload_n 0, 1) := by decide +kernel
theorem dX9_keep_64 : decode cX9_keep 64 = .ok (.getfield 368, 3) := by decide +kernel
theorem dX9_keep_67 : decode cX9_keep 67 = .ok (.iconst 1, 1) := by decide +kernel
theorem dX9_keep_68 : decode cX9_keep 68 = .ok (.isub, 1) := by decide +kernel
theorem dX9_keep_69 : decode cX9_keep 69 = .ok (.ireturn, 1) := by decide +kernel
set_option maxRecDepth 20000 in
theorem ggX9_setProduct_X7_clear : GoodIn wsX9_setProduct wsX7_clear := goodIn_r _ [5, 6, 16, 17] (by decide +kernel) (by decide +kernel)
set_option maxRecDepth 20000 in
theorem gX9_setProduct_X7_clear : GoodIn wsX9_setProduct (wsV RX9 107 RX7 yX7_clear wsX7_clear) := goodIn_app (goodIn_of _ (by decide +kernel)) ggX9_setProduct_X7_clear
set_option maxRecDepth 20000 in
theorem ggX9_setProduct_X7_addRow : GoodIn wsX9_setProduct wsX7_addRow := goodIn_ca (goodIn_r _ [10, 6, 11, 12, 13, 14, 4, 15, 16, 17] (by decide +kernel) (by decide +kernel)) (goodIn_sub (fun _ h => List.mem_cons_of_mem _ (List.mem_append_right _ h)) (by decide +kernel))
set_option maxRecDepth 20000 in
theorem gX9_setProduct_X7_addRow : GoodIn wsX9_setProduct (wsV RX9 152 RX7 yX7_addRow wsX7_addRow) := goodIn_app (goodIn_of _ (by decide +kernel)) ggX9_setProduct_X7_addRow
theorem dX9_setProduct_0 : decode cX9_setProduct 0 = .ok (.aload_n 0, 1) := by decide +kernel
theorem dX9_setProduct_1 : decode cX9_setProduct 1 = .ok (.invokevirtual 107, 3) := by decide +kernel
theorem dX9_setProduct_4 : decode cX9_setProduct 4 = .ok (.aload_n 0, 1) := by decide +kernel
theorem dX9_setProduct_5 : decode cX9_setProduct 5 = .ok (.aload_n 1, 1) := by decide +kernel
theorem dX9_setProduct_6 : decode cX9_setProduct 6 = .ok (.invokevirtual 152, 3) := by decide +kernel
theorem dX9_setProduct_9 : decode cX9_setProduct 9 = .ok (.aload_n 0, 1) := by decide +kernel
theorem dX9_setProduct_10 : decode cX9_setProduct 10 = .ok (.aload_n 2, 1) := by decide +kernel
theorem dX9_setProduct_11 : decode cX9_setProduct 11 = .ok (.invokevirtual 152, 3) := by decide +kernel
theorem dX9_setProduct_14 : decode cX9_setProduct 14 = .ok (.return_, 1) := by decide +kernel
