set_option maxRecDepth 20000 in
theorem ggX11_init_X11_forget : GoodIn wsX11_init wsX11_forget := goodIn_r _ [31, 32, 33, 34, 35, 36, 37, 38, 7, 8, 11, 12, 39, 40, 41, 42, 43, 44, 45, 46, 47, 48, 49, 50, 51, 52, 53, 54, 55, 56, 57, 58, 59, 60, 61, 62, 63, 64, 65, 66, 67, 68, 69, 70, 71, 72, 73] rfl (by decide +kernel)
set_option maxRecDepth 20000 in
theorem gX11_init_X11_forget : GoodIn wsX11_init (wsV RX11 72 RX11 yX11_forget wsX11_forget) := goodIn_app (goodIn_of _ (by decide +kernel)) ggX11_init_X11_forget
theorem dX11_init_0 : decode cX11_init 0 = .ok (.aload_n 0, 1) := by decide +kernel
theorem dX11_init_1 : decode cX11_init 1 = .ok (.invokespecial 1, 3) := by decide +kernel
theorem dX11_init_4 : decode cX11_init 4 = .ok (.aload_n 0, 1) := by decide +kernel
theorem dX11_init_5 : decode cX11_init 5 = .ok (.bipush 14, 2) := by decide +kernel
theorem dX11_init_7 : decode cX11_init 7 = .ok (.newarray .int, 2) := by decide +kernel
theorem dX11_init_9 : decode cX11_init 9 = .ok (.dup, 1) := by decide +kernel
theorem dX11_init_10 : decode cX11_init 10 = .ok (.iconst 0, 1) := by decide +kernel
theorem dX11_init_11 : decode cX11_init 11 = .ok (.bipush 100, 2) := by decide +kernel
theorem dX11_init_13 : decode cX11_init 13 = .ok (.iastore, 1) := by decide +kernel
theorem dX11_init_14 : decode cX11_init 14 = .ok (.dup, 1) := by decide +kernel
theorem dX11_init_15 : decode cX11_init 15 = .ok (.iconst 1, 1) := by decide +kernel
theorem dX11_init_16 : decode cX11_init 16 = .ok (.bipush 50, 2) := by decide +kernel
theorem dX11_init_18 : decode cX11_init 18 = .ok (.iastore, 1) := by decide +kernel
theorem dX11_init_19 : decode cX11_init 19 = .ok (.dup, 1) := by decide +kernel
theorem dX11_init_20 : decode cX11_init 20 = .ok (.iconst 2, 1) := by decide +kernel
theorem dX11_init_21 : decode cX11_init 21 = .ok (.sipush 500, 3) := by decide +kernel
theorem dX11_init_24 : decode cX11_init 24 = .ok (.iastore, 1) := by decide +kernel
theorem dX11_init_25 : decode cX11_init 25 = .ok (.dup, 1) := by decide +kernel
theorem dX11_init_26 : decode cX11_init 26 = .ok (.iconst 3, 1) := by decide +kernel
theorem dX11_init_27 : decode cX11_init 27 = .ok (.bipush 100, 2) := by decide +kernel
theorem dX11_init_29 : decode cX11_init 29 = .ok (.iastore, 1) := by decide +kernel
theorem dX11_init_30 : decode cX11_init 30 = .ok (.dup, 1) := by decide +kernel
theorem dX11_init_31 : decode cX11_init 31 = .ok (.iconst 4, 1) := by decide +kernel
theorem dX11_init_32 : decode cX11_init 32 = .ok (.sipush 200, 3) := by decide +kernel
theorem dX11_init_35 : decode cX11_init 35 = .ok (.iastore, 1) := by decide +kernel
theorem dX11_init_36 : decode cX11_init 36 = .ok (.dup, 1) := by decide +kernel
theorem dX11_init_37 : decode cX11_init 37 = .ok (.iconst 5, 1) := by decide +kernel
theorem dX11_init_38 : decode cX11_init 38 = .ok (.sipush 250, 3) := by decide +kernel
theorem dX11_init_41 : decode cX11_init 41 = .ok (.iastore, 1) := by decide +kernel
theorem dX11_init_42 : decode cX11_init 42 = .ok (.dup, 1) := by decide +kernel
theorem dX11_init_43 : decode cX11_init 43 = .ok (.bipush 6, 2) := by decide +kernel
theorem dX11_init_45 : decode cX11_init 45 = .ok (.sipush 800, 3) := by decide +kernel
theorem dX11_init_48 : decode cX11_init 48 = .ok (.iastore, 1) := by decide +kernel
theorem dX11_init_49 : decode cX11_init 49 = .ok (.dup, 1) := by decide +kernel
theorem dX11_init_50 : decode cX11_init 50 = .ok (.bipush 7, 2) := by decide +kernel
theorem dX11_init_52 : decode cX11_init 52 = .ok (.bipush 10, 2) := by decide +kernel
theorem dX11_init_54 : decode cX11_init 54 = .ok (.iastore, 1) := by decide +kernel
theorem dX11_init_55 : decode cX11_init 55 = .ok (.dup, 1) := by decide +kernel
theorem dX11_init_56 : decode cX11_init 56 = .ok (.bipush 8, 2) := by decide +kernel
theorem dX11_init_58 : decode cX11_init 58 = .ok (.iconst 1, 1) := by decide +kernel
theorem dX11_init_59 : decode cX11_init 59 = .ok (.iastore, 1) := by decide +kernel
theorem dX11_init_60 : decode cX11_init 60 = .ok (.dup, 1) := by decide +kernel
theorem dX11_init_61 : decode cX11_init 61 = .ok (.bipush 9, 2) := by decide +kernel
theorem dX11_init_63 : decode cX11_init 63 = .ok (.sipush 150, 3) := by decide +kernel
theorem dX11_init_66 : decode cX11_init 66 = .ok (.iastore, 1) := by decide +kernel
theorem dX11_init_67 : decode cX11_init 67 = .ok (.dup, 1) := by decide +kernel
theorem dX11_init_68 : decode cX11_init 68 = .ok (.bipush 10, 2) := by decide +kernel
theorem dX11_init_70 : decode cX11_init 70 = .ok (.sipush 900, 3) := by decide +kernel
theorem dX11_init_73 : decode cX11_init 73 = .ok (.iastore, 1) := by decide +kernel
theorem dX11_init_74 : decode cX11_init 74 = .ok (.dup, 1) := by decide +kernel
theorem dX11_init_75 : decode cX11_init 75 = .ok (.bipush 11, 2) := by decide +kernel
theorem dX11_init_77 : decode cX11_init 77 = .ok (.iconst 0, 1) := by decide +kernel
theorem dX11_init_78 : decode cX11_init 78 = .ok (.iastore, 1) := by decide +kernel
theorem dX11_init_79 : decode cX11_init 79 = .ok (.dup, 1) := by decide +kernel
theorem dX11_init_80 : decode cX11_init 80 = .ok (.bipush 12, 2) := by decide +kernel
theorem dX11_init_82 : decode cX11_init 82 = .ok (.bipush 100, 2) := by decide +kernel
theorem dX11_init_84 : decode cX11_init 84 = .ok (.iastore, 1) := by decide +kernel
theorem dX11_init_85 : decode cX11_init 85 = .ok (.dup, 1) := by decide +kernel
theorem dX11_init_86 : decode cX11_init 86 = .ok (.bipush 13, 2) := by decide +kernel
theorem dX11_init_88 : decode cX11_init 88 = .ok (.iconst 0, 1) := by decide +kernel
theorem dX11_init_89 : decode cX11_init 89 = .ok (.iastore, 1) := by decide +kernel
theorem dX11_init_90 : decode cX11_init 90 = .ok (.putfield 7, 3) := by decide +kernel
theorem dX11_init_93 : decode cX11_init 93 = .ok (.aload_n 0, 1) := by decide +kernel
theorem dX11_init_94 : decode cX11_init 94 = .ok (.bipush 30, 2) := by decide +kernel
theorem dX11_init_96 : decode cX11_init 96 = .ok (.newarray .int, 2) := by decide +kernel
theorem dX11_init_98 : decode cX11_init 98 = .ok (.putfield 13, 3) := by decide +kernel
theorem dX11_init_101 : decode cX11_init 101 = .ok (.aload_n 0, 1) := by decide +kernel
theorem dX11_init_102 : decode cX11_init 102 = .ok (.sipush 240, 3) := by decide +kernel
theorem dX11_init_105 : decode cX11_init 105 = .ok (.newarray .int, 2) := by decide +kernel
theorem dX11_init_107 : decode cX11_init 107 = .ok (.putfield 16, 3) := by decide +kernel
theorem dX11_init_110 : decode cX11_init 110 = .ok (.aload_n 0, 1) := by decide +kernel
theorem dX11_init_111 : decode cX11_init 111 = .ok (.bipush 24, 2) := by decide +kernel
theorem dX11_init_113 : decode cX11_init 113 = .ok (.newarray .int, 2) := by decide +kernel
theorem dX11_init_115 : decode cX11_init 115 = .ok (.putfield 19, 3) := by decide +kernel
theorem dX11_init_118 : decode cX11_init 118 = .ok (.aload_n 0, 1) := by decide +kernel
theorem dX11_init_119 : decode cX11_init 119 = .ok (.bipush 32, 2) := by decide +kernel
theorem dX11_init_121 : decode cX11_init 121 = .ok (.newarray .int, 2) := by decide +kernel
theorem dX11_init_123 : decode cX11_init 123 = .ok (.putfield 22, 3) := by decide +kernel
theorem dX11_init_126 : decode cX11_init 126 = .ok (.aload_n 0, 1) := by decide +kernel
theorem dX11_init_127 : decode cX11_init 127 = .ok (.bipush 30, 2) := by decide +kernel
theorem dX11_init_129 : decode cX11_init 129 = .ok (.newarray .int, 2) := by decide +kernel
theorem dX11_init_131 : decode cX11_init 131 = .ok (.putfield 25, 3) := by decide +kernel
theorem dX11_init_134 : decode cX11_init 134 = .ok (.aload_n 0, 1) := by decide +kernel
theorem dX11_init_135 : decode cX11_init 135 = .ok (.bipush 24, 2) := by decide +kernel
theorem dX11_init_137 : decode cX11_init 137 = .ok (.newarray .int, 2) := by decide +kernel
theorem dX11_init_139 : decode cX11_init 139 = .ok (.putfield 28, 3) := by decide +kernel
theorem dX11_init_142 : decode cX11_init 142 = .ok (.aload_n 0, 1) := by decide +kernel
theorem dX11_init_143 : decode cX11_init 143 = .ok (.bipush 24, 2) := by decide +kernel
theorem dX11_init_145 : decode cX11_init 145 = .ok (.newarray .int, 2) := by decide +kernel
theorem dX11_init_147 : decode cX11_init 147 = .ok (.putfield 31, 3) := by decide +kernel
theorem dX11_init_150 : decode cX11_init 150 = .ok (.aload_n 0, 1) := by decide +kernel
theorem dX11_init_151 : decode cX11_init 151 = .ok (.bipush 120, 2) := by decide +kernel
theorem dX11_init_153 : decode cX11_init 153 = .ok (.newarray .byte, 2) := by decide +kernel
theorem dX11_init_155 : decode cX11_init 155 = .ok (.putfield 34, 3) := by decide +kernel
theorem dX11_init_158 : decode cX11_init 158 = .ok (.aload_n 0, 1) := by decide +kernel
theorem dX11_init_159 : decode cX11_init 159 = .ok (.bipush 32, 2) := by decide +kernel
theorem dX11_init_161 : decode cX11_init 161 = .ok (.newarray .long, 2) := by decide +kernel
theorem dX11_init_163 : decode cX11_init 163 = .ok (.putfield 38, 3) := by decide +kernel
theorem dX11_init_166 : decode cX11_init 166 = .ok (.aload_n 0, 1) := by decide +kernel
theorem dX11_init_167 : decode cX11_init 167 = .ok (.bipush 30, 2) := by decide +kernel
theorem dX11_init_169 : decode cX11_init 169 = .ok (.newarray .int, 2) := by decide +kernel
theorem dX11_init_171 : decode cX11_init 171 = .ok (.putfield 42, 3) := by decide +kernel
theorem dX11_init_174 : decode cX11_init 174 = .ok (.aload_n 0, 1) := by decide +kernel
theorem dX11_init_175 : decode cX11_init 175 = .ok (.bipush 24, 2) := by decide +kernel
theorem dX11_init_177 : decode cX11_init 177 = .ok (.newarray .long, 2) := by decide +kernel
theorem dX11_init_179 : decode cX11_init 179 = .ok (.putfield 45, 3) := by decide +kernel
theorem dX11_init_182 : decode cX11_init 182 = .ok (.aload_n 0, 1) := by decide +kernel
theorem dX11_init_183 : decode cX11_init 183 = .ok (.bipush 24, 2) := by decide +kernel
theorem dX11_init_185 : decode cX11_init 185 = .ok (.newarray .long, 2) := by decide +kernel
theorem dX11_init_187 : decode cX11_init 187 = .ok (.putfield 48, 3) := by decide +kernel
theorem dX11_init_190 : decode cX11_init 190 = .ok (.aload_n 0, 1) := by decide +kernel
theorem dX11_init_191 : decode cX11_init 191 = .ok (.bipush 24, 2) := by decide +kernel
theorem dX11_init_193 : decode cX11_init 193 = .ok (.newarray .long, 2) := by decide +kernel
theorem dX11_init_195 : decode cX11_init 195 = .ok (.putfield 51, 3) := by decide +kernel
theorem dX11_init_198 : decode cX11_init 198 = .ok (.aload_n 0, 1) := by decide +kernel
theorem dX11_init_199 : decode cX11_init 199 = .ok (.bipush 24, 2) := by decide +kernel
theorem dX11_init_201 : decode cX11_init 201 = .ok (.newarray .long, 2) := by decide +kernel
theorem dX11_init_203 : decode cX11_init 203 = .ok (.putfield 54, 3) := by decide +kernel
theorem dX11_init_206 : decode cX11_init 206 = .ok (.aload_n 0, 1) := by decide +kernel
theorem dX11_init_207 : decode cX11_init 207 = .ok (.bipush 24, 2) := by decide +kernel
theorem dX11_init_209 : decode cX11_init 209 = .ok (.newarray .long, 2) := by decide +kernel
theorem dX11_init_211 : decode cX11_init 211 = .ok (.putfield 57, 3) := by decide +kernel
theorem dX11_init_214 : decode cX11_init 214 = .ok (.aload_n 0, 1) := by decide +kernel
theorem dX11_init_215 : decode cX11_init 215 = .ok (.bipush 24, 2) := by decide +kernel
theorem dX11_init_217 : decode cX11_init 217 = .ok (.newarray .long, 2) := by decide +kernel
theorem dX11_init_219 : decode cX11_init 219 = .ok (.putfield 60, 3) := by decide +kernel
theorem dX11_init_222 : decode cX11_init 222 = .ok (.aload_n 0, 1) := by decide +kernel
theorem dX11_init_223 : decode cX11_init 223 = .ok (.bipush 24, 2) := by decide +kernel
theorem dX11_init_225 : decode cX11_init 225 = .ok (.newarray .long, 2) := by decide +kernel
theorem dX11_init_227 : decode cX11_init 227 = .ok (.putfield 63, 3) := by decide +kernel
theorem dX11_init_230 : decode cX11_init 230 = .ok (.aload_n 0, 1) := by decide +kernel
theorem dX11_init_231 : decode cX11_init 231 = .ok (.bipush 24, 2) := by decide +kernel
theorem dX11_init_233 : decode cX11_init 233 = .ok (.newarray .int, 2) := by decide +kernel
theorem dX11_init_235 : decode cX11_init 235 = .ok (.putfield 66, 3) := by decide +kernel
theorem dX11_init_238 : decode cX11_init 238 = .ok (.aload_n 0, 1) := by decide +kernel
theorem dX11_init_239 : decode cX11_init 239 = .ok (.bipush 24, 2) := by decide +kernel
theorem dX11_init_241 : decode cX11_init 241 = .ok (.newarray .long, 2) := by decide +kernel
theorem dX11_init_243 : decode cX11_init 243 = .ok (.putfield 69, 3) := by decide +kernel
theorem dX11_init_246 : decode cX11_init 246 = .ok (.aload_n 0, 1) := by decide +kernel
theorem dX11_init_247 : decode cX11_init 247 = .ok (.invokevirtual 72, 3) := by decide +kernel
theorem dX11_init_250 : decode cX11_init 250 = .ok (.return_, 1) := by decide +kernel
theorem dX11_forget_0 : decode cX11_forget 0 = .ok (.aload_n 0, 1) := by decide +kernel
theorem dX11_forget_1 : decode cX11_forget 1 = .ok (.iconst 0, 1) := by decide +kernel
theorem dX11_forget_2 : decode cX11_forget 2 = .ok (.putfield 75, 3) := by decide +kernel
theorem dX11_forget_5 : decode cX11_forget 5 = .ok (.aload_n 0, 1) := by decide +kernel
theorem dX11_forget_6 : decode cX11_forget 6 = .ok (.iconst 0, 1) := by decide +kernel
theorem dX11_forget_7 : decode cX11_forget 7 = .ok (.putfield 79, 3) := by decide +kernel
theorem dX11_forget_10 : decode cX11_forget 10 = .ok (.aload_n 0, 1) := by decide +kernel
theorem dX11_forget_11 : decode cX11_forget 11 = .ok (.iconst 0, 1) := by decide +kernel
theorem dX11_forget_12 : decode cX11_forget 12 = .ok (.putfield 82, 3) := by decide +kernel
theorem dX11_forget_15 : decode cX11_forget 15 = .ok (.aload_n 0, 1) := by decide +kernel
theorem dX11_forget_16 : decode cX11_forget 16 = .ok (.bipush 24, 2) := by decide +kernel
theorem dX11_forget_18 : decode cX11_forget 18 = .ok (.putfield 85, 3) := by decide +kernel
theorem dX11_forget_21 : decode cX11_forget 21 = .ok (.aload_n 0, 1) := by decide +kernel
theorem dX11_forget_22 : decode cX11_forget 22 = .ok (.bipush 24, 2) := by decide +kernel
theorem dX11_forget_24 : decode cX11_forget 24 = .ok (.putfield 88, 3) := by decide +kernel
theorem dX11_forget_27 : decode cX11_forget 27 = .ok (.aload_n 0, 1) := by decide +kernel
theorem dX11_forget_28 : decode cX11_forget 28 = .ok (.bipush 24, 2) := by decide +kernel
theorem dX11_forget_30 : decode cX11_forget 30 = .ok (.putfield 91, 3) := by decide +kernel
theorem dX11_forget_33 : decode cX11_forget 33 = .ok (.aload_n 0, 1) := by decide +kernel
theorem dX11_forget_34 : decode cX11_forget 34 = .ok (.iconst 0, 1) := by decide +kernel
theorem dX11_forget_35 : decode cX11_forget 35 = .ok (.putfield 94, 3) := by decide +kernel
theorem dX11_forget_38 : decode cX11_forget 38 = .ok (.iconst 0, 1) := by decide +kernel
theorem dX11_forget_39 : decode cX11_forget 39 = .ok (.istore_n 1, 1) := by decide +kernel
theorem dX11_forget_40 : decode cX11_forget 40 = .ok (.iload_n 1, 1) := by decide +kernel
theorem dX11_forget_41 : decode cX11_forget 41 = .ok (.aload_n 0, 1) := by decide +kernel
theorem dX11_forget_42 : decode cX11_forget 42 = .ok (.getfield 16, 3) := by decide +kernel
theorem dX11_forget_45 : decode cX11_forget 45 = .ok (.arraylength, 1) := by decide +kernel
theorem dX11_forget_46 : decode cX11_forget 46 = .ok (.if_icmp .ge 18, 3) := by decide +kernel
theorem dX11_forget_49 : decode cX11_forget 49 = .ok (.aload_n 0, 1) := by decide +kernel
theorem dX11_forget_50 : decode cX11_forget 50 = .ok (.getfield 16, 3) := by decide +kernel
theorem dX11_forget_53 : decode cX11_forget 53 = .ok (.iload_n 1, 1) := by decide +kernel
theorem dX11_forget_54 : decode cX11_forget 54 = .ok (.sipush (-9999), 3) := by decide +kernel
theorem dX11_forget_57 : decode cX11_forget 57 = .ok (.iastore, 1) := by decide +kernel
theorem dX11_forget_58 : decode cX11_forget 58 = .ok (.iinc 1 1, 3) := by decide +kernel
theorem dX11_forget_61 : decode cX11_forget 61 = .ok (.goto (-21), 3) := by decide +kernel
theorem dX11_forget_64 : decode cX11_forget 64 = .ok (.iconst 0, 1) := by decide +kernel
theorem dX11_forget_65 : decode cX11_forget 65 = .ok (.istore_n 1, 1) := by decide +kernel
theorem dX11_forget_66 : decode cX11_forget 66 = .ok (.iload_n 1, 1) := by decide +kernel
theorem dX11_forget_67 : decode cX11_forget 67 = .ok (.bipush 24, 2) := by decide +kernel
theorem dX11_forget_69 : decode cX11_forget 69 = .ok (.if_icmp .ge 34, 3) := by decide +kernel
theorem dX11_forget_72 : decode cX11_forget 72 = .ok (.aload_n 0, 1) := by decide +kernel
theorem dX11_forget_73 : decode cX11_forget 73 = .ok (.getfield 19, 3) := by decide +kernel
theorem dX11_forget_76 : decode cX11_forget 76 = .ok (.iload_n 1, 1) := by decide +kernel
theorem dX11_forget_77 : decode cX11_forget 77 = .ok (.sipush (-9999), 3) := by decide +kernel
theorem dX11_forget_80 : decode cX11_forget 80 = .ok (.iastore, 1) := by decide +kernel
theorem dX11_forget_81 : decode cX11_forget 81 = .ok (.aload_n 0, 1) := by decide +kernel
theorem dX11_forget_82 : decode cX11_forget 82 = .ok (.getfield 28, 3) := by decide +kernel
theorem dX11_forget_85 : decode cX11_forget 85 = .ok (.iload_n 1, 1) := by decide +kernel
theorem dX11_forget_86 : decode cX11_forget 86 = .ok (.sipush (-9999), 3) := by decide +kernel
theorem dX11_forget_89 : decode cX11_forget 89 = .ok (.iastore, 1) := by decide +kernel
theorem dX11_forget_90 : decode cX11_forget 90 = .ok (.aload_n 0, 1) := by decide +kernel
theorem dX11_forget_91 : decode cX11_forget 91 = .ok (.getfield 31, 3) := by decide +kernel
theorem dX11_forget_94 : decode cX11_forget 94 = .ok (.iload_n 1, 1) := by decide +kernel
theorem dX11_forget_95 : decode cX11_forget 95 = .ok (.iconst 0, 1) := by decide +kernel
theorem dX11_forget_96 : decode cX11_forget 96 = .ok (.iastore, 1) := by decide +kernel
theorem dX11_forget_97 : decode cX11_forget 97 = .ok (.iinc 1 1, 3) := by decide +kernel
theorem dX11_forget_100 : decode cX11_forget 100 = .ok (.goto (-34), 3) := by decide +kernel
theorem dX11_forget_103 : decode cX11_forget 103 = .ok (.return_, 1) := by decide +kernel
theorem dX11_thrown_0 : decode cX11_thrown 0 = .ok (.aload_n 0, 1) := by decide +kernel
theorem dX11_thrown_1 : decode cX11_thrown 1 = .ok (.getfield 97, 3) := by decide +kernel
theorem dX11_thrown_4 : decode cX11_thrown 4 = .ok (.ireturn, 1) := by decide +kernel
theorem dX11_in_0 : decode cX11_in 0 = .ok (.lload_n 0, 1) := by decide +kernel
theorem dX11_in_1 : decode cX11_in 1 = .ok (.lload_n 2, 1) := by decide +kernel
theorem dX11_in_2 : decode cX11_in 2 = .ok (.lcmp, 1) := by decide +kernel
theorem dX11_in_3 : decode cX11_in 3 = .ok (.ifCond .lt 14, 3) := by decide +kernel
theorem dX11_in_6 : decode cX11_in 6 = .ok (.lload_n 0, 1) := by decide +kernel
theorem dX11_in_7 : decode cX11_in 7 = .ok (.lload 4, 2) := by decide +kernel
theorem dX11_in_9 : decode cX11_in 9 = .ok (.lcmp, 1) := by decide +kernel
theorem dX11_in_10 : decode cX11_in 10 = .ok (.ifCond .gt 7, 3) := by decide +kernel
theorem dX11_in_13 : decode cX11_in 13 = .ok (.iconst 1, 1) := by decide +kernel
theorem dX11_in_14 : decode cX11_in 14 = .ok (.goto 4, 3) := by decide +kernel
theorem dX11_in_17 : decode cX11_in 17 = .ok (.iconst 0, 1) := by decide +kernel
theorem dX11_in_18 : decode cX11_in 18 = .ok (.ireturn, 1) := by decide +kernel
theorem dX11_lost_0 : decode cX11_lost 0 = .ok (.aload_n 0, 1) := by decide +kernel
theorem dX11_lost_1 : decode cX11_lost 1 = .ok (.iconst 1, 1) := by decide +kernel
theorem dX11_lost_2 : decode cX11_lost 2 = .ok (.putfield 97, 3) := by decide +kernel
theorem dX11_lost_5 : decode cX11_lost 5 = .ok (.iconst 0, 1) := by decide +kernel
theorem dX11_lost_6 : decode cX11_lost 6 = .ok (.ireturn, 1) := by decide +kernel
theorem dX11_tell_0 : decode cX11_tell 0 = .ok (.aload_n 0, 1) := by decide +kernel
theorem dX11_tell_1 : decode cX11_tell 1 = .ok (.getfield 38, 3) := by decide +kernel
theorem dX11_tell_4 : decode cX11_tell 4 = .ok (.aload_n 0, 1) := by decide +kernel
theorem dX11_tell_5 : decode cX11_tell 5 = .ok (.getfield 100, 3) := by decide +kernel
theorem dX11_tell_8 : decode cX11_tell 8 = .ok (.lload_n 1, 1) := by decide +kernel
theorem dX11_tell_9 : decode cX11_tell 9 = .ok (.lastore, 1) := by decide +kernel
theorem dX11_tell_10 : decode cX11_tell 10 = .ok (.aload_n 0, 1) := by decide +kernel
theorem dX11_tell_11 : decode cX11_tell 11 = .ok (.dup, 1) := by decide +kernel
theorem dX11_tell_12 : decode cX11_tell 12 = .ok (.getfield 100, 3) := by decide +kernel
theorem dX11_tell_15 : decode cX11_tell 15 = .ok (.iconst 1, 1) := by decide +kernel
theorem dX11_tell_16 : decode cX11_tell 16 = .ok (.iadd, 1) := by decide +kernel
theorem dX11_tell_17 : decode cX11_tell 17 = .ok (.putfield 100, 3) := by decide +kernel
theorem dX11_tell_20 : decode cX11_tell 20 = .ok (.return_, 1) := by decide +kernel
set_option maxRecDepth 20000 in
theorem ggX11_isMonth_X11_in : GoodIn wsX11_isMonth wsX11_in := goodIn_r _ [5] rfl (by decide +kernel)
set_option maxRecDepth 20000 in
theorem gX11_isMonth_X11_in : GoodIn wsX11_isMonth (va_wsS RX11 105 yX11_in wsX11_in) := goodIn_app (goodIn_of _ (by decide +kernel)) ggX11_isMonth_X11_in
theorem dX11_isMonth_0 : decode cX11_isMonth 0 = .ok (.iload_n 0, 1) := by decide +kernel
theorem dX11_isMonth_1 : decode cX11_isMonth 1 = .ok (.i2l, 1) := by decide +kernel
theorem dX11_isMonth_2 : decode cX11_isMonth 2 = .ok (.lconst 0, 1) := by decide +kernel
theorem dX11_isMonth_3 : decode cX11_isMonth 3 = .ok (.ldc2_w 103, 3) := by decide +kernel
theorem dX11_isMonth_6 : decode cX11_isMonth 6 = .ok (.invokestatic 105, 3) := by decide +kernel
theorem dX11_isMonth_9 : decode cX11_isMonth 9 = .ok (.ireturn, 1) := by decide +kernel
set_option maxRecDepth 20000 in
theorem ggX11_isItem_X11_in : GoodIn wsX11_isItem wsX11_in := goodIn_r _ [5] rfl (by decide +kernel)
set_option maxRecDepth 20000 in
theorem gX11_isItem_X11_in : GoodIn wsX11_isItem (va_wsS RX11 105 yX11_in wsX11_in) := goodIn_app (goodIn_of _ (by decide +kernel)) ggX11_isItem_X11_in
theorem dX11_isItem_0 : decode cX11_isItem 0 = .ok (.iload_n 1, 1) := by decide +kernel
theorem dX11_isItem_1 : decode cX11_isItem 1 = .ok (.i2l, 1) := by decide +kernel
theorem dX11_isItem_2 : decode cX11_isItem 2 = .ok (.lconst 0, 1) := by decide +kernel
theorem dX11_isItem_3 : decode cX11_isItem 3 = .ok (.aload_n 0, 1) := by decide +kernel
theorem dX11_isItem_4 : decode cX11_isItem 4 = .ok (.getfield 75, 3) := by decide +kernel
theorem dX11_isItem_7 : decode cX11_isItem 7 = .ok (.iconst 1, 1) := by decide +kernel
theorem dX11_isItem_8 : decode cX11_isItem 8 = .ok (.isub, 1) := by decide +kernel
theorem dX11_isItem_9 : decode cX11_isItem 9 = .ok (.i2l, 1) := by decide +kernel
theorem dX11_isItem_10 : decode cX11_isItem 10 = .ok (.invokestatic 105, 3) := by decide +kernel
theorem dX11_isItem_13 : decode cX11_isItem 13 = .ok (.ireturn, 1) := by decide +kernel
theorem dX11_kind_0 : decode cX11_kind 0 = .ok (.aload_n 0, 1) := by decide +kernel
theorem dX11_kind_1 : decode cX11_kind 1 = .ok (.getfield 13, 3) := by decide +kernel
theorem dX11_kind_4 : decode cX11_kind 4 = .ok (.iconst 3, 1) := by decide +kernel
theorem dX11_kind_5 : decode cX11_kind 5 = .ok (.iload_n 1, 1) := by decide +kernel
theorem dX11_kind_6 : decode cX11_kind 6 = .ok (.imul, 1) := by decide +kernel
theorem dX11_kind_7 : decode cX11_kind 7 = .ok (.iaload, 1) := by decide +kernel
theorem dX11_kind_8 : decode cX11_kind 8 = .ok (.ireturn, 1) := by decide +kernel
theorem dX11_quantity_0 : decode cX11_quantity 0 = .ok (.aload_n 0, 1) := by decide +kernel
theorem dX11_quantity_1 : decode cX11_quantity 1 = .ok (.getfield 13, 3) := by decide +kernel
theorem dX11_quantity_4 : decode cX11_quantity 4 = .ok (.iconst 3, 1) := by decide +kernel
theorem dX11_quantity_5 : decode cX11_quantity 5 = .ok (.iload_n 1, 1) := by decide +kernel
theorem dX11_quantity_6 : decode cX11_quantity 6 = .ok (.imul, 1) := by decide +kernel
theorem dX11_quantity_7 : decode cX11_quantity 7 = .ok (.iconst 1, 1) := by decide +kernel
theorem dX11_quantity_8 : decode cX11_quantity 8 = .ok (.iadd, 1) := by decide +kernel
theorem dX11_quantity_9 : decode cX11_quantity 9 = .ok (.iaload, 1) := by decide +kernel
theorem dX11_quantity_10 : decode cX11_quantity 10 = .ok (.ireturn, 1) := by decide +kernel
theorem dX11_rate_0 : decode cX11_rate 0 = .ok (.aload_n 0, 1) := by decide +kernel
theorem dX11_rate_1 : decode cX11_rate 1 = .ok (.getfield 13, 3) := by decide +kernel
theorem dX11_rate_4 : decode cX11_rate 4 = .ok (.iconst 3, 1) := by decide +kernel
theorem dX11_rate_5 : decode cX11_rate 5 = .ok (.iload_n 1, 1) := by decide +kernel
theorem dX11_rate_6 : decode cX11_rate 6 = .ok (.imul, 1) := by decide +kernel
theorem dX11_rate_7 : decode cX11_rate 7 = .ok (.iconst 2, 1) := by decide +kernel
theorem dX11_rate_8 : decode cX11_rate 8 = .ok (.iadd, 1) := by decide +kernel
theorem dX11_rate_9 : decode cX11_rate 9 = .ok (.iaload, 1) := by decide +kernel
theorem dX11_rate_10 : decode cX11_rate 10 = .ok (.ireturn, 1) := by decide +kernel
theorem dX11_sign_0 : decode cX11_sign 0 = .ok (.aload_n 0, 1) := by decide +kernel
theorem dX11_sign_1 : decode cX11_sign 1 = .ok (.iconst 0, 1) := by decide +kernel
theorem dX11_sign_2 : decode cX11_sign 2 = .ok (.putfield 97, 3) := by decide +kernel
theorem dX11_sign_5 : decode cX11_sign 5 = .ok (.aload_n 0, 1) := by decide +kernel
theorem dX11_sign_6 : decode cX11_sign 6 = .ok (.getfield 109, 3) := by decide +kernel
theorem dX11_sign_9 : decode cX11_sign 9 = .ok (.iconst 4, 1) := by decide +kernel
theorem dX11_sign_10 : decode cX11_sign 10 = .ok (.iadd, 1) := by decide +kernel
theorem dX11_sign_11 : decode cX11_sign 11 = .ok (.bipush 120, 2) := by decide +kernel
theorem dX11_sign_13 : decode cX11_sign 13 = .ok (.if_icmp .le 5, 3) := by decide +kernel
theorem dX11_sign_16 : decode cX11_sign 16 = .ok (.iconst (-1), 1) := by decide +kernel
theorem dX11_sign_17 : decode cX11_sign 17 = .ok (.ireturn, 1) := by decide +kernel
theorem dX11_sign_18 : decode cX11_sign 18 = .ok (.iconst 3, 1) := by decide +kernel
theorem dX11_sign_19 : decode cX11_sign 19 = .ok (.istore_n 2, 1) := by decide +kernel
theorem dX11_sign_20 : decode cX11_sign 20 = .ok (.iload_n 2, 1) := by decide +kernel
theorem dX11_sign_21 : decode cX11_sign 21 = .ok (.ifCond .lt 32, 3) := by decide +kernel
theorem dX11_sign_24 : decode cX11_sign 24 = .ok (.aload_n 0, 1) := by decide +kernel
theorem dX11_sign_25 : decode cX11_sign 25 = .ok (.getfield 34, 3) := by decide +kernel
theorem dX11_sign_28 : decode cX11_sign 28 = .ok (.aload_n 0, 1) := by decide +kernel
theorem dX11_sign_29 : decode cX11_sign 29 = .ok (.dup, 1) := by decide +kernel
theorem dX11_sign_30 : decode cX11_sign 30 = .ok (.getfield 109, 3) := by decide +kernel
theorem dX11_sign_33 : decode cX11_sign 33 = .ok (.dup_x1, 1) := by decide +kernel
theorem dX11_sign_34 : decode cX11_sign 34 = .ok (.iconst 1, 1) := by decide +kernel
theorem dX11_sign_35 : decode cX11_sign 35 = .ok (.iadd, 1) := by decide +kernel
theorem dX11_sign_36 : decode cX11_sign 36 = .ok (.putfield 109, 3) := by decide +kernel
theorem dX11_sign_39 : decode cX11_sign 39 = .ok (.iload_n 1, 1) := by decide +kernel
theorem dX11_sign_40 : decode cX11_sign 40 = .ok (.bipush 8, 2) := by decide +kernel
theorem dX11_sign_42 : decode cX11_sign 42 = .ok (.iload_n 2, 1) := by decide +kernel
theorem dX11_sign_43 : decode cX11_sign 43 = .ok (.imul, 1) := by decide +kernel
theorem dX11_sign_44 : decode cX11_sign 44 = .ok (.ishr, 1) := by decide +kernel
theorem dX11_sign_45 : decode cX11_sign 45 = .ok (.i2b, 1) := by decide +kernel
theorem dX11_sign_46 : decode cX11_sign 46 = .ok (.bastore, 1) := by decide +kernel
theorem dX11_sign_47 : decode cX11_sign 47 = .ok (.iinc 2 (-1), 3) := by decide +kernel
theorem dX11_sign_50 : decode cX11_sign 50 = .ok (.goto (-30), 3) := by decide +kernel
theorem dX11_sign_53 : decode cX11_sign 53 = .ok (.aload_n 0, 1) := by decide +kernel
theorem dX11_sign_54 : decode cX11_sign 54 = .ok (.getfield 109, 3) := by decide +kernel
theorem dX11_sign_57 : decode cX11_sign 57 = .ok (.ireturn, 1) := by decide +kernel
set_option maxRecDepth 20000 in
theorem ggX11_end_X11_in : GoodIn wsX11_end wsX11_in := goodIn_r _ [6] rfl (by decide +kernel)
set_option maxRecDepth 20000 in
theorem gX11_end_X11_in : GoodIn wsX11_end (va_wsS RX11 105 yX11_in wsX11_in) := goodIn_app (goodIn_of _ (by decide +kernel)) ggX11_end_X11_in
theorem dX11_end_0 : decode cX11_end 0 = .ok (.aload_n 0, 1) := by decide +kernel
theorem dX11_end_1 : decode cX11_end 1 = .ok (.iconst 0, 1) := by decide +kernel
theorem dX11_end_2 : decode cX11_end 2 = .ok (.putfield 97, 3) := by decide +kernel
theorem dX11_end_5 : decode cX11_end 5 = .ok (.iload_n 1, 1) := by decide +kernel
theorem dX11_end_6 : decode cX11_end 6 = .ok (.i2l, 1) := by decide +kernel
theorem dX11_end_7 : decode cX11_end 7 = .ok (.lconst 0, 1) := by decide +kernel
theorem dX11_end_8 : decode cX11_end 8 = .ok (.aload_n 0, 1) := by decide +kernel
theorem dX11_end_9 : decode cX11_end 9 = .ok (.getfield 109, 3) := by decide +kernel
theorem dX11_end_12 : decode cX11_end 12 = .ok (.i2l, 1) := by decide +kernel
theorem dX11_end_13 : decode cX11_end 13 = .ok (.invokestatic 105, 3) := by decide +kernel
theorem dX11_end_16 : decode cX11_end 16 = .ok (.ifCond .ne 5, 3) := by decide +kernel
theorem dX11_end_19 : decode cX11_end 19 = .ok (.iconst 0, 1) := by decide +kernel
theorem dX11_end_20 : decode cX11_end 20 = .ok (.ireturn, 1) := by decide +kernel
theorem dX11_end_21 : decode cX11_end 21 = .ok (.aload_n 0, 1) := by decide +kernel
theorem dX11_end_22 : decode cX11_end 22 = .ok (.iload_n 1, 1) := by decide +kernel
theorem dX11_end_23 : decode cX11_end 23 = .ok (.putfield 109, 3) := by decide +kernel
theorem dX11_end_26 : decode cX11_end 26 = .ok (.iconst 1, 1) := by decide +kernel
theorem dX11_end_27 : decode cX11_end 27 = .ok (.ireturn, 1) := by decide +kernel
theorem dX11_here_0 : decode cX11_here 0 = .ok (.aload_n 0, 1) := by decide +kernel
theorem dX11_here_1 : decode cX11_here 1 = .ok (.getfield 112, 3) := by decide +kernel
theorem dX11_here_4 : decode cX11_here 4 = .ok (.aload_n 0, 1) := by decide +kernel
theorem dX11_here_5 : decode cX11_here 5 = .ok (.getfield 115, 3) := by decide +kernel
theorem dX11_here_8 : decode cX11_here 8 = .ok (.if_icmp .ge 19, 3) := by decide +kernel
theorem dX11_here_11 : decode cX11_here 11 = .ok (.aload_n 0, 1) := by decide +kernel
theorem dX11_here_12 : decode cX11_here 12 = .ok (.getfield 34, 3) := by decide +kernel
theorem dX11_here_15 : decode cX11_here 15 = .ok (.aload_n 0, 1) := by decide +kernel
theorem dX11_here_16 : decode cX11_here 16 = .ok (.getfield 112, 3) := by decide +kernel
theorem dX11_here_19 : decode cX11_here 19 = .ok (.baload, 1) := by decide +kernel
theorem dX11_here_20 : decode cX11_here 20 = .ok (.sipush 255, 3) := by decide +kernel
theorem dX11_here_23 : decode cX11_here 23 = .ok (.iand, 1) := by decide +kernel
theorem dX11_here_24 : decode cX11_here 24 = .ok (.goto 4, 3) := by decide +kernel
theorem dX11_here_27 : decode cX11_here 27 = .ok (.iconst (-1), 1) := by decide +kernel
theorem dX11_here_28 : decode cX11_here 28 = .ok (.ireturn, 1) := by decide +kernel
theorem dX11_fault_0 : decode cX11_fault 0 = .ok (.aload_n 0, 1) := by decide +kernel
theorem dX11_fault_1 : decode cX11_fault 1 = .ok (.getfield 118, 3) := by decide +kernel
theorem dX11_fault_4 : decode cX11_fault 4 = .ok (.iconst (-1), 1) := by decide +kernel
theorem dX11_fault_5 : decode cX11_fault 5 = .ok (.if_icmp .ne 8, 3) := by decide +kernel
theorem dX11_fault_8 : decode cX11_fault 8 = .ok (.aload_n 0, 1) := by decide +kernel
theorem dX11_fault_9 : decode cX11_fault 9 = .ok (.iload_n 1, 1) := by decide +kernel
theorem dX11_fault_10 : decode cX11_fault 10 = .ok (.putfield 118, 3) := by decide +kernel
theorem dX11_fault_13 : decode cX11_fault 13 = .ok (.return_, 1) := by decide +kernel
set_option maxRecDepth 20000 in
theorem ggX11_expect_X11_here : GoodIn wsX11_expect wsX11_here := goodIn_r _ [7, 2, 8, 9, 14, 15, 16, 17, 18, 19, 20, 21, 22, 23, 24, 25, 26, 27, 28, 29, 30, 31, 32, 33, 34, 35, 36, 37, 38, 39, 40, 41, 42, 43, 44, 45, 46, 47, 48] rfl (by decide +kernel)
set_option maxRecDepth 20000 in
theorem gX11_expect_X11_here : GoodIn wsX11_expect (wsV RX11 121 RX11 yX11_here wsX11_here) := goodIn_app (goodIn_of _ (by decide +kernel)) ggX11_expect_X11_here
set_option maxRecDepth 20000 in
theorem ggX11_expect_X11_fault : GoodIn wsX11_expect wsX11_fault := goodIn_r _ [13, 1, 14, 15, 16, 17, 18, 19, 20, 21, 22, 23, 24, 25, 26, 27, 28, 29, 30, 31, 32, 33, 34, 35, 36, 37, 38, 39, 40, 41, 42, 43, 44, 45, 46, 47, 48] rfl (by decide +kernel)
set_option maxRecDepth 20000 in
theorem gX11_expect_X11_fault : GoodIn wsX11_expect (wsV RX11 125 RX11 yX11_fault wsX11_fault) := goodIn_app (goodIn_of _ (by decide +kernel)) ggX11_expect_X11_fault
theorem dX11_expect_0 : decode cX11_expect 0 = .ok (.aload_n 0, 1) := by decide +kernel
theorem dX11_expect_1 : decode cX11_expect 1 = .ok (.getfield 118, 3) := by decide +kernel
theorem dX11_expect_4 : decode cX11_expect 4 = .ok (.iconst (-1), 1) := by decide +kernel
theorem dX11_expect_5 : decode cX11_expect 5 = .ok (.if_icmp .eq 4, 3) := by decide +kernel
theorem dX11_expect_8 : decode cX11_expect 8 = .ok (.return_, 1) := by decide +kernel
theorem dX11_expect_9 : decode cX11_expect 9 = .ok (.aload_n 0, 1) := by decide +kernel
theorem dX11_expect_10 : decode cX11_expect 10 = .ok (.invokevirtual 121, 3) := by decide +kernel
theorem dX11_expect_13 : decode cX11_expect 13 = .ok (.iload_n 1, 1) := by decide +kernel
theorem dX11_expect_14 : decode cX11_expect 14 = .ok (.if_icmp .eq 11, 3) := by decide +kernel
theorem dX11_expect_17 : decode cX11_expect 17 = .ok (.aload_n 0, 1) := by decide +kernel
theorem dX11_expect_18 : decode cX11_expect 18 = .ok (.aload_n 0, 1) := by decide +kernel
theorem dX11_expect_19 : decode cX11_expect 19 = .ok (.getfield 112, 3) := by decide +kernel
theorem dX11_expect_22 : decode cX11_expect 22 = .ok (.invokevirtual 125, 3) := by decide +kernel
theorem dX11_expect_25 : decode cX11_expect 25 = .ok (.aload_n 0, 1) := by decide +kernel
theorem dX11_expect_26 : decode cX11_expect 26 = .ok (.dup, 1) := by decide +kernel
theorem dX11_expect_27 : decode cX11_expect 27 = .ok (.getfield 112, 3) := by decide +kernel
theorem dX11_expect_30 : decode cX11_expect 30 = .ok (.iconst 1, 1) := by decide +kernel
theorem dX11_expect_31 : decode cX11_expect 31 = .ok (.iadd, 1) := by decide +kernel
theorem dX11_expect_32 : decode cX11_expect 32 = .ok (.putfield 112, 3) := by decide +kernel
theorem dX11_expect_35 : decode cX11_expect 35 = .ok (.return_, 1) := by decide +kernel
set_option maxRecDepth 20000 in
theorem ggX11_number_X11_here : GoodIn wsX11_number wsX11_here := goodIn_r _ [9, 4, 10, 11, 19, 20, 21, 22, 23, 24, 25, 26, 27, 28, 29, 30, 31, 32, 33, 34, 35, 36, 37, 38, 39, 40, 41, 42, 43, 44, 45, 46, 47, 48, 49, 50, 51, 52, 53] rfl (by decide +kernel)
set_option maxRecDepth 20000 in
theorem gX11_number_X11_here : GoodIn wsX11_number (wsV RX11 121 RX11 yX11_here wsX11_here) := goodIn_app (goodIn_of _ (by decide +kernel)) ggX11_number_X11_here
set_option maxRecDepth 20000 in
theorem ggX11_number_X11_in : GoodIn wsX11_number wsX11_in := goodIn_r _ [14] rfl (by decide +kernel)
set_option maxRecDepth 20000 in
theorem gX11_number_X11_in : GoodIn wsX11_number (va_wsS RX11 105 yX11_in wsX11_in) := goodIn_app (goodIn_of _ (by decide +kernel)) ggX11_number_X11_in
set_option maxRecDepth 20000 in
theorem ggX11_number_X11_fault : GoodIn wsX11_number wsX11_fault := goodIn_r _ [18, 1, 19, 20, 21, 22, 23, 24, 25, 26, 27, 28, 29, 30, 31, 32, 33, 34, 35, 36, 37, 38, 39, 40, 41, 42, 43, 44, 45, 46, 47, 48, 49, 50, 51, 52, 53] rfl (by decide +kernel)
set_option maxRecDepth 20000 in
theorem gX11_number_X11_fault : GoodIn wsX11_number (wsV RX11 125 RX11 yX11_fault wsX11_fault) := goodIn_app (goodIn_of _ (by decide +kernel)) ggX11_number_X11_fault
theorem dX11_number_0 : decode cX11_number 0 = .ok (.iconst 0, 1) := by decide +kernel
theorem dX11_number_1 : decode cX11_number 1 = .ok (.istore_n 1, 1) := by decide +kernel
theorem dX11_number_2 : decode cX11_number 2 = .ok (.iconst 0, 1) := by decide +kernel
theorem dX11_number_3 : decode cX11_number 3 = .ok (.istore_n 2, 1) := by decide +kernel
theorem dX11_number_4 : decode cX11_number 4 = .ok (.aload_n 0, 1) := by decide +kernel
theorem dX11_number_5 : decode cX11_number 5 = .ok (.getfield 118, 3) := by decide +kernel
theorem dX11_number_8 : decode cX11_number 8 = .ok (.iconst (-1), 1) := by decide +kernel
theorem dX11_number_9 : decode cX11_number 9 = .ok (.if_icmp .ne 62, 3) := by decide +kernel
theorem dX11_number_12 : decode cX11_number 12 = .ok (.aload_n 0, 1) := by decide +kernel
theorem dX11_number_13 : decode cX11_number 13 = .ok (.invokevirtual 121, 3) := by decide +kernel
theorem dX11_number_16 : decode cX11_number 16 = .ok (.i2l, 1) := by decide +kernel
theorem dX11_number_17 : decode cX11_number 17 = .ok (.ldc2_w 129, 3) := by decide +kernel
theorem dX11_number_20 : decode cX11_number 20 = .ok (.ldc2_w 131, 3) := by decide +kernel
theorem dX11_number_23 : decode cX11_number 23 = .ok (.invokestatic 105, 3) := by decide +kernel
theorem dX11_number_26 : decode cX11_number 26 = .ok (.ifCond .eq 45, 3) := by decide +kernel
theorem dX11_number_29 : decode cX11_number 29 = .ok (.iload_n 2, 1) := by decide +kernel
theorem dX11_number_30 : decode cX11_number 30 = .ok (.iconst 3, 1) := by decide +kernel
theorem dX11_number_31 : decode cX11_number 31 = .ok (.if_icmp .ne 11, 3) := by decide +kernel
theorem dX11_number_34 : decode cX11_number 34 = .ok (.aload_n 0, 1) := by decide +kernel
theorem dX11_number_35 : decode cX11_number 35 = .ok (.aload_n 0, 1) := by decide +kernel
theorem dX11_number_36 : decode cX11_number 36 = .ok (.getfield 112, 3) := by decide +kernel
theorem dX11_number_39 : decode cX11_number 39 = .ok (.invokevirtual 125, 3) := by decide +kernel
theorem dX11_number_42 : decode cX11_number 42 = .ok (.bipush 10, 2) := by decide +kernel
theorem dX11_number_44 : decode cX11_number 44 = .ok (.iload_n 1, 1) := by decide +kernel
theorem dX11_number_45 : decode cX11_number 45 = .ok (.imul, 1) := by decide +kernel
theorem dX11_number_46 : decode cX11_number 46 = .ok (.aload_n 0, 1) := by decide +kernel
theorem dX11_number_47 : decode cX11_number 47 = .ok (.invokevirtual 121, 3) := by decide +kernel
theorem dX11_number_50 : decode cX11_number 50 = .ok (.iadd, 1) := by decide +kernel
theorem dX11_number_51 : decode cX11_number 51 = .ok (.bipush 48, 2) := by decide +kernel
theorem dX11_number_53 : decode cX11_number 53 = .ok (.isub, 1) := by decide +kernel
theorem dX11_number_54 : decode cX11_number 54 = .ok (.istore_n 1, 1) := by decide +kernel
theorem dX11_number_55 : decode cX11_number 55 = .ok (.iinc 2 1, 3) := by decide +kernel
theorem dX11_number_58 : decode cX11_number 58 = .ok (.aload_n 0, 1) := by decide +kernel
theorem dX11_number_59 : decode cX11_number 59 = .ok (.dup, 1) := by decide +kernel
theorem dX11_number_60 : decode cX11_number 60 = .ok (.getfield 112, 3) := by decide +kernel
theorem dX11_number_63 : decode cX11_number 63 = .ok (.iconst 1, 1) := by decide +kernel
theorem dX11_number_64 : decode cX11_number 64 = .ok (.iadd, 1) := by decide +kernel
theorem dX11_number_65 : decode cX11_number 65 = .ok (.putfield 112, 3) := by decide +kernel
theorem dX11_number_68 : decode cX11_number 68 = .ok (.goto (-64), 3) := by decide +kernel
theorem dX11_number_71 : decode cX11_number 71 = .ok (.iload_n 2, 1) := by decide +kernel
theorem dX11_number_72 : decode cX11_number 72 = .ok (.ifCond .ne 11, 3) := by decide +kernel
theorem dX11_number_75 : decode cX11_number 75 = .ok (.aload_n 0, 1) := by decide +kernel
theorem dX11_number_76 : decode cX11_number 76 = .ok (.aload_n 0, 1) := by decide +kernel
theorem dX11_number_77 : decode cX11_number 77 = .ok (.getfield 112, 3) := by decide +kernel
theorem dX11_number_80 : decode cX11_number 80 = .ok (.invokevirtual 125, 3) := by decide +kernel
theorem dX11_number_83 : decode cX11_number 83 = .ok (.iload_n 1, 1) := by decide +kernel
theorem dX11_number_84 : decode cX11_number 84 = .ok (.ifCond .ne 13, 3) := by decide +kernel
theorem dX11_number_87 : decode cX11_number 87 = .ok (.aload_n 0, 1) := by decide +kernel
theorem dX11_number_88 : decode cX11_number 88 = .ok (.aload_n 0, 1) := by decide +kernel
theorem dX11_number_89 : decode cX11_number 89 = .ok (.getfield 112, 3) := by decide +kernel
theorem dX11_number_92 : decode cX11_number 92 = .ok (.iconst 1, 1) := by decide +kernel
theorem dX11_number_93 : decode cX11_number 93 = .ok (.isub, 1) := by decide +kernel
theorem dX11_number_94 : decode cX11_number 94 = .ok (.invokevirtual 125, 3) := by decide +kernel
theorem dX11_number_97 : decode cX11_number 97 = .ok (.iload_n 1, 1) := by decide +kernel
theorem dX11_number_98 : decode cX11_number 98 = .ok (.ireturn, 1) := by decide +kernel
set_option maxRecDepth 20000 in
theorem ggX11_bill_X11_fault : GoodIn wsX11_bill wsX11_fault := goodIn_r _ [15, 5, 47, 48, 49, 50, 51, 52, 53, 54, 55, 56, 57, 58, 59, 60, 61, 62, 63, 64, 65, 66, 67, 68, 69, 70, 71, 72, 73, 74, 75, 76, 77, 78, 79, 80, 81] rfl (by decide +kernel)
set_option maxRecDepth 20000 in
theorem gX11_bill_X11_fault : GoodIn wsX11_bill (wsV RX11 125 RX11 yX11_fault wsX11_fault) := goodIn_app (goodIn_of _ (by decide +kernel)) ggX11_bill_X11_fault
set_option maxRecDepth 20000 in
theorem ggX11_bill_X11_expect : GoodIn wsX11_bill wsX11_expect := goodIn_r _ [19, 5, 4, 20, 21, 22, 14, 23, 3, 24, 11, 12, 13, 15, 47, 48, 49, 50, 51, 52, 53, 54, 55, 56, 57, 58, 59, 60, 61, 62, 63, 64, 65, 66, 67, 68, 69, 70, 71, 72, 73, 74, 75, 76, 77, 78, 79, 80, 81] rfl (by decide +kernel)
set_option maxRecDepth 20000 in
theorem gX11_bill_X11_expect : GoodIn wsX11_bill (wsV RX11 133 RX11 yX11_expect wsX11_expect) := goodIn_app (goodIn_of _ (by decide +kernel)) ggX11_bill_X11_expect
set_option maxRecDepth 20000 in
theorem ggX11_bill_X11_here : GoodIn wsX11_bill wsX11_here := goodIn_r _ [23, 4, 3, 24, 47, 48, 49, 50, 51, 52, 53, 54, 55, 56, 57, 58, 59, 60, 61, 62, 63, 64, 65, 66, 67, 68, 69, 70, 71, 72, 73, 74, 75, 76, 77, 78, 79, 80, 81] rfl (by decide +kernel)
set_option maxRecDepth 20000 in
theorem gX11_bill_X11_here : GoodIn wsX11_bill (wsV RX11 121 RX11 yX11_here wsX11_here) := goodIn_app (goodIn_of _ (by decide +kernel)) ggX11_bill_X11_here
set_option maxRecDepth 20000 in
theorem ggX11_bill_X11_in : GoodIn wsX11_bill wsX11_in := goodIn_r _ [27] rfl (by decide +kernel)
set_option maxRecDepth 20000 in
theorem gX11_bill_X11_in : GoodIn wsX11_bill (va_wsS RX11 105 yX11_in wsX11_in) := goodIn_app (goodIn_of _ (by decide +kernel)) ggX11_bill_X11_in
set_option maxRecDepth 20000 in
theorem ggX11_bill_X11_number : GoodIn wsX11_bill wsX11_number := goodIn_r _ [31, 5, 6, 32, 4, 20, 21, 22, 14, 23, 3, 24, 25, 26, 27, 11, 12, 13, 15, 47, 48, 49, 50, 51, 52, 53, 54, 55, 56, 57, 58, 59, 60, 61, 62, 63, 64, 65, 66, 67, 68, 69, 70, 71, 72, 73, 74, 75, 76, 77, 78, 79, 80, 81] rfl (by decide +kernel)
set_option maxRecDepth 20000 in
theorem gX11_bill_X11_number : GoodIn wsX11_bill (wsV RX11 139 RX11 yX11_number wsX11_number) := goodIn_app (goodIn_of _ (by decide +kernel)) ggX11_bill_X11_number
set_option maxRecDepth 20000 in
theorem ggX11_bill_X11_forget : GoodIn wsX11_bill wsX11_forget := goodIn_r _ [36, 9, 37, 38, 39, 40, 41, 42, 43, 44, 45, 46, 47, 48, 49, 50, 51, 52, 53, 54, 55, 56, 57, 58, 59, 60, 61, 62, 63, 64, 65, 66, 67, 68, 69, 70, 71, 72, 73, 74, 75, 76, 77, 78, 79, 80, 81] rfl (by decide +kernel)
set_option maxRecDepth 20000 in
theorem gX11_bill_X11_forget : GoodIn wsX11_bill (wsV RX11 72 RX11 yX11_forget wsX11_forget) := goodIn_app (goodIn_of _ (by decide +kernel)) ggX11_bill_X11_forget
theorem dX11_bill_0 : decode cX11_bill 0 = .ok (.aload_n 0, 1) := by decide +kernel
theorem dX11_bill_1 : decode cX11_bill 1 = .ok (.iconst 0, 1) := by decide +kernel
theorem dX11_bill_2 : decode cX11_bill 2 = .ok (.putfield 97, 3) := by decide +kernel
theorem dX11_bill_5 : decode cX11_bill 5 = .ok (.aload_n 0, 1) := by decide +kernel
theorem dX11_bill_6 : decode cX11_bill 6 = .ok (.aload_n 0, 1) := by decide +kernel
theorem dX11_bill_7 : decode cX11_bill 7 = .ok (.getfield 109, 3) := by decide +kernel
theorem dX11_bill_10 : decode cX11_bill 10 = .ok (.putfield 115, 3) := by decide +kernel
theorem dX11_bill_13 : decode cX11_bill 13 = .ok (.aload_n 0, 1) := by decide +kernel
theorem dX11_bill_14 : decode cX11_bill 14 = .ok (.iconst 0, 1) := by decide +kernel
theorem dX11_bill_15 : decode cX11_bill 15 = .ok (.putfield 109, 3) := by decide +kernel
theorem dX11_bill_18 : decode cX11_bill 18 = .ok (.aload_n 0, 1) := by decide +kernel
theorem dX11_bill_19 : decode cX11_bill 19 = .ok (.iconst 0, 1) := by decide +kernel
theorem dX11_bill_20 : decode cX11_bill 20 = .ok (.putfield 112, 3) := by decide +kernel
theorem dX11_bill_23 : decode cX11_bill 23 = .ok (.aload_n 0, 1) := by decide +kernel
theorem dX11_bill_24 : decode cX11_bill 24 = .ok (.iconst (-1), 1) := by decide +kernel
theorem dX11_bill_25 : decode cX11_bill 25 = .ok (.putfield 118, 3) := by decide +kernel
theorem dX11_bill_28 : decode cX11_bill 28 = .ok (.iconst 0, 1) := by decide +kernel
theorem dX11_bill_29 : decode cX11_bill 29 = .ok (.istore_n 1, 1) := by decide +kernel
theorem dX11_bill_30 : decode cX11_bill 30 = .ok (.aload_n 0, 1) := by decide +kernel
theorem dX11_bill_31 : decode cX11_bill 31 = .ok (.getfield 118, 3) := by decide +kernel
theorem dX11_bill_34 : decode cX11_bill 34 = .ok (.iconst (-1), 1) := by decide +kernel
theorem dX11_bill_35 : decode cX11_bill 35 = .ok (.if_icmp .ne 145, 3) := by decide +kernel
theorem dX11_bill_38 : decode cX11_bill 38 = .ok (.aload_n 0, 1) := by decide +kernel
theorem dX11_bill_39 : decode cX11_bill 39 = .ok (.getfield 112, 3) := by decide +kernel
theorem dX11_bill_42 : decode cX11_bill 42 = .ok (.aload_n 0, 1) := by decide +kernel
theorem dX11_bill_43 : decode cX11_bill 43 = .ok (.getfield 115, 3) := by decide +kernel
theorem dX11_bill_46 : decode cX11_bill 46 = .ok (.if_icmp .ge 134, 3) := by decide +kernel
theorem dX11_bill_49 : decode cX11_bill 49 = .ok (.iload_n 1, 1) := by decide +kernel
theorem dX11_bill_50 : decode cX11_bill 50 = .ok (.ifCond .le 23, 3) := by decide +kernel
theorem dX11_bill_53 : decode cX11_bill 53 = .ok (.iload_n 1, 1) := by decide +kernel
theorem dX11_bill_54 : decode cX11_bill 54 = .ok (.bipush 10, 2) := by decide +kernel
theorem dX11_bill_56 : decode cX11_bill 56 = .ok (.if_icmp .ne 11, 3) := by decide +kernel
theorem dX11_bill_59 : decode cX11_bill 59 = .ok (.aload_n 0, 1) := by decide +kernel
theorem dX11_bill_60 : decode cX11_bill 60 = .ok (.aload_n 0, 1) := by decide +kernel
theorem dX11_bill_61 : decode cX11_bill 61 = .ok (.getfield 112, 3) := by decide +kernel
theorem dX11_bill_64 : decode cX11_bill 64 = .ok (.invokevirtual 125, 3) := by decide +kernel
theorem dX11_bill_67 : decode cX11_bill 67 = .ok (.aload_n 0, 1) := by decide +kernel
theorem dX11_bill_68 : decode cX11_bill 68 = .ok (.bipush 59, 2) := by decide +kernel
theorem dX11_bill_70 : decode cX11_bill 70 = .ok (.invokevirtual 133, 3) := by decide +kernel
theorem dX11_bill_73 : decode cX11_bill 73 = .ok (.aload_n 0, 1) := by decide +kernel
theorem dX11_bill_74 : decode cX11_bill 74 = .ok (.getfield 118, 3) := by decide +kernel
theorem dX11_bill_77 : decode cX11_bill 77 = .ok (.iconst (-1), 1) := by decide +kernel
theorem dX11_bill_78 : decode cX11_bill 78 = .ok (.if_icmp .eq 6, 3) := by decide +kernel
theorem dX11_bill_81 : decode cX11_bill 81 = .ok (.goto (-51), 3) := by decide +kernel
theorem dX11_bill_84 : decode cX11_bill 84 = .ok (.aload_n 0, 1) := by decide +kernel
theorem dX11_bill_85 : decode cX11_bill 85 = .ok (.invokevirtual 121, 3) := by decide +kernel
theorem dX11_bill_88 : decode cX11_bill 88 = .ok (.i2l, 1) := by decide +kernel
theorem dX11_bill_89 : decode cX11_bill 89 = .ok (.ldc2_w 129, 3) := by decide +kernel
theorem dX11_bill_92 : decode cX11_bill 92 = .ok (.ldc2_w 137, 3) := by decide +kernel
theorem dX11_bill_95 : decode cX11_bill 95 = .ok (.invokestatic 105, 3) := by decide +kernel
theorem dX11_bill_98 : decode cX11_bill 98 = .ok (.ifCond .ne 11, 3) := by decide +kernel
theorem dX11_bill_101 : decode cX11_bill 101 = .ok (.aload_n 0, 1) := by decide +kernel
theorem dX11_bill_102 : decode cX11_bill 102 = .ok (.aload_n 0, 1) := by decide +kernel
theorem dX11_bill_103 : decode cX11_bill 103 = .ok (.getfield 112, 3) := by decide +kernel
theorem dX11_bill_106 : decode cX11_bill 106 = .ok (.invokevirtual 125, 3) := by decide +kernel
theorem dX11_bill_109 : decode cX11_bill 109 = .ok (.aload_n 0, 1) := by decide +kernel
theorem dX11_bill_110 : decode cX11_bill 110 = .ok (.getfield 42, 3) := by decide +kernel
theorem dX11_bill_113 : decode cX11_bill 113 = .ok (.iconst 3, 1) := by decide +kernel
theorem dX11_bill_114 : decode cX11_bill 114 = .ok (.iload_n 1, 1) := by decide +kernel
theorem dX11_bill_115 : decode cX11_bill 115 = .ok (.imul, 1) := by decide +kernel
theorem dX11_bill_116 : decode cX11_bill 116 = .ok (.aload_n 0, 1) := by decide +kernel
theorem dX11_bill_117 : decode cX11_bill 117 = .ok (.invokevirtual 121, 3) := by decide +kernel
theorem dX11_bill_120 : decode cX11_bill 120 = .ok (.bipush 48, 2) := by decide +kernel
theorem dX11_bill_122 : decode cX11_bill 122 = .ok (.isub, 1) := by decide +kernel
theorem dX11_bill_123 : decode cX11_bill 123 = .ok (.iastore, 1) := by decide +kernel
theorem dX11_bill_124 : decode cX11_bill 124 = .ok (.aload_n 0, 1) := by decide +kernel
theorem dX11_bill_125 : decode cX11_bill 125 = .ok (.dup, 1) := by decide +kernel
theorem dX11_bill_126 : decode cX11_bill 126 = .ok (.getfield 112, 3) := by decide +kernel
theorem dX11_bill_129 : decode cX11_bill 129 = .ok (.iconst 1, 1) := by decide +kernel
theorem dX11_bill_130 : decode cX11_bill 130 = .ok (.iadd, 1) := by decide +kernel
theorem dX11_bill_131 : decode cX11_bill 131 = .ok (.putfield 112, 3) := by decide +kernel
theorem dX11_bill_134 : decode cX11_bill 134 = .ok (.aload_n 0, 1) := by decide +kernel
theorem dX11_bill_135 : decode cX11_bill 135 = .ok (.bipush 58, 2) := by decide +kernel
theorem dX11_bill_137 : decode cX11_bill 137 = .ok (.invokevirtual 133, 3) := by decide +kernel
theorem dX11_bill_140 : decode cX11_bill 140 = .ok (.aload_n 0, 1) := by decide +kernel
theorem dX11_bill_141 : decode cX11_bill 141 = .ok (.getfield 42, 3) := by decide +kernel
theorem dX11_bill_144 : decode cX11_bill 144 = .ok (.iconst 3, 1) := by decide +kernel
theorem dX11_bill_145 : decode cX11_bill 145 = .ok (.iload_n 1, 1) := by decide +kernel
theorem dX11_bill_146 : decode cX11_bill 146 = .ok (.imul, 1) := by decide +kernel
theorem dX11_bill_147 : decode cX11_bill 147 = .ok (.iconst 1, 1) := by decide +kernel
theorem dX11_bill_148 : decode cX11_bill 148 = .ok (.iadd, 1) := by decide +kernel
theorem dX11_bill_149 : decode cX11_bill 149 = .ok (.aload_n 0, 1) := by decide +kernel
theorem dX11_bill_150 : decode cX11_bill 150 = .ok (.invokevirtual 139, 3) := by decide +kernel
theorem dX11_bill_153 : decode cX11_bill 153 = .ok (.iastore, 1) := by decide +kernel
theorem dX11_bill_154 : decode cX11_bill 154 = .ok (.aload_n 0, 1) := by decide +kernel
theorem dX11_bill_155 : decode cX11_bill 155 = .ok (.bipush 42, 2) := by decide +kernel
theorem dX11_bill_157 : decode cX11_bill 157 = .ok (.invokevirtual 133, 3) := by decide +kernel
theorem dX11_bill_160 : decode cX11_bill 160 = .ok (.aload_n 0, 1) := by decide +kernel
theorem dX11_bill_161 : decode cX11_bill 161 = .ok (.getfield 42, 3) := by decide +kernel
theorem dX11_bill_164 : decode cX11_bill 164 = .ok (.iconst 3, 1) := by decide +kernel
theorem dX11_bill_165 : decode cX11_bill 165 = .ok (.iload_n 1, 1) := by decide +kernel
theorem dX11_bill_166 : decode cX11_bill 166 = .ok (.imul, 1) := by decide +kernel
theorem dX11_bill_167 : decode cX11_bill 167 = .ok (.iconst 2, 1) := by decide +kernel
theorem dX11_bill_168 : decode cX11_bill 168 = .ok (.iadd, 1) := by decide +kernel
theorem dX11_bill_169 : decode cX11_bill 169 = .ok (.aload_n 0, 1) := by decide +kernel
theorem dX11_bill_170 : decode cX11_bill 170 = .ok (.invokevirtual 139, 3) := by decide +kernel
theorem dX11_bill_173 : decode cX11_bill 173 = .ok (.iastore, 1) := by decide +kernel
theorem dX11_bill_174 : decode cX11_bill 174 = .ok (.iinc 1 1, 3) := by decide +kernel
theorem dX11_bill_177 : decode cX11_bill 177 = .ok (.goto (-147), 3) := by decide +kernel
theorem dX11_bill_180 : decode cX11_bill 180 = .ok (.aload_n 0, 1) := by decide +kernel
theorem dX11_bill_181 : decode cX11_bill 181 = .ok (.getfield 118, 3) := by decide +kernel
theorem dX11_bill_184 : decode cX11_bill 184 = .ok (.iconst (-1), 1) := by decide +kernel
theorem dX11_bill_185 : decode cX11_bill 185 = .ok (.if_icmp .eq 10, 3) := by decide +kernel
theorem dX11_bill_188 : decode cX11_bill 188 = .ok (.iconst (-1), 1) := by decide +kernel
theorem dX11_bill_189 : decode cX11_bill 189 = .ok (.aload_n 0, 1) := by decide +kernel
theorem dX11_bill_190 : decode cX11_bill 190 = .ok (.getfield 118, 3) := by decide +kernel
theorem dX11_bill_193 : decode cX11_bill 193 = .ok (.isub, 1) := by decide +kernel
theorem dX11_bill_194 : decode cX11_bill 194 = .ok (.ireturn, 1) := by decide +kernel
theorem dX11_bill_195 : decode cX11_bill 195 = .ok (.aload_n 0, 1) := by decide +kernel
theorem dX11_bill_196 : decode cX11_bill 196 = .ok (.invokevirtual 72, 3) := by decide +kernel
theorem dX11_bill_199 : decode cX11_bill 199 = .ok (.aload_n 0, 1) := by decide +kernel
theorem dX11_bill_200 : decode cX11_bill 200 = .ok (.iload_n 1, 1) := by decide +kernel
theorem dX11_bill_201 : decode cX11_bill 201 = .ok (.putfield 75, 3) := by decide +kernel
theorem dX11_bill_204 : decode cX11_bill 204 = .ok (.iconst 0, 1) := by decide +kernel
theorem dX11_bill_205 : decode cX11_bill 205 = .ok (.istore_n 2, 1) := by decide +kernel
theorem dX11_bill_206 : decode cX11_bill 206 = .ok (.iload_n 2, 1) := by decide +kernel
theorem dX11_bill_207 : decode cX11_bill 207 = .ok (.iconst 3, 1) := by decide +kernel
theorem dX11_bill_208 : decode cX11_bill 208 = .ok (.iload_n 1, 1) := by decide +kernel
theorem dX11_bill_209 : decode cX11_bill 209 = .ok (.imul, 1) := by decide +kernel
theorem dX11_bill_210 : decode cX11_bill 210 = .ok (.if_icmp .ge 21, 3) := by decide +kernel
theorem dX11_bill_213 : decode cX11_bill 213 = .ok (.aload_n 0, 1) := by decide +kernel
theorem dX11_bill_214 : decode cX11_bill 214 = .ok (.getfield 13, 3) := by decide +kernel
theorem dX11_bill_217 : decode cX11_bill 217 = .ok (.iload_n 2, 1) := by decide +kernel
theorem dX11_bill_218 : decode cX11_bill 218 = .ok (.aload_n 0, 1) := by decide +kernel
theorem dX11_bill_219 : decode cX11_bill 219 = .ok (.getfield 42, 3) := by decide +kernel
theorem dX11_bill_222 : decode cX11_bill 222 = .ok (.iload_n 2, 1) := by decide +kernel
theorem dX11_bill_223 : decode cX11_bill 223 = .ok (.iaload, 1) := by decide +kernel
theorem dX11_bill_224 : decode cX11_bill 224 = .ok (.iastore, 1) := by decide +kernel
theorem dX11_bill_225 : decode cX11_bill 225 = .ok (.iinc 2 1, 3) := by decide +kernel
theorem dX11_bill_228 : decode cX11_bill 228 = .ok (.goto (-22), 3) := by decide +kernel
theorem dX11_bill_231 : decode cX11_bill 231 = .ok (.iload_n 1, 1) := by decide +kernel
theorem dX11_bill_232 : decode cX11_bill 232 = .ok (.ireturn, 1) := by decide +kernel
theorem dX11_mostOf_0 : decode cX11_mostOf 0 = .ok (.iload_n 0, 1) := by decide +kernel
theorem dX11_mostOf_1 : decode cX11_mostOf 1 = .ok (.tableswitch 88 0 12 #[67, 67, 88, 74, 78, 88, 88, 82, 85, 78, 88, 71, 67], 67) := by decide +kernel
theorem dX11_mostOf_68 : decode cX11_mostOf 68 = .ok (.sipush 200, 3) := by decide +kernel
theorem dX11_mostOf_71 : decode cX11_mostOf 71 = .ok (.ireturn, 1) := by decide +kernel
theorem dX11_mostOf_72 : decode cX11_mostOf 72 = .ok (.bipush 50, 2) := by decide +kernel
theorem dX11_mostOf_74 : decode cX11_mostOf 74 = .ok (.ireturn, 1) := by decide +kernel
theorem dX11_mostOf_75 : decode cX11_mostOf 75 = .ok (.sipush 300, 3) := by decide +kernel
theorem dX11_mostOf_78 : decode cX11_mostOf 78 = .ok (.ireturn, 1) := by decide +kernel
theorem dX11_mostOf_79 : decode cX11_mostOf 79 = .ok (.sipush 500, 3) := by decide +kernel
theorem dX11_mostOf_82 : decode cX11_mostOf 82 = .ok (.ireturn, 1) := by decide +kernel
theorem dX11_mostOf_83 : decode cX11_mostOf 83 = .ok (.bipush 100, 2) := by decide +kernel
theorem dX11_mostOf_85 : decode cX11_mostOf 85 = .ok (.ireturn, 1) := by decide +kernel
theorem dX11_mostOf_86 : decode cX11_mostOf 86 = .ok (.bipush 6, 2) := by decide +kernel
theorem dX11_mostOf_88 : decode cX11_mostOf 88 = .ok (.ireturn, 1) := by decide +kernel
theorem dX11_mostOf_89 : decode cX11_mostOf 89 = .ok (.sipush 1000, 3) := by decide +kernel
theorem dX11_mostOf_92 : decode cX11_mostOf 92 = .ok (.ireturn, 1) := by decide +kernel
set_option maxRecDepth 20000 in
theorem ggX11_isTerm_X11_in : GoodIn wsX11_isTerm wsX11_in := goodIn_r _ [5] rfl (by decide +kernel)
set_option maxRecDepth 20000 in
theorem gX11_isTerm_X11_in : GoodIn wsX11_isTerm (va_wsS RX11 105 yX11_in wsX11_in) := goodIn_app (goodIn_of _ (by decide +kernel)) ggX11_isTerm_X11_in
set_option maxRecDepth 20000 in
theorem ggX11_isTerm_X11_mostOf : GoodIn wsX11_isTerm wsX11_mostOf := goodIn_r _ [8] rfl (by decide +kernel)
set_option maxRecDepth 20000 in
theorem gX11_isTerm_X11_mostOf : GoodIn wsX11_isTerm (va_wsS RX11 144 yX11_mostOf wsX11_mostOf) := goodIn_app (goodIn_of _ (by decide +kernel)) ggX11_isTerm_X11_mostOf
theorem dX11_isTerm_0 : decode cX11_isTerm 0 = .ok (.iload_n 0, 1) := by decide +kernel
theorem dX11_isTerm_1 : decode cX11_isTerm 1 = .ok (.i2l, 1) := by decide +kernel
theorem dX11_isTerm_2 : decode cX11_isTerm 2 = .ok (.lconst 0, 1) := by decide +kernel
theorem dX11_isTerm_3 : decode cX11_isTerm 3 = .ok (.ldc2_w 142, 3) := by decide +kernel
theorem dX11_isTerm_6 : decode cX11_isTerm 6 = .ok (.invokestatic 105, 3) := by decide +kernel
theorem dX11_isTerm_9 : decode cX11_isTerm 9 = .ok (.ifCond .eq 21, 3) := by decide +kernel
theorem dX11_isTerm_12 : decode cX11_isTerm 12 = .ok (.iload_n 1, 1) := by decide +kernel
theorem dX11_isTerm_13 : decode cX11_isTerm 13 = .ok (.i2l, 1) := by decide +kernel
theorem dX11_isTerm_14 : decode cX11_isTerm 14 = .ok (.lconst 0, 1) := by decide +kernel
theorem dX11_isTerm_15 : decode cX11_isTerm 15 = .ok (.iload_n 0, 1) := by decide +kernel
theorem dX11_isTerm_16 : decode cX11_isTerm 16 = .ok (.invokestatic 144, 3) := by decide +kernel
theorem dX11_isTerm_19 : decode cX11_isTerm 19 = .ok (.i2l, 1) := by decide +kernel
theorem dX11_isTerm_20 : decode cX11_isTerm 20 = .ok (.invokestatic 105, 3) := by decide +kernel
theorem dX11_isTerm_23 : decode cX11_isTerm 23 = .ok (.ifCond .eq 7, 3) := by decide +kernel
theorem dX11_isTerm_26 : decode cX11_isTerm 26 = .ok (.iconst 1, 1) := by decide +kernel
theorem dX11_isTerm_27 : decode cX11_isTerm 27 = .ok (.goto 4, 3) := by decide +kernel
theorem dX11_isTerm_30 : decode cX11_isTerm 30 = .ok (.iconst 0, 1) := by decide +kernel
theorem dX11_isTerm_31 : decode cX11_isTerm 31 = .ok (.ireturn, 1) := by decide +kernel
set_option maxRecDepth 20000 in
theorem ggX11_terms_X11_isTerm : GoodIn wsX11_terms wsX11_isTerm := goodIn_r _ [6, 7, 8, 9, 5, 10, 11, 12, 13] rfl (by decide +kernel)
set_option maxRecDepth 20000 in
theorem gX11_terms_X11_isTerm : GoodIn wsX11_terms (va_wsS RX11 148 yX11_isTerm wsX11_isTerm) := goodIn_app (goodIn_of _ (by decide +kernel)) ggX11_terms_X11_isTerm
theorem dX11_terms_0 : decode cX11_terms 0 = .ok (.aload_n 0, 1) := by decide +kernel
theorem dX11_terms_1 : decode cX11_terms 1 = .ok (.iconst 0, 1) := by decide +kernel
theorem dX11_terms_2 : decode cX11_terms 2 = .ok (.putfield 97, 3) := by decide +kernel
theorem dX11_terms_5 : decode cX11_terms 5 = .ok (.iload_n 1, 1) := by decide +kernel
theorem dX11_terms_6 : decode cX11_terms 6 = .ok (.iload_n 2, 1) := by decide +kernel
theorem dX11_terms_7 : decode cX11_terms 7 = .ok (.invokestatic 148, 3) := by decide +kernel
theorem dX11_terms_10 : decode cX11_terms 10 = .ok (.ifCond .ne 5, 3) := by decide +kernel
theorem dX11_terms_13 : decode cX11_terms 13 = .ok (.iconst (-1), 1) := by decide +kernel
theorem dX11_terms_14 : decode cX11_terms 14 = .ok (.ireturn, 1) := by decide +kernel
theorem dX11_terms_15 : decode cX11_terms 15 = .ok (.aload_n 0, 1) := by decide +kernel
theorem dX11_terms_16 : decode cX11_terms 16 = .ok (.getfield 7, 3) := by decide +kernel
theorem dX11_terms_19 : decode cX11_terms 19 = .ok (.iload_n 1, 1) := by decide +kernel
theorem dX11_terms_20 : decode cX11_terms 20 = .ok (.iaload, 1) := by decide +kernel
theorem dX11_terms_21 : decode cX11_terms 21 = .ok (.istore_n 3, 1) := by decide +kernel
theorem dX11_terms_22 : decode cX11_terms 22 = .ok (.iload_n 3, 1) := by decide +kernel
theorem dX11_terms_23 : decode cX11_terms 23 = .ok (.iload_n 2, 1) := by decide +kernel
theorem dX11_terms_24 : decode cX11_terms 24 = .ok (.if_icmp .ne 6, 3) := by decide +kernel
theorem dX11_terms_27 : decode cX11_terms 27 = .ok (.bipush (-2), 2) := by decide +kernel
theorem dX11_terms_29 : decode cX11_terms 29 = .ok (.ireturn, 1) := by decide +kernel
theorem dX11_terms_30 : decode cX11_terms 30 = .ok (.aload_n 0, 1) := by decide +kernel
theorem dX11_terms_31 : decode cX11_terms 31 = .ok (.getfield 7, 3) := by decide +kernel
theorem dX11_terms_34 : decode cX11_terms 34 = .ok (.iload_n 1, 1) := by decide +kernel
theorem dX11_terms_35 : decode cX11_terms 35 = .ok (.iload_n 2, 1) := by decide +kernel
theorem dX11_terms_36 : decode cX11_terms 36 = .ok (.iastore, 1) := by decide +kernel
theorem dX11_terms_37 : decode cX11_terms 37 = .ok (.iload_n 3, 1) := by decide +kernel
theorem dX11_terms_38 : decode cX11_terms 38 = .ok (.ireturn, 1) := by decide +kernel
theorem dX11_doneOf_0 : decode cX11_doneOf 0 = .ok (.iload_n 1, 1) := by decide +kernel
theorem dX11_doneOf_1 : decode cX11_doneOf 1 = .ok (.istore_n 3, 1) := by decide +kernel
theorem dX11_doneOf_2 : decode cX11_doneOf 2 = .ok (.iload_n 3, 1) := by decide +kernel
theorem dX11_doneOf_3 : decode cX11_doneOf 3 = .ok (.ifCond .lt 38, 3) := by decide +kernel
theorem dX11_doneOf_6 : decode cX11_doneOf 6 = .ok (.aload_n 0, 1) := by decide +kernel
theorem dX11_doneOf_7 : decode cX11_doneOf 7 = .ok (.getfield 16, 3) := by decide +kernel
theorem dX11_doneOf_10 : decode cX11_doneOf 10 = .ok (.bipush 10, 2) := by decide +kernel
theorem dX11_doneOf_12 : decode cX11_doneOf 12 = .ok (.iload_n 3, 1) := by decide +kernel
theorem dX11_doneOf_13 : decode cX11_doneOf 13 = .ok (.imul, 1) := by decide +kernel
theorem dX11_doneOf_14 : decode cX11_doneOf 14 = .ok (.iload_n 2, 1) := by decide +kernel
theorem dX11_doneOf_15 : decode cX11_doneOf 15 = .ok (.iadd, 1) := by decide +kernel
theorem dX11_doneOf_16 : decode cX11_doneOf 16 = .ok (.iaload, 1) := by decide +kernel
theorem dX11_doneOf_17 : decode cX11_doneOf 17 = .ok (.sipush (-9999), 3) := by decide +kernel
theorem dX11_doneOf_20 : decode cX11_doneOf 20 = .ok (.if_icmp .eq 15, 3) := by decide +kernel
theorem dX11_doneOf_23 : decode cX11_doneOf 23 = .ok (.aload_n 0, 1) := by decide +kernel
theorem dX11_doneOf_24 : decode cX11_doneOf 24 = .ok (.getfield 16, 3) := by decide +kernel
theorem dX11_doneOf_27 : decode cX11_doneOf 27 = .ok (.bipush 10, 2) := by decide +kernel
theorem dX11_doneOf_29 : decode cX11_doneOf 29 = .ok (.iload_n 3, 1) := by decide +kernel
theorem dX11_doneOf_30 : decode cX11_doneOf 30 = .ok (.imul, 1) := by decide +kernel
theorem dX11_doneOf_31 : decode cX11_doneOf 31 = .ok (.iload_n 2, 1) := by decide +kernel
theorem dX11_doneOf_32 : decode cX11_doneOf 32 = .ok (.iadd, 1) := by decide +kernel
theorem dX11_doneOf_33 : decode cX11_doneOf 33 = .ok (.iaload, 1) := by decide +kernel
theorem dX11_doneOf_34 : decode cX11_doneOf 34 = .ok (.ireturn, 1) := by decide +kernel
theorem dX11_doneOf_35 : decode cX11_doneOf 35 = .ok (.iinc 3 (-1), 3) := by decide +kernel
theorem dX11_doneOf_38 : decode cX11_doneOf 38 = .ok (.goto (-36), 3) := by decide +kernel
theorem dX11_doneOf_41 : decode cX11_doneOf 41 = .ok (.iconst 0, 1) := by decide +kernel
theorem dX11_doneOf_42 : decode cX11_doneOf 42 = .ok (.ireturn, 1) := by decide +kernel
set_option maxRecDepth 20000 in
theorem ggX11_isMeasure_X11_isMonth : GoodIn wsX11_isMeasure wsX11_isMonth := goodIn_r _ [5, 6, 7, 8, 4, 9] rfl (by decide +kernel)
set_option maxRecDepth 20000 in
theorem gX11_isMeasure_X11_isMonth : GoodIn wsX11_isMeasure (va_wsS RX11 152 yX11_isMonth wsX11_isMonth) := goodIn_app (goodIn_of _ (by decide +kernel)) ggX11_isMeasure_X11_isMonth
set_option maxRecDepth 20000 in
theorem ggX11_isMeasure_X11_isItem : GoodIn wsX11_isMeasure wsX11_isItem := goodIn_r _ [13, 14, 7, 8, 4, 9, 15, 16, 17, 18, 19, 20, 21, 22, 23, 24, 25, 26, 27, 28, 29, 30, 31, 32, 33, 34, 35, 36, 37, 38, 39, 40, 41, 42, 43, 44, 45, 46, 47, 48, 49] rfl (by decide +kernel)
set_option maxRecDepth 20000 in
theorem gX11_isMeasure_X11_isItem : GoodIn wsX11_isMeasure (wsV RX11 156 RX11 yX11_isItem wsX11_isItem) := goodIn_app (goodIn_of _ (by decide +kernel)) ggX11_isMeasure_X11_isItem
set_option maxRecDepth 20000 in
theorem ggX11_isMeasure_X11_in : GoodIn wsX11_isMeasure wsX11_in := goodIn_r _ [9] rfl (by decide +kernel)
set_option maxRecDepth 20000 in
theorem gX11_isMeasure_X11_in : GoodIn wsX11_isMeasure (va_wsS RX11 105 yX11_in wsX11_in) := goodIn_app (goodIn_of _ (by decide +kernel)) ggX11_isMeasure_X11_in
theorem dX11_isMeasure_0 : decode cX11_isMeasure 0 = .ok (.iload_n 1, 1) := by decide +kernel
theorem dX11_isMeasure_1 : decode cX11_isMeasure 1 = .ok (.invokestatic 152, 3) := by decide +kernel
theorem dX11_isMeasure_4 : decode cX11_isMeasure 4 = .ok (.ifCond .eq 27, 3) := by decide +kernel
theorem dX11_isMeasure_7 : decode cX11_isMeasure 7 = .ok (.aload_n 0, 1) := by decide +kernel
theorem dX11_isMeasure_8 : decode cX11_isMeasure 8 = .ok (.iload_n 2, 1) := by decide +kernel
theorem dX11_isMeasure_9 : decode cX11_isMeasure 9 = .ok (.invokevirtual 156, 3) := by decide +kernel
theorem dX11_isMeasure_12 : decode cX11_isMeasure 12 = .ok (.ifCond .eq 19, 3) := by decide +kernel
theorem dX11_isMeasure_15 : decode cX11_isMeasure 15 = .ok (.iload_n 3, 1) := by decide +kernel
theorem dX11_isMeasure_16 : decode cX11_isMeasure 16 = .ok (.i2l, 1) := by decide +kernel
theorem dX11_isMeasure_17 : decode cX11_isMeasure 17 = .ok (.lconst 0, 1) := by decide +kernel
theorem dX11_isMeasure_18 : decode cX11_isMeasure 18 = .ok (.ldc2_w 159, 3) := by decide +kernel
theorem dX11_isMeasure_21 : decode cX11_isMeasure 21 = .ok (.invokestatic 105, 3) := by decide +kernel
theorem dX11_isMeasure_24 : decode cX11_isMeasure 24 = .ok (.ifCond .eq 7, 3) := by decide +kernel
theorem dX11_isMeasure_27 : decode cX11_isMeasure 27 = .ok (.iconst 1, 1) := by decide +kernel
theorem dX11_isMeasure_28 : decode cX11_isMeasure 28 = .ok (.goto 4, 3) := by decide +kernel
theorem dX11_isMeasure_31 : decode cX11_isMeasure 31 = .ok (.iconst 0, 1) := by decide +kernel
theorem dX11_isMeasure_32 : decode cX11_isMeasure 32 = .ok (.ireturn, 1) := by decide +kernel
set_option maxRecDepth 20000 in
theorem ggX11_measures_X11_isMeasure : GoodIn wsX11_measures wsX11_isMeasure := goodIn_r _ [7, 8, 9, 10, 6, 11, 12, 13, 14, 15, 16, 17, 18, 19, 20, 25, 26, 27, 28, 29, 30, 31, 32, 33, 34, 35, 36, 37, 38, 39, 40, 41, 42, 43, 44, 45, 46, 47, 48, 49, 50, 51, 52, 53, 54, 55, 56, 57, 58, 59] rfl (by decide +kernel)
set_option maxRecDepth 20000 in
theorem gX11_measures_X11_isMeasure : GoodIn wsX11_measures (wsV RX11 161 RX11 yX11_isMeasure wsX11_isMeasure) := goodIn_app (goodIn_of _ (by decide +kernel)) ggX11_measures_X11_isMeasure
set_option maxRecDepth 20000 in
theorem ggX11_measures_X11_doneOf : GoodIn wsX11_measures wsX11_doneOf := goodIn_r _ [24, 2, 25, 26, 27, 28, 29, 30, 31, 32, 33, 34, 35, 36, 37, 38, 39, 40, 41, 42, 43, 44, 45, 46, 47, 48, 49, 50, 51, 52, 53, 54, 55, 56, 57, 58, 59] rfl (by decide +kernel)
set_option maxRecDepth 20000 in
theorem gX11_measures_X11_doneOf : GoodIn wsX11_measures (wsV RX11 165 RX11 yX11_doneOf wsX11_doneOf) := goodIn_app (goodIn_of _ (by decide +kernel)) ggX11_measures_X11_doneOf
theorem dX11_measures_0 : decode cX11_measures 0 = .ok (.aload_n 0, 1) := by decide +kernel
theorem dX11_measures_1 : decode cX11_measures 1 = .ok (.iconst 0, 1) := by decide +kernel
theorem dX11_measures_2 : decode cX11_measures 2 = .ok (.putfield 97, 3) := by decide +kernel
theorem dX11_measures_5 : decode cX11_measures 5 = .ok (.aload_n 0, 1) := by decide +kernel
theorem dX11_measures_6 : decode cX11_measures 6 = .ok (.iload_n 1, 1) := by decide +kernel
theorem dX11_measures_7 : decode cX11_measures 7 = .ok (.iload_n 2, 1) := by decide +kernel
theorem dX11_measures_8 : decode cX11_measures 8 = .ok (.iload_n 3, 1) := by decide +kernel
theorem dX11_measures_9 : decode cX11_measures 9 = .ok (.invokevirtual 161, 3) := by decide +kernel
theorem dX11_measures_12 : decode cX11_measures 12 = .ok (.ifCond .ne 5, 3) := by decide +kernel
theorem dX11_measures_15 : decode cX11_measures 15 = .ok (.iconst (-1), 1) := by decide +kernel
theorem dX11_measures_16 : decode cX11_measures 16 = .ok (.ireturn, 1) := by decide +kernel
theorem dX11_measures_17 : decode cX11_measures 17 = .ok (.aload_n 0, 1) := by decide +kernel
theorem dX11_measures_18 : decode cX11_measures 18 = .ok (.getfield 16, 3) := by decide +kernel
theorem dX11_measures_21 : decode cX11_measures 21 = .ok (.bipush 10, 2) := by decide +kernel
theorem dX11_measures_23 : decode cX11_measures 23 = .ok (.iload_n 1, 1) := by decide +kernel
theorem dX11_measures_24 : decode cX11_measures 24 = .ok (.imul, 1) := by decide +kernel
theorem dX11_measures_25 : decode cX11_measures 25 = .ok (.iload_n 2, 1) := by decide +kernel
theorem dX11_measures_26 : decode cX11_measures 26 = .ok (.iadd, 1) := by decide +kernel
theorem dX11_measures_27 : decode cX11_measures 27 = .ok (.iaload, 1) := by decide +kernel
theorem dX11_measures_28 : decode cX11_measures 28 = .ok (.iload_n 3, 1) := by decide +kernel
theorem dX11_measures_29 : decode cX11_measures 29 = .ok (.if_icmp .ne 6, 3) := by decide +kernel
theorem dX11_measures_32 : decode cX11_measures 32 = .ok (.bipush (-2), 2) := by decide +kernel
theorem dX11_measures_34 : decode cX11_measures 34 = .ok (.ireturn, 1) := by decide +kernel
theorem dX11_measures_35 : decode cX11_measures 35 = .ok (.aload_n 0, 1) := by decide +kernel
theorem dX11_measures_36 : decode cX11_measures 36 = .ok (.iload_n 1, 1) := by decide +kernel
theorem dX11_measures_37 : decode cX11_measures 37 = .ok (.iload_n 2, 1) := by decide +kernel
theorem dX11_measures_38 : decode cX11_measures 38 = .ok (.invokevirtual 165, 3) := by decide +kernel
theorem dX11_measures_41 : decode cX11_measures 41 = .ok (.istore 4, 2) := by decide +kernel
theorem dX11_measures_43 : decode cX11_measures 43 = .ok (.aload_n 0, 1) := by decide +kernel
theorem dX11_measures_44 : decode cX11_measures 44 = .ok (.getfield 16, 3) := by decide +kernel
theorem dX11_measures_47 : decode cX11_measures 47 = .ok (.bipush 10, 2) := by decide +kernel
theorem dX11_measures_49 : decode cX11_measures 49 = .ok (.iload_n 1, 1) := by decide +kernel
theorem dX11_measures_50 : decode cX11_measures 50 = .ok (.imul, 1) := by decide +kernel
theorem dX11_measures_51 : decode cX11_measures 51 = .ok (.iload_n 2, 1) := by decide +kernel
theorem dX11_measures_52 : decode cX11_measures 52 = .ok (.iadd, 1) := by decide +kernel
theorem dX11_measures_53 : decode cX11_measures 53 = .ok (.iload_n 3, 1) := by decide +kernel
theorem dX11_measures_54 : decode cX11_measures 54 = .ok (.iastore, 1) := by decide +kernel
theorem dX11_measures_55 : decode cX11_measures 55 = .ok (.iload 4, 2) := by decide +kernel
theorem dX11_measures_57 : decode cX11_measures 57 = .ok (.ireturn, 1) := by decide +kernel
set_option maxRecDepth 20000 in
theorem ggX11_strikes_X11_isMonth : GoodIn wsX11_strikes wsX11_isMonth := goodIn_r _ [6, 7, 8, 9, 5, 10] rfl (by decide +kernel)
set_option maxRecDepth 20000 in
theorem gX11_strikes_X11_isMonth : GoodIn wsX11_strikes (va_wsS RX11 152 yX11_isMonth wsX11_isMonth) := goodIn_app (goodIn_of _ (by decide +kernel)) ggX11_strikes_X11_isMonth
set_option maxRecDepth 20000 in
theorem ggX11_strikes_X11_isItem : GoodIn wsX11_strikes wsX11_isItem := goodIn_r _ [14, 15, 8, 9, 5, 10, 20, 21, 22, 23, 24, 25, 26, 27, 28, 29, 30, 31, 32, 33, 34, 35, 36, 37, 38, 39, 40, 41, 42, 43, 44, 45, 46, 47, 48, 49, 50, 51, 52, 53, 54] rfl (by decide +kernel)
set_option maxRecDepth 20000 in
theorem gX11_strikes_X11_isItem : GoodIn wsX11_strikes (wsV RX11 156 RX11 yX11_isItem wsX11_isItem) := goodIn_app (goodIn_of _ (by decide +kernel)) ggX11_strikes_X11_isItem
set_option maxRecDepth 20000 in
theorem ggX11_strikes_X11_doneOf : GoodIn wsX11_strikes wsX11_doneOf := goodIn_r _ [19, 2, 20, 21, 22, 23, 24, 25, 26, 27, 28, 29, 30, 31, 32, 33, 34, 35, 36, 37, 38, 39, 40, 41, 42, 43, 44, 45, 46, 47, 48, 49, 50, 51, 52, 53, 54] rfl (by decide +kernel)
set_option maxRecDepth 20000 in
theorem gX11_strikes_X11_doneOf : GoodIn wsX11_strikes (wsV RX11 165 RX11 yX11_doneOf wsX11_doneOf) := goodIn_app (goodIn_of _ (by decide +kernel)) ggX11_strikes_X11_doneOf
theorem dX11_strikes_0 : decode cX11_strikes 0 = .ok (.aload_n 0, 1) := by decide +kernel
theorem dX11_strikes_1 : decode cX11_strikes 1 = .ok (.iconst 0, 1) := by decide +kernel
theorem dX11_strikes_2 : decode cX11_strikes 2 = .ok (.putfield 97, 3) := by decide +kernel
theorem dX11_strikes_5 : decode cX11_strikes 5 = .ok (.iload_n 1, 1) := by decide +kernel
theorem dX11_strikes_6 : decode cX11_strikes 6 = .ok (.invokestatic 152, 3) := by decide +kernel
theorem dX11_strikes_9 : decode cX11_strikes 9 = .ok (.ifCond .eq 11, 3) := by decide +kernel
theorem dX11_strikes_12 : decode cX11_strikes 12 = .ok (.aload_n 0, 1) := by decide +kernel
theorem dX11_strikes_13 : decode cX11_strikes 13 = .ok (.iload_n 2, 1) := by decide +kernel
theorem dX11_strikes_14 : decode cX11_strikes 14 = .ok (.invokevirtual 156, 3) := by decide +kernel
theorem dX11_strikes_17 : decode cX11_strikes 17 = .ok (.ifCond .ne 5, 3) := by decide +kernel
theorem dX11_strikes_20 : decode cX11_strikes 20 = .ok (.iconst (-1), 1) := by decide +kernel
theorem dX11_strikes_21 : decode cX11_strikes 21 = .ok (.ireturn, 1) := by decide +kernel
theorem dX11_strikes_22 : decode cX11_strikes 22 = .ok (.aload_n 0, 1) := by decide +kernel
theorem dX11_strikes_23 : decode cX11_strikes 23 = .ok (.getfield 16, 3) := by decide +kernel
theorem dX11_strikes_26 : decode cX11_strikes 26 = .ok (.bipush 10, 2) := by decide +kernel
theorem dX11_strikes_28 : decode cX11_strikes 28 = .ok (.iload_n 1, 1) := by decide +kernel
theorem dX11_strikes_29 : decode cX11_strikes 29 = .ok (.imul, 1) := by decide +kernel
theorem dX11_strikes_30 : decode cX11_strikes 30 = .ok (.iload_n 2, 1) := by decide +kernel
theorem dX11_strikes_31 : decode cX11_strikes 31 = .ok (.iadd, 1) := by decide +kernel
theorem dX11_strikes_32 : decode cX11_strikes 32 = .ok (.iaload, 1) := by decide +kernel
theorem dX11_strikes_33 : decode cX11_strikes 33 = .ok (.sipush (-9999), 3) := by decide +kernel
theorem dX11_strikes_36 : decode cX11_strikes 36 = .ok (.if_icmp .ne 6, 3) := by decide +kernel
theorem dX11_strikes_39 : decode cX11_strikes 39 = .ok (.bipush (-2), 2) := by decide +kernel
theorem dX11_strikes_41 : decode cX11_strikes 41 = .ok (.ireturn, 1) := by decide +kernel
theorem dX11_strikes_42 : decode cX11_strikes 42 = .ok (.aload_n 0, 1) := by decide +kernel
theorem dX11_strikes_43 : decode cX11_strikes 43 = .ok (.getfield 16, 3) := by decide +kernel
theorem dX11_strikes_46 : decode cX11_strikes 46 = .ok (.bipush 10, 2) := by decide +kernel
theorem dX11_strikes_48 : decode cX11_strikes 48 = .ok (.iload_n 1, 1) := by decide +kernel
theorem dX11_strikes_49 : decode cX11_strikes 49 = .ok (.imul, 1) := by decide +kernel
theorem dX11_strikes_50 : decode cX11_strikes 50 = .ok (.iload_n 2, 1) := by decide +kernel
theorem dX11_strikes_51 : decode cX11_strikes 51 = .ok (.iadd, 1) := by decide +kernel
theorem dX11_strikes_52 : decode cX11_strikes 52 = .ok (.sipush (-9999), 3) := by decide +kernel
theorem dX11_strikes_55 : decode cX11_strikes 55 = .ok (.iastore, 1) := by decide +kernel
theorem dX11_strikes_56 : decode cX11_strikes 56 = .ok (.aload_n 0, 1) := by decide +kernel
theorem dX11_strikes_57 : decode cX11_strikes 57 = .ok (.iload_n 1, 1) := by decide +kernel
theorem dX11_strikes_58 : decode cX11_strikes 58 = .ok (.iload_n 2, 1) := by decide +kernel
theorem dX11_strikes_59 : decode cX11_strikes 59 = .ok (.invokevirtual 165, 3) := by decide +kernel
theorem dX11_strikes_62 : decode cX11_strikes 62 = .ok (.ireturn, 1) := by decide +kernel
theorem dX11_storedIn_0 : decode cX11_storedIn 0 = .ok (.iload_n 1, 1) := by decide +kernel
theorem dX11_storedIn_1 : decode cX11_storedIn 1 = .ok (.istore_n 2, 1) := by decide +kernel
theorem dX11_storedIn_2 : decode cX11_storedIn 2 = .ok (.iload_n 2, 1) := by decide +kernel
theorem dX11_storedIn_3 : decode cX11_storedIn 3 = .ok (.ifCond .lt 28, 3) := by decide +kernel
theorem dX11_storedIn_6 : decode cX11_storedIn 6 = .ok (.aload_n 0, 1) := by decide +kernel
theorem dX11_storedIn_7 : decode cX11_storedIn 7 = .ok (.getfield 19, 3) := by decide +kernel
theorem dX11_storedIn_10 : decode cX11_storedIn 10 = .ok (.iload_n 2, 1) := by decide +kernel
theorem dX11_storedIn_11 : decode cX11_storedIn 11 = .ok (.iaload, 1) := by decide +kernel
theorem dX11_storedIn_12 : decode cX11_storedIn 12 = .ok (.sipush (-9999), 3) := by decide +kernel
theorem dX11_storedIn_15 : decode cX11_storedIn 15 = .ok (.if_icmp .eq 10, 3) := by decide +kernel
theorem dX11_storedIn_18 : decode cX11_storedIn 18 = .ok (.aload_n 0, 1) := by decide +kernel
theorem dX11_storedIn_19 : decode cX11_storedIn 19 = .ok (.getfield 19, 3) := by decide +kernel
theorem dX11_storedIn_22 : decode cX11_storedIn 22 = .ok (.iload_n 2, 1) := by decide +kernel
theorem dX11_storedIn_23 : decode cX11_storedIn 23 = .ok (.iaload, 1) := by decide +kernel
theorem dX11_storedIn_24 : decode cX11_storedIn 24 = .ok (.ireturn, 1) := by decide +kernel
theorem dX11_storedIn_25 : decode cX11_storedIn 25 = .ok (.iinc 2 (-1), 3) := by decide +kernel
theorem dX11_storedIn_28 : decode cX11_storedIn 28 = .ok (.goto (-26), 3) := by decide +kernel
theorem dX11_storedIn_31 : decode cX11_storedIn 31 = .ok (.iconst 0, 1) := by decide +kernel
theorem dX11_storedIn_32 : decode cX11_storedIn 32 = .ok (.ireturn, 1) := by decide +kernel
set_option maxRecDepth 20000 in
theorem ggX11_stores_X11_isMonth : GoodIn wsX11_stores wsX11_isMonth := goodIn_r _ [7, 8, 9, 10, 6, 11] rfl (by decide +kernel)
set_option maxRecDepth 20000 in
theorem gX11_stores_X11_isMonth : GoodIn wsX11_stores (va_wsS RX11 152 yX11_isMonth wsX11_isMonth) := goodIn_app (goodIn_of _ (by decide +kernel)) ggX11_stores_X11_isMonth
set_option maxRecDepth 20000 in
theorem ggX11_stores_X11_in : GoodIn wsX11_stores wsX11_in := goodIn_r _ [11] rfl (by decide +kernel)
set_option maxRecDepth 20000 in
theorem gX11_stores_X11_in : GoodIn wsX11_stores (va_wsS RX11 105 yX11_in wsX11_in) := goodIn_app (goodIn_of _ (by decide +kernel)) ggX11_stores_X11_in
set_option maxRecDepth 20000 in
theorem ggX11_stores_X11_storedIn : GoodIn wsX11_stores wsX11_storedIn := goodIn_r _ [15, 3, 16, 17, 18, 19, 20, 21, 22, 23, 24, 25, 26, 27, 28, 29, 30, 31, 32, 33, 34, 35, 36, 37, 38, 39, 40, 41, 42, 43, 44, 45, 46, 47, 48, 49, 50] rfl (by decide +kernel)
set_option maxRecDepth 20000 in
theorem gX11_stores_X11_storedIn : GoodIn wsX11_stores (wsV RX11 171 RX11 yX11_storedIn wsX11_storedIn) := goodIn_app (goodIn_of _ (by decide +kernel)) ggX11_stores_X11_storedIn
theorem dX11_stores_0 : decode cX11_stores 0 = .ok (.aload_n 0, 1) := by decide +kernel
theorem dX11_stores_1 : decode cX11_stores 1 = .ok (.iconst 0, 1) := by decide +kernel
theorem dX11_stores_2 : decode cX11_stores 2 = .ok (.putfield 97, 3) := by decide +kernel
theorem dX11_stores_5 : decode cX11_stores 5 = .ok (.iload_n 1, 1) := by decide +kernel
theorem dX11_stores_6 : decode cX11_stores 6 = .ok (.invokestatic 152, 3) := by decide +kernel
theorem dX11_stores_9 : decode cX11_stores 9 = .ok (.ifCond .eq 15, 3) := by decide +kernel
theorem dX11_stores_12 : decode cX11_stores 12 = .ok (.iload_n 2, 1) := by decide +kernel
theorem dX11_stores_13 : decode cX11_stores 13 = .ok (.i2l, 1) := by decide +kernel
theorem dX11_stores_14 : decode cX11_stores 14 = .ok (.lconst 0, 1) := by decide +kernel
theorem dX11_stores_15 : decode cX11_stores 15 = .ok (.ldc2_w 169, 3) := by decide +kernel
theorem dX11_stores_18 : decode cX11_stores 18 = .ok (.invokestatic 105, 3) := by decide +kernel
theorem dX11_stores_21 : decode cX11_stores 21 = .ok (.ifCond .ne 5, 3) := by decide +kernel
theorem dX11_stores_24 : decode cX11_stores 24 = .ok (.iconst (-1), 1) := by decide +kernel
theorem dX11_stores_25 : decode cX11_stores 25 = .ok (.ireturn, 1) := by decide +kernel
theorem dX11_stores_26 : decode cX11_stores 26 = .ok (.aload_n 0, 1) := by decide +kernel
theorem dX11_stores_27 : decode cX11_stores 27 = .ok (.getfield 19, 3) := by decide +kernel
theorem dX11_stores_30 : decode cX11_stores 30 = .ok (.iload_n 1, 1) := by decide +kernel
theorem dX11_stores_31 : decode cX11_stores 31 = .ok (.iaload, 1) := by decide +kernel
theorem dX11_stores_32 : decode cX11_stores 32 = .ok (.iload_n 2, 1) := by decide +kernel
theorem dX11_stores_33 : decode cX11_stores 33 = .ok (.if_icmp .ne 6, 3) := by decide +kernel
theorem dX11_stores_36 : decode cX11_stores 36 = .ok (.bipush (-2), 2) := by decide +kernel
theorem dX11_stores_38 : decode cX11_stores 38 = .ok (.ireturn, 1) := by decide +kernel
theorem dX11_stores_39 : decode cX11_stores 39 = .ok (.aload_n 0, 1) := by decide +kernel
theorem dX11_stores_40 : decode cX11_stores 40 = .ok (.iload_n 1, 1) := by decide +kernel
theorem dX11_stores_41 : decode cX11_stores 41 = .ok (.invokevirtual 171, 3) := by decide +kernel
theorem dX11_stores_44 : decode cX11_stores 44 = .ok (.istore_n 3, 1) := by decide +kernel
theorem dX11_stores_45 : decode cX11_stores 45 = .ok (.aload_n 0, 1) := by decide +kernel
theorem dX11_stores_46 : decode cX11_stores 46 = .ok (.getfield 19, 3) := by decide +kernel
theorem dX11_stores_49 : decode cX11_stores 49 = .ok (.iload_n 1, 1) := by decide +kernel
theorem dX11_stores_50 : decode cX11_stores 50 = .ok (.iload_n 2, 1) := by decide +kernel
theorem dX11_stores_51 : decode cX11_stores 51 = .ok (.iastore, 1) := by decide +kernel
theorem dX11_stores_52 : decode cX11_stores 52 = .ok (.iload_n 3, 1) := by decide +kernel
theorem dX11_stores_53 : decode cX11_stores 53 = .ok (.ireturn, 1) := by decide +kernel
set_option maxRecDepth 20000 in
theorem ggX11_isKind_X11_in : GoodIn wsX11_isKind wsX11_in := goodIn_r _ [5] rfl (by decide +kernel)
set_option maxRecDepth 20000 in
theorem gX11_isKind_X11_in : GoodIn wsX11_isKind (va_wsS RX11 105 yX11_in wsX11_in) := goodIn_app (goodIn_of _ (by decide +kernel)) ggX11_isKind_X11_in
theorem dX11_isKind_0 : decode cX11_isKind 0 = .ok (.iload_n 0, 1) := by decide +kernel
theorem dX11_isKind_1 : decode cX11_isKind 1 = .ok (.i2l, 1) := by decide +kernel
theorem dX11_isKind_2 : decode cX11_isKind 2 = .ok (.lconst 0, 1) := by decide +kernel
theorem dX11_isKind_3 : decode cX11_isKind 3 = .ok (.ldc2_w 174, 3) := by decide +kernel
theorem dX11_isKind_6 : decode cX11_isKind 6 = .ok (.invokestatic 105, 3) := by decide +kernel
theorem dX11_isKind_9 : decode cX11_isKind 9 = .ok (.ireturn, 1) := by decide +kernel
set_option maxRecDepth 20000 in
theorem ggX11_isChanged_X11_in : GoodIn wsX11_isChanged wsX11_in := goodIn_r _ [6] rfl (by decide +kernel)
set_option maxRecDepth 20000 in
theorem gX11_isChanged_X11_in : GoodIn wsX11_isChanged (va_wsS RX11 105 yX11_in wsX11_in) := goodIn_app (goodIn_of _ (by decide +kernel)) ggX11_isChanged_X11_in
theorem dX11_isChanged_0 : decode cX11_isChanged 0 = .ok (.iload_n 0, 1) := by decide +kernel
theorem dX11_isChanged_1 : decode cX11_isChanged 1 = .ok (.ifCond .eq 21, 3) := by decide +kernel
theorem dX11_isChanged_4 : decode cX11_isChanged 4 = .ok (.iload_n 0, 1) := by decide +kernel
theorem dX11_isChanged_5 : decode cX11_isChanged 5 = .ok (.i2l, 1) := by decide +kernel
theorem dX11_isChanged_6 : decode cX11_isChanged 6 = .ok (.ldc2_w 176, 3) := by decide +kernel
theorem dX11_isChanged_9 : decode cX11_isChanged 9 = .ok (.ldc2_w 178, 3) := by decide +kernel
theorem dX11_isChanged_12 : decode cX11_isChanged 12 = .ok (.invokestatic 105, 3) := by decide +kernel
theorem dX11_isChanged_15 : decode cX11_isChanged 15 = .ok (.ifCond .eq 7, 3) := by decide +kernel
theorem dX11_isChanged_18 : decode cX11_isChanged 18 = .ok (.iconst 1, 1) := by decide +kernel
theorem dX11_isChanged_19 : decode cX11_isChanged 19 = .ok (.goto 4, 3) := by decide +kernel
theorem dX11_isChanged_22 : decode cX11_isChanged 22 = .ok (.iconst 0, 1) := by decide +kernel
theorem dX11_isChanged_23 : decode cX11_isChanged 23 = .ok (.ireturn, 1) := by decide +kernel
set_option maxRecDepth 20000 in
theorem ggX11_change_X11_isMonth : GoodIn wsX11_change wsX11_isMonth := goodIn_r _ [8, 9, 10, 11, 7, 12] rfl (by decide +kernel)
set_option maxRecDepth 20000 in
theorem gX11_change_X11_isMonth : GoodIn wsX11_change (va_wsS RX11 152 yX11_isMonth wsX11_isMonth) := goodIn_app (goodIn_of _ (by decide +kernel)) ggX11_change_X11_isMonth
set_option maxRecDepth 20000 in
theorem ggX11_change_X11_isKind : GoodIn wsX11_change wsX11_isKind := goodIn_r _ [15, 16, 10, 11, 7, 12] rfl (by decide +kernel)
set_option maxRecDepth 20000 in
theorem gX11_change_X11_isKind : GoodIn wsX11_change (va_wsS RX11 180 yX11_isKind wsX11_isKind) := goodIn_app (goodIn_of _ (by decide +kernel)) ggX11_change_X11_isKind
set_option maxRecDepth 20000 in
theorem ggX11_change_X11_isChanged : GoodIn wsX11_change wsX11_isChanged := goodIn_r _ [19, 20, 2, 10, 11, 7, 12] rfl (by decide +kernel)
set_option maxRecDepth 20000 in
theorem gX11_change_X11_isChanged : GoodIn wsX11_change (va_wsS RX11 183 yX11_isChanged wsX11_isChanged) := goodIn_app (goodIn_of _ (by decide +kernel)) ggX11_change_X11_isChanged
set_option maxRecDepth 20000 in
theorem ggX11_change_X11_in : GoodIn wsX11_change wsX11_in := goodIn_r _ [12] rfl (by decide +kernel)
set_option maxRecDepth 20000 in
theorem gX11_change_X11_in : GoodIn wsX11_change (va_wsS RX11 105 yX11_in wsX11_in) := goodIn_app (goodIn_of _ (by decide +kernel)) ggX11_change_X11_in
theorem dX11_change_0 : decode cX11_change 0 = .ok (.aload_n 0, 1) := by decide +kernel
theorem dX11_change_1 : decode cX11_change 1 = .ok (.iconst 0, 1) := by decide +kernel
theorem dX11_change_2 : decode cX11_change 2 = .ok (.putfield 97, 3) := by decide +kernel
theorem dX11_change_5 : decode cX11_change 5 = .ok (.iload_n 1, 1) := by decide +kernel
theorem dX11_change_6 : decode cX11_change 6 = .ok (.invokestatic 152, 3) := by decide +kernel
theorem dX11_change_9 : decode cX11_change 9 = .ok (.ifCond .eq 30, 3) := by decide +kernel
theorem dX11_change_12 : decode cX11_change 12 = .ok (.iload_n 2, 1) := by decide +kernel
theorem dX11_change_13 : decode cX11_change 13 = .ok (.invokestatic 180, 3) := by decide +kernel
theorem dX11_change_16 : decode cX11_change 16 = .ok (.ifCond .eq 23, 3) := by decide +kernel
theorem dX11_change_19 : decode cX11_change 19 = .ok (.iload_n 3, 1) := by decide +kernel
theorem dX11_change_20 : decode cX11_change 20 = .ok (.invokestatic 183, 3) := by decide +kernel
theorem dX11_change_23 : decode cX11_change 23 = .ok (.ifCond .eq 16, 3) := by decide +kernel
theorem dX11_change_26 : decode cX11_change 26 = .ok (.iload 4, 2) := by decide +kernel
theorem dX11_change_28 : decode cX11_change 28 = .ok (.i2l, 1) := by decide +kernel
theorem dX11_change_29 : decode cX11_change 29 = .ok (.lconst 0, 1) := by decide +kernel
theorem dX11_change_30 : decode cX11_change 30 = .ok (.ldc2_w 178, 3) := by decide +kernel
theorem dX11_change_33 : decode cX11_change 33 = .ok (.invokestatic 105, 3) := by decide +kernel
theorem dX11_change_36 : decode cX11_change 36 = .ok (.ifCond .ne 5, 3) := by decide +kernel
theorem dX11_change_39 : decode cX11_change 39 = .ok (.iconst (-1), 1) := by decide +kernel
theorem dX11_change_40 : decode cX11_change 40 = .ok (.ireturn, 1) := by decide +kernel
theorem dX11_change_41 : decode cX11_change 41 = .ok (.aload_n 0, 1) := by decide +kernel
theorem dX11_change_42 : decode cX11_change 42 = .ok (.getfield 79, 3) := by decide +kernel
theorem dX11_change_45 : decode cX11_change 45 = .ok (.bipush 8, 2) := by decide +kernel
theorem dX11_change_47 : decode cX11_change 47 = .ok (.if_icmp .ne 6, 3) := by decide +kernel
theorem dX11_change_50 : decode cX11_change 50 = .ok (.bipush (-2), 2) := by decide +kernel
theorem dX11_change_52 : decode cX11_change 52 = .ok (.ireturn, 1) := by decide +kernel
theorem dX11_change_53 : decode cX11_change 53 = .ok (.iconst 4, 1) := by decide +kernel
theorem dX11_change_54 : decode cX11_change 54 = .ok (.aload_n 0, 1) := by decide +kernel
theorem dX11_change_55 : decode cX11_change 55 = .ok (.getfield 79, 3) := by decide +kernel
theorem dX11_change_58 : decode cX11_change 58 = .ok (.imul, 1) := by decide +kernel
theorem dX11_change_59 : decode cX11_change 59 = .ok (.istore 5, 2) := by decide +kernel
theorem dX11_change_61 : decode cX11_change 61 = .ok (.aload_n 0, 1) := by decide +kernel
theorem dX11_change_62 : decode cX11_change 62 = .ok (.getfield 22, 3) := by decide +kernel
theorem dX11_change_65 : decode cX11_change 65 = .ok (.iload 5, 2) := by decide +kernel
theorem dX11_change_67 : decode cX11_change 67 = .ok (.iload_n 1, 1) := by decide +kernel
theorem dX11_change_68 : decode cX11_change 68 = .ok (.iastore, 1) := by decide +kernel
theorem dX11_change_69 : decode cX11_change 69 = .ok (.aload_n 0, 1) := by decide +kernel
theorem dX11_change_70 : decode cX11_change 70 = .ok (.getfield 22, 3) := by decide +kernel
theorem dX11_change_73 : decode cX11_change 73 = .ok (.iload 5, 2) := by decide +kernel
theorem dX11_change_75 : decode cX11_change 75 = .ok (.iconst 1, 1) := by decide +kernel
theorem dX11_change_76 : decode cX11_change 76 = .ok (.iadd, 1) := by decide +kernel
theorem dX11_change_77 : decode cX11_change 77 = .ok (.iload_n 2, 1) := by decide +kernel
theorem dX11_change_78 : decode cX11_change 78 = .ok (.iastore, 1) := by decide +kernel
theorem dX11_change_79 : decode cX11_change 79 = .ok (.aload_n 0, 1) := by decide +kernel
theorem dX11_change_80 : decode cX11_change 80 = .ok (.getfield 22, 3) := by decide +kernel
theorem dX11_change_83 : decode cX11_change 83 = .ok (.iload 5, 2) := by decide +kernel
theorem dX11_change_85 : decode cX11_change 85 = .ok (.iconst 2, 1) := by decide +kernel
theorem dX11_change_86 : decode cX11_change 86 = .ok (.iadd, 1) := by decide +kernel
theorem dX11_change_87 : decode cX11_change 87 = .ok (.iload_n 3, 1) := by decide +kernel
theorem dX11_change_88 : decode cX11_change 88 = .ok (.iastore, 1) := by decide +kernel
theorem dX11_change_89 : decode cX11_change 89 = .ok (.aload_n 0, 1) := by decide +kernel
theorem dX11_change_90 : decode cX11_change 90 = .ok (.getfield 22, 3) := by decide +kernel
theorem dX11_change_93 : decode cX11_change 93 = .ok (.iload 5, 2) := by decide +kernel
theorem dX11_change_95 : decode cX11_change 95 = .ok (.iconst 3, 1) := by decide +kernel
theorem dX11_change_96 : decode cX11_change 96 = .ok (.iadd, 1) := by decide +kernel
theorem dX11_change_97 : decode cX11_change 97 = .ok (.iload 4, 2) := by decide +kernel
theorem dX11_change_99 : decode cX11_change 99 = .ok (.iastore, 1) := by decide +kernel
theorem dX11_change_100 : decode cX11_change 100 = .ok (.aload_n 0, 1) := by decide +kernel
theorem dX11_change_101 : decode cX11_change 101 = .ok (.dup, 1) := by decide +kernel
theorem dX11_change_102 : decode cX11_change 102 = .ok (.getfield 79, 3) := by decide +kernel
theorem dX11_change_105 : decode cX11_change 105 = .ok (.iconst 1, 1) := by decide +kernel
theorem dX11_change_106 : decode cX11_change 106 = .ok (.iadd, 1) := by decide +kernel
theorem dX11_change_107 : decode cX11_change 107 = .ok (.putfield 79, 3) := by decide +kernel
theorem dX11_change_110 : decode cX11_change 110 = .ok (.aload_n 0, 1) := by decide +kernel
theorem dX11_change_111 : decode cX11_change 111 = .ok (.getfield 79, 3) := by decide +kernel
theorem dX11_change_114 : decode cX11_change 114 = .ok (.iconst 1, 1) := by decide +kernel
theorem dX11_change_115 : decode cX11_change 115 = .ok (.isub, 1) := by decide +kernel
theorem dX11_change_116 : decode cX11_change 116 = .ok (.ireturn, 1) := by decide +kernel
set_option maxRecDepth 20000 in
theorem ggX11_isChange_X11_in : GoodIn wsX11_isChange wsX11_in := goodIn_r _ [5] rfl (by decide +kernel)
set_option maxRecDepth 20000 in
theorem gX11_isChange_X11_in : GoodIn wsX11_isChange (va_wsS RX11 105 yX11_in wsX11_in) := goodIn_app (goodIn_of _ (by decide +kernel)) ggX11_isChange_X11_in
theorem dX11_isChange_0 : decode cX11_isChange 0 = .ok (.iload_n 1, 1) := by decide +kernel
theorem dX11_isChange_1 : decode cX11_isChange 1 = .ok (.i2l, 1) := by decide +kernel
theorem dX11_isChange_2 : decode cX11_isChange 2 = .ok (.lconst 0, 1) := by decide +kernel
theorem dX11_isChange_3 : decode cX11_isChange 3 = .ok (.aload_n 0, 1) := by decide +kernel
theorem dX11_isChange_4 : decode cX11_isChange 4 = .ok (.getfield 79, 3) := by decide +kernel
theorem dX11_isChange_7 : decode cX11_isChange 7 = .ok (.iconst 1, 1) := by decide +kernel
theorem dX11_isChange_8 : decode cX11_isChange 8 = .ok (.isub, 1) := by decide +kernel
theorem dX11_isChange_9 : decode cX11_isChange 9 = .ok (.i2l, 1) := by decide +kernel
theorem dX11_isChange_10 : decode cX11_isChange 10 = .ok (.invokestatic 105, 3) := by decide +kernel
theorem dX11_isChange_13 : decode cX11_isChange 13 = .ok (.ireturn, 1) := by decide +kernel
set_option maxRecDepth 20000 in
theorem ggX11_alters_X11_isChange : GoodIn wsX11_alters wsX11_isChange := goodIn_r _ [7, 8, 9, 10, 6, 11, 17, 18, 19, 20, 21, 22, 23, 24, 25, 26, 27, 28, 29, 30, 31, 32, 33, 34, 35, 36, 37, 38, 39, 40, 41, 42, 43, 44, 45, 46, 47, 48, 49, 50, 51] rfl (by decide +kernel)
set_option maxRecDepth 20000 in
theorem gX11_alters_X11_isChange : GoodIn wsX11_alters (wsV RX11 186 RX11 yX11_isChange wsX11_isChange) := goodIn_app (goodIn_of _ (by decide +kernel)) ggX11_alters_X11_isChange
set_option maxRecDepth 20000 in
theorem ggX11_alters_X11_isChanged : GoodIn wsX11_alters wsX11_isChanged := goodIn_r _ [14, 15, 16, 9, 10, 6, 11] rfl (by decide +kernel)
set_option maxRecDepth 20000 in
theorem gX11_alters_X11_isChanged : GoodIn wsX11_alters (va_wsS RX11 183 yX11_isChanged wsX11_isChanged) := goodIn_app (goodIn_of _ (by decide +kernel)) ggX11_alters_X11_isChanged
theorem dX11_alters_0 : decode cX11_alters 0 = .ok (.aload_n 0, 1) := by decide +kernel
theorem dX11_alters_1 : decode cX11_alters 1 = .ok (.iconst 0, 1) := by decide +kernel
theorem dX11_alters_2 : decode cX11_alters 2 = .ok (.putfield 97, 3) := by decide +kernel
theorem dX11_alters_5 : decode cX11_alters 5 = .ok (.aload_n 0, 1) := by decide +kernel
theorem dX11_alters_6 : decode cX11_alters 6 = .ok (.iload_n 1, 1) := by decide +kernel
theorem dX11_alters_7 : decode cX11_alters 7 = .ok (.invokevirtual 186, 3) := by decide +kernel
theorem dX11_alters_10 : decode cX11_alters 10 = .ok (.ifCond .eq 10, 3) := by decide +kernel
theorem dX11_alters_13 : decode cX11_alters 13 = .ok (.iload_n 2, 1) := by decide +kernel
theorem dX11_alters_14 : decode cX11_alters 14 = .ok (.invokestatic 183, 3) := by decide +kernel
theorem dX11_alters_17 : decode cX11_alters 17 = .ok (.ifCond .ne 5, 3) := by decide +kernel
theorem dX11_alters_20 : decode cX11_alters 20 = .ok (.iconst (-1), 1) := by decide +kernel
theorem dX11_alters_21 : decode cX11_alters 21 = .ok (.ireturn, 1) := by decide +kernel
theorem dX11_alters_22 : decode cX11_alters 22 = .ok (.aload_n 0, 1) := by decide +kernel
theorem dX11_alters_23 : decode cX11_alters 23 = .ok (.getfield 22, 3) := by decide +kernel
theorem dX11_alters_26 : decode cX11_alters 26 = .ok (.iconst 4, 1) := by decide +kernel
theorem dX11_alters_27 : decode cX11_alters 27 = .ok (.iload_n 1, 1) := by decide +kernel
theorem dX11_alters_28 : decode cX11_alters 28 = .ok (.imul, 1) := by decide +kernel
theorem dX11_alters_29 : decode cX11_alters 29 = .ok (.iconst 2, 1) := by decide +kernel
theorem dX11_alters_30 : decode cX11_alters 30 = .ok (.iadd, 1) := by decide +kernel
theorem dX11_alters_31 : decode cX11_alters 31 = .ok (.iaload, 1) := by decide +kernel
theorem dX11_alters_32 : decode cX11_alters 32 = .ok (.istore_n 3, 1) := by decide +kernel
theorem dX11_alters_33 : decode cX11_alters 33 = .ok (.iload_n 3, 1) := by decide +kernel
theorem dX11_alters_34 : decode cX11_alters 34 = .ok (.iload_n 2, 1) := by decide +kernel
theorem dX11_alters_35 : decode cX11_alters 35 = .ok (.if_icmp .ne 6, 3) := by decide +kernel
theorem dX11_alters_38 : decode cX11_alters 38 = .ok (.bipush (-2), 2) := by decide +kernel
theorem dX11_alters_40 : decode cX11_alters 40 = .ok (.ireturn, 1) := by decide +kernel
theorem dX11_alters_41 : decode cX11_alters 41 = .ok (.aload_n 0, 1) := by decide +kernel
theorem dX11_alters_42 : decode cX11_alters 42 = .ok (.getfield 22, 3) := by decide +kernel
theorem dX11_alters_45 : decode cX11_alters 45 = .ok (.iconst 4, 1) := by decide +kernel
theorem dX11_alters_46 : decode cX11_alters 46 = .ok (.iload_n 1, 1) := by decide +kernel
theorem dX11_alters_47 : decode cX11_alters 47 = .ok (.imul, 1) := by decide +kernel
theorem dX11_alters_48 : decode cX11_alters 48 = .ok (.iconst 2, 1) := by decide +kernel
theorem dX11_alters_49 : decode cX11_alters 49 = .ok (.iadd, 1) := by decide +kernel
theorem dX11_alters_50 : decode cX11_alters 50 = .ok (.iload_n 2, 1) := by decide +kernel
theorem dX11_alters_51 : decode cX11_alters 51 = .ok (.iastore, 1) := by decide +kernel
theorem dX11_alters_52 : decode cX11_alters 52 = .ok (.iload_n 3, 1) := by decide +kernel
theorem dX11_alters_53 : decode cX11_alters 53 = .ok (.ireturn, 1) := by decide +kernel
set_option maxRecDepth 20000 in
theorem ggX11_setsOff_X11_isMonth : GoodIn wsX11_setsOff wsX11_isMonth := goodIn_r _ [8, 9, 10, 11, 7, 12] rfl (by decide +kernel)
set_option maxRecDepth 20000 in
theorem gX11_setsOff_X11_isMonth : GoodIn wsX11_setsOff (va_wsS RX11 152 yX11_isMonth wsX11_isMonth) := goodIn_app (goodIn_of _ (by decide +kernel)) ggX11_setsOff_X11_isMonth
set_option maxRecDepth 20000 in
theorem ggX11_setsOff_X11_in : GoodIn wsX11_setsOff wsX11_in := goodIn_r _ [12] rfl (by decide +kernel)
set_option maxRecDepth 20000 in
theorem gX11_setsOff_X11_in : GoodIn wsX11_setsOff (va_wsS RX11 105 yX11_in wsX11_in) := goodIn_app (goodIn_of _ (by decide +kernel)) ggX11_setsOff_X11_in
theorem dX11_setsOff_0 : decode cX11_setsOff 0 = .ok (.aload_n 0, 1) := by decide +kernel
theorem dX11_setsOff_1 : decode cX11_setsOff 1 = .ok (.iconst 0, 1) := by decide +kernel
theorem dX11_setsOff_2 : decode cX11_setsOff 2 = .ok (.putfield 97, 3) := by decide +kernel
theorem dX11_setsOff_5 : decode cX11_setsOff 5 = .ok (.iload_n 1, 1) := by decide +kernel
theorem dX11_setsOff_6 : decode cX11_setsOff 6 = .ok (.invokestatic 152, 3) := by decide +kernel
theorem dX11_setsOff_9 : decode cX11_setsOff 9 = .ok (.ifCond .eq 15, 3) := by decide +kernel
theorem dX11_setsOff_12 : decode cX11_setsOff 12 = .ok (.iload_n 2, 1) := by decide +kernel
theorem dX11_setsOff_13 : decode cX11_setsOff 13 = .ok (.i2l, 1) := by decide +kernel
theorem dX11_setsOff_14 : decode cX11_setsOff 14 = .ok (.lconst 1, 1) := by decide +kernel
theorem dX11_setsOff_15 : decode cX11_setsOff 15 = .ok (.ldc2_w 169, 3) := by decide +kernel
theorem dX11_setsOff_18 : decode cX11_setsOff 18 = .ok (.invokestatic 105, 3) := by decide +kernel
theorem dX11_setsOff_21 : decode cX11_setsOff 21 = .ok (.ifCond .ne 5, 3) := by decide +kernel
theorem dX11_setsOff_24 : decode cX11_setsOff 24 = .ok (.iconst (-1), 1) := by decide +kernel
theorem dX11_setsOff_25 : decode cX11_setsOff 25 = .ok (.ireturn, 1) := by decide +kernel
theorem dX11_setsOff_26 : decode cX11_setsOff 26 = .ok (.aload_n 0, 1) := by decide +kernel
theorem dX11_setsOff_27 : decode cX11_setsOff 27 = .ok (.getfield 82, 3) := by decide +kernel
theorem dX11_setsOff_30 : decode cX11_setsOff 30 = .ok (.bipush 6, 2) := by decide +kernel
theorem dX11_setsOff_32 : decode cX11_setsOff 32 = .ok (.if_icmp .ne 6, 3) := by decide +kernel
theorem dX11_setsOff_35 : decode cX11_setsOff 35 = .ok (.bipush (-2), 2) := by decide +kernel
theorem dX11_setsOff_37 : decode cX11_setsOff 37 = .ok (.ireturn, 1) := by decide +kernel
theorem dX11_setsOff_38 : decode cX11_setsOff 38 = .ok (.iconst 5, 1) := by decide +kernel
theorem dX11_setsOff_39 : decode cX11_setsOff 39 = .ok (.aload_n 0, 1) := by decide +kernel
theorem dX11_setsOff_40 : decode cX11_setsOff 40 = .ok (.getfield 82, 3) := by decide +kernel
theorem dX11_setsOff_43 : decode cX11_setsOff 43 = .ok (.imul, 1) := by decide +kernel
theorem dX11_setsOff_44 : decode cX11_setsOff 44 = .ok (.istore_n 3, 1) := by decide +kernel
theorem dX11_setsOff_45 : decode cX11_setsOff 45 = .ok (.aload_n 0, 1) := by decide +kernel
theorem dX11_setsOff_46 : decode cX11_setsOff 46 = .ok (.getfield 25, 3) := by decide +kernel
theorem dX11_setsOff_49 : decode cX11_setsOff 49 = .ok (.iload_n 3, 1) := by decide +kernel
theorem dX11_setsOff_50 : decode cX11_setsOff 50 = .ok (.iload_n 1, 1) := by decide +kernel
theorem dX11_setsOff_51 : decode cX11_setsOff 51 = .ok (.iastore, 1) := by decide +kernel
theorem dX11_setsOff_52 : decode cX11_setsOff 52 = .ok (.aload_n 0, 1) := by decide +kernel
theorem dX11_setsOff_53 : decode cX11_setsOff 53 = .ok (.getfield 25, 3) := by decide +kernel
theorem dX11_setsOff_56 : decode cX11_setsOff 56 = .ok (.iload_n 3, 1) := by decide +kernel
theorem dX11_setsOff_57 : decode cX11_setsOff 57 = .ok (.iconst 1, 1) := by decide +kernel
theorem dX11_setsOff_58 : decode cX11_setsOff 58 = .ok (.iadd, 1) := by decide +kernel
theorem dX11_setsOff_59 : decode cX11_setsOff 59 = .ok (.iload_n 2, 1) := by decide +kernel
theorem dX11_setsOff_60 : decode cX11_setsOff 60 = .ok (.iastore, 1) := by decide +kernel
theorem dX11_setsOff_61 : decode cX11_setsOff 61 = .ok (.aload_n 0, 1) := by decide +kernel
theorem dX11_setsOff_62 : decode cX11_setsOff 62 = .ok (.getfield 25, 3) := by decide +kernel
theorem dX11_setsOff_65 : decode cX11_setsOff 65 = .ok (.iload_n 3, 1) := by decide +kernel
theorem dX11_setsOff_66 : decode cX11_setsOff 66 = .ok (.iconst 2, 1) := by decide +kernel
theorem dX11_setsOff_67 : decode cX11_setsOff 67 = .ok (.iadd, 1) := by decide +kernel
theorem dX11_setsOff_68 : decode cX11_setsOff 68 = .ok (.bipush 24, 2) := by decide +kernel
theorem dX11_setsOff_70 : decode cX11_setsOff 70 = .ok (.iastore, 1) := by decide +kernel
theorem dX11_setsOff_71 : decode cX11_setsOff 71 = .ok (.aload_n 0, 1) := by decide +kernel
theorem dX11_setsOff_72 : decode cX11_setsOff 72 = .ok (.getfield 25, 3) := by decide +kernel
theorem dX11_setsOff_75 : decode cX11_setsOff 75 = .ok (.iload_n 3, 1) := by decide +kernel
theorem dX11_setsOff_76 : decode cX11_setsOff 76 = .ok (.iconst 3, 1) := by decide +kernel
theorem dX11_setsOff_77 : decode cX11_setsOff 77 = .ok (.iadd, 1) := by decide +kernel
theorem dX11_setsOff_78 : decode cX11_setsOff 78 = .ok (.bipush 24, 2) := by decide +kernel
theorem dX11_setsOff_80 : decode cX11_setsOff 80 = .ok (.iastore, 1) := by decide +kernel
theorem dX11_setsOff_81 : decode cX11_setsOff 81 = .ok (.aload_n 0, 1) := by decide +kernel
theorem dX11_setsOff_82 : decode cX11_setsOff 82 = .ok (.getfield 25, 3) := by decide +kernel
theorem dX11_setsOff_85 : decode cX11_setsOff 85 = .ok (.iload_n 3, 1) := by decide +kernel
theorem dX11_setsOff_86 : decode cX11_setsOff 86 = .ok (.iconst 4, 1) := by decide +kernel
theorem dX11_setsOff_87 : decode cX11_setsOff 87 = .ok (.iadd, 1) := by decide +kernel
theorem dX11_setsOff_88 : decode cX11_setsOff 88 = .ok (.iconst 0, 1) := by decide +kernel
theorem dX11_setsOff_89 : decode cX11_setsOff 89 = .ok (.iastore, 1) := by decide +kernel
theorem dX11_setsOff_90 : decode cX11_setsOff 90 = .ok (.aload_n 0, 1) := by decide +kernel
theorem dX11_setsOff_91 : decode cX11_setsOff 91 = .ok (.dup, 1) := by decide +kernel
theorem dX11_setsOff_92 : decode cX11_setsOff 92 = .ok (.getfield 82, 3) := by decide +kernel
theorem dX11_setsOff_95 : decode cX11_setsOff 95 = .ok (.iconst 1, 1) := by decide +kernel
theorem dX11_setsOff_96 : decode cX11_setsOff 96 = .ok (.iadd, 1) := by decide +kernel
theorem dX11_setsOff_97 : decode cX11_setsOff 97 = .ok (.putfield 82, 3) := by decide +kernel
theorem dX11_setsOff_100 : decode cX11_setsOff 100 = .ok (.aload_n 0, 1) := by decide +kernel
theorem dX11_setsOff_101 : decode cX11_setsOff 101 = .ok (.getfield 82, 3) := by decide +kernel
theorem dX11_setsOff_104 : decode cX11_setsOff 104 = .ok (.iconst 1, 1) := by decide +kernel
theorem dX11_setsOff_105 : decode cX11_setsOff 105 = .ok (.isub, 1) := by decide +kernel
theorem dX11_setsOff_106 : decode cX11_setsOff 106 = .ok (.ireturn, 1) := by decide +kernel
set_option maxRecDepth 20000 in
theorem ggX11_isSet_X11_in : GoodIn wsX11_isSet wsX11_in := goodIn_r _ [5] rfl (by decide +kernel)
set_option maxRecDepth 20000 in
theorem gX11_isSet_X11_in : GoodIn wsX11_isSet (va_wsS RX11 105 yX11_in wsX11_in) := goodIn_app (goodIn_of _ (by decide +kernel)) ggX11_isSet_X11_in
theorem dX11_isSet_0 : decode cX11_isSet 0 = .ok (.iload_n 1, 1) := by decide +kernel
theorem dX11_isSet_1 : decode cX11_isSet 1 = .ok (.i2l, 1) := by decide +kernel
theorem dX11_isSet_2 : decode cX11_isSet 2 = .ok (.lconst 0, 1) := by decide +kernel
theorem dX11_isSet_3 : decode cX11_isSet 3 = .ok (.aload_n 0, 1) := by decide +kernel
theorem dX11_isSet_4 : decode cX11_isSet 4 = .ok (.getfield 82, 3) := by decide +kernel
theorem dX11_isSet_7 : decode cX11_isSet 7 = .ok (.iconst 1, 1) := by decide +kernel
theorem dX11_isSet_8 : decode cX11_isSet 8 = .ok (.isub, 1) := by decide +kernel
theorem dX11_isSet_9 : decode cX11_isSet 9 = .ok (.i2l, 1) := by decide +kernel
theorem dX11_isSet_10 : decode cX11_isSet 10 = .ok (.invokestatic 105, 3) := by decide +kernel
theorem dX11_isSet_13 : decode cX11_isSet 13 = .ok (.ireturn, 1) := by decide +kernel
theorem dX11_openDisputes_0 : decode cX11_openDisputes 0 = .ok (.iconst 0, 1) := by decide +kernel
theorem dX11_openDisputes_1 : decode cX11_openDisputes 1 = .ok (.istore_n 1, 1) := by decide +kernel
theorem dX11_openDisputes_2 : decode cX11_openDisputes 2 = .ok (.iconst 0, 1) := by decide +kernel
theorem dX11_openDisputes_3 : decode cX11_openDisputes 3 = .ok (.istore_n 2, 1) := by decide +kernel
theorem dX11_openDisputes_4 : decode cX11_openDisputes 4 = .ok (.iload_n 2, 1) := by decide +kernel
theorem dX11_openDisputes_5 : decode cX11_openDisputes 5 = .ok (.aload_n 0, 1) := by decide +kernel
theorem dX11_openDisputes_6 : decode cX11_openDisputes 6 = .ok (.getfield 82, 3) := by decide +kernel
theorem dX11_openDisputes_9 : decode cX11_openDisputes 9 = .ok (.if_icmp .ge 47, 3) := by decide +kernel
theorem dX11_openDisputes_12 : decode cX11_openDisputes 12 = .ok (.iload_n 1, 1) := by decide +kernel
theorem dX11_openDisputes_13 : decode cX11_openDisputes 13 = .ok (.aload_n 0, 1) := by decide +kernel
theorem dX11_openDisputes_14 : decode cX11_openDisputes 14 = .ok (.getfield 25, 3) := by decide +kernel
theorem dX11_openDisputes_17 : decode cX11_openDisputes 17 = .ok (.iconst 5, 1) := by decide +kernel
theorem dX11_openDisputes_18 : decode cX11_openDisputes 18 = .ok (.iload_n 2, 1) := by decide +kernel
theorem dX11_openDisputes_19 : decode cX11_openDisputes 19 = .ok (.imul, 1) := by decide +kernel
theorem dX11_openDisputes_20 : decode cX11_openDisputes 20 = .ok (.iconst 2, 1) := by decide +kernel
theorem dX11_openDisputes_21 : decode cX11_openDisputes 21 = .ok (.iadd, 1) := by decide +kernel
theorem dX11_openDisputes_22 : decode cX11_openDisputes 22 = .ok (.iaload, 1) := by decide +kernel
theorem dX11_openDisputes_23 : decode cX11_openDisputes 23 = .ok (.bipush 24, 2) := by decide +kernel
theorem dX11_openDisputes_25 : decode cX11_openDisputes 25 = .ok (.if_icmp .ge 22, 3) := by decide +kernel
theorem dX11_openDisputes_28 : decode cX11_openDisputes 28 = .ok (.aload_n 0, 1) := by decide +kernel
theorem dX11_openDisputes_29 : decode cX11_openDisputes 29 = .ok (.getfield 25, 3) := by decide +kernel
theorem dX11_openDisputes_32 : decode cX11_openDisputes 32 = .ok (.iconst 5, 1) := by decide +kernel
theorem dX11_openDisputes_33 : decode cX11_openDisputes 33 = .ok (.iload_n 2, 1) := by decide +kernel
theorem dX11_openDisputes_34 : decode cX11_openDisputes 34 = .ok (.imul, 1) := by decide +kernel
theorem dX11_openDisputes_35 : decode cX11_openDisputes 35 = .ok (.iconst 3, 1) := by decide +kernel
theorem dX11_openDisputes_36 : decode cX11_openDisputes 36 = .ok (.iadd, 1) := by decide +kernel
theorem dX11_openDisputes_37 : decode cX11_openDisputes 37 = .ok (.iaload, 1) := by decide +kernel
theorem dX11_openDisputes_38 : decode cX11_openDisputes 38 = .ok (.bipush 24, 2) := by decide +kernel
theorem dX11_openDisputes_40 : decode cX11_openDisputes 40 = .ok (.if_icmp .ne 7, 3) := by decide +kernel
theorem dX11_openDisputes_43 : decode cX11_openDisputes 43 = .ok (.iconst 1, 1) := by decide +kernel
theorem dX11_openDisputes_44 : decode cX11_openDisputes 44 = .ok (.goto 4, 3) := by decide +kernel
theorem dX11_openDisputes_47 : decode cX11_openDisputes 47 = .ok (.iconst 0, 1) := by decide +kernel
theorem dX11_openDisputes_48 : decode cX11_openDisputes 48 = .ok (.iadd, 1) := by decide +kernel
theorem dX11_openDisputes_49 : decode cX11_openDisputes 49 = .ok (.istore_n 1, 1) := by decide +kernel
theorem dX11_openDisputes_50 : decode cX11_openDisputes 50 = .ok (.iinc 2 1, 3) := by decide +kernel
theorem dX11_openDisputes_53 : decode cX11_openDisputes 53 = .ok (.goto (-49), 3) := by decide +kernel
theorem dX11_openDisputes_56 : decode cX11_openDisputes 56 = .ok (.iload_n 1, 1) := by decide +kernel
theorem dX11_openDisputes_57 : decode cX11_openDisputes 57 = .ok (.ireturn, 1) := by decide +kernel
set_option maxRecDepth 20000 in
theorem ggX11_disputes_X11_isSet : GoodIn wsX11_disputes wsX11_isSet := goodIn_r _ [7, 8, 9, 10, 6, 11, 20, 21, 22, 23, 24, 25, 26, 27, 28, 29, 30, 31, 32, 33, 34, 35, 36, 37, 38, 39, 40, 41, 42, 43, 44, 45, 46, 47, 48, 49, 50, 51, 52, 53, 54] rfl (by decide +kernel)
set_option maxRecDepth 20000 in
theorem gX11_disputes_X11_isSet : GoodIn wsX11_disputes (wsV RX11 189 RX11 yX11_isSet wsX11_isSet) := goodIn_app (goodIn_of _ (by decide +kernel)) ggX11_disputes_X11_isSet
set_option maxRecDepth 20000 in
theorem ggX11_disputes_X11_isMonth : GoodIn wsX11_disputes wsX11_isMonth := goodIn_r _ [14, 15, 9, 10, 6, 11] rfl (by decide +kernel)
set_option maxRecDepth 20000 in
theorem gX11_disputes_X11_isMonth : GoodIn wsX11_disputes (va_wsS RX11 152 yX11_isMonth wsX11_isMonth) := goodIn_app (goodIn_of _ (by decide +kernel)) ggX11_disputes_X11_isMonth
set_option maxRecDepth 20000 in
theorem ggX11_disputes_X11_openDisputes : GoodIn wsX11_disputes wsX11_openDisputes := goodIn_r _ [19, 8, 2, 20, 21, 22, 23, 24, 25, 26, 27, 28, 29, 30, 31, 32, 33, 34, 35, 36, 37, 38, 39, 40, 41, 42, 43, 44, 45, 46, 47, 48, 49, 50, 51, 52, 53, 54] rfl (by decide +kernel)
set_option maxRecDepth 20000 in
theorem gX11_disputes_X11_openDisputes : GoodIn wsX11_disputes (wsV RX11 192 RX11 yX11_openDisputes wsX11_openDisputes) := goodIn_app (goodIn_of _ (by decide +kernel)) ggX11_disputes_X11_openDisputes
theorem dX11_disputes_0 : decode cX11_disputes 0 = .ok (.aload_n 0, 1) := by decide +kernel
theorem dX11_disputes_1 : decode cX11_disputes 1 = .ok (.iconst 0, 1) := by decide +kernel
theorem dX11_disputes_2 : decode cX11_disputes 2 = .ok (.putfield 97, 3) := by decide +kernel
theorem dX11_disputes_5 : decode cX11_disputes 5 = .ok (.aload_n 0, 1) := by decide +kernel
theorem dX11_disputes_6 : decode cX11_disputes 6 = .ok (.iload_n 1, 1) := by decide +kernel
theorem dX11_disputes_7 : decode cX11_disputes 7 = .ok (.invokevirtual 189, 3) := by decide +kernel
theorem dX11_disputes_10 : decode cX11_disputes 10 = .ok (.ifCond .eq 22, 3) := by decide +kernel
theorem dX11_disputes_13 : decode cX11_disputes 13 = .ok (.iload_n 2, 1) := by decide +kernel
theorem dX11_disputes_14 : decode cX11_disputes 14 = .ok (.invokestatic 152, 3) := by decide +kernel
theorem dX11_disputes_17 : decode cX11_disputes 17 = .ok (.ifCond .eq 15, 3) := by decide +kernel
theorem dX11_disputes_20 : decode cX11_disputes 20 = .ok (.iload_n 2, 1) := by decide +kernel
theorem dX11_disputes_21 : decode cX11_disputes 21 = .ok (.aload_n 0, 1) := by decide +kernel
theorem dX11_disputes_22 : decode cX11_disputes 22 = .ok (.getfield 25, 3) := by decide +kernel
theorem dX11_disputes_25 : decode cX11_disputes 25 = .ok (.iconst 5, 1) := by decide +kernel
theorem dX11_disputes_26 : decode cX11_disputes 26 = .ok (.iload_n 1, 1) := by decide +kernel
theorem dX11_disputes_27 : decode cX11_disputes 27 = .ok (.imul, 1) := by decide +kernel
theorem dX11_disputes_28 : decode cX11_disputes 28 = .ok (.iaload, 1) := by decide +kernel
theorem dX11_disputes_29 : decode cX11_disputes 29 = .ok (.if_icmp .ge 5, 3) := by decide +kernel
theorem dX11_disputes_32 : decode cX11_disputes 32 = .ok (.iconst (-1), 1) := by decide +kernel
theorem dX11_disputes_33 : decode cX11_disputes 33 = .ok (.ireturn, 1) := by decide +kernel
theorem dX11_disputes_34 : decode cX11_disputes 34 = .ok (.aload_n 0, 1) := by decide +kernel
theorem dX11_disputes_35 : decode cX11_disputes 35 = .ok (.getfield 25, 3) := by decide +kernel
theorem dX11_disputes_38 : decode cX11_disputes 38 = .ok (.iconst 5, 1) := by decide +kernel
theorem dX11_disputes_39 : decode cX11_disputes 39 = .ok (.iload_n 1, 1) := by decide +kernel
theorem dX11_disputes_40 : decode cX11_disputes 40 = .ok (.imul, 1) := by decide +kernel
theorem dX11_disputes_41 : decode cX11_disputes 41 = .ok (.iconst 2, 1) := by decide +kernel
theorem dX11_disputes_42 : decode cX11_disputes 42 = .ok (.iadd, 1) := by decide +kernel
theorem dX11_disputes_43 : decode cX11_disputes 43 = .ok (.iaload, 1) := by decide +kernel
theorem dX11_disputes_44 : decode cX11_disputes 44 = .ok (.bipush 24, 2) := by decide +kernel
theorem dX11_disputes_46 : decode cX11_disputes 46 = .ok (.if_icmp .ge 6, 3) := by decide +kernel
theorem dX11_disputes_49 : decode cX11_disputes 49 = .ok (.bipush (-2), 2) := by decide +kernel
theorem dX11_disputes_51 : decode cX11_disputes 51 = .ok (.ireturn, 1) := by decide +kernel
theorem dX11_disputes_52 : decode cX11_disputes 52 = .ok (.aload_n 0, 1) := by decide +kernel
theorem dX11_disputes_53 : decode cX11_disputes 53 = .ok (.getfield 25, 3) := by decide +kernel
theorem dX11_disputes_56 : decode cX11_disputes 56 = .ok (.iconst 5, 1) := by decide +kernel
theorem dX11_disputes_57 : decode cX11_disputes 57 = .ok (.iload_n 1, 1) := by decide +kernel
theorem dX11_disputes_58 : decode cX11_disputes 58 = .ok (.imul, 1) := by decide +kernel
theorem dX11_disputes_59 : decode cX11_disputes 59 = .ok (.iconst 2, 1) := by decide +kernel
theorem dX11_disputes_60 : decode cX11_disputes 60 = .ok (.iadd, 1) := by decide +kernel
theorem dX11_disputes_61 : decode cX11_disputes 61 = .ok (.iload_n 2, 1) := by decide +kernel
theorem dX11_disputes_62 : decode cX11_disputes 62 = .ok (.iastore, 1) := by decide +kernel
theorem dX11_disputes_63 : decode cX11_disputes 63 = .ok (.aload_n 0, 1) := by decide +kernel
theorem dX11_disputes_64 : decode cX11_disputes 64 = .ok (.invokevirtual 192, 3) := by decide +kernel
theorem dX11_disputes_67 : decode cX11_disputes 67 = .ok (.ireturn, 1) := by decide +kernel
set_option maxRecDepth 20000 in
theorem ggX11_decides_X11_isSet : GoodIn wsX11_decides wsX11_isSet := goodIn_r _ [8, 9, 10, 11, 7, 12, 24, 25, 26, 27, 28, 29, 30, 31, 32, 33, 34, 35, 36, 37, 38, 39, 40, 41, 42, 43, 44, 45, 46, 47, 48, 49, 50, 51, 52, 53, 54, 55, 56, 57, 58] rfl (by decide +kernel)
set_option maxRecDepth 20000 in
theorem gX11_decides_X11_isSet : GoodIn wsX11_decides (wsV RX11 189 RX11 yX11_isSet wsX11_isSet) := goodIn_app (goodIn_of _ (by decide +kernel)) ggX11_decides_X11_isSet
set_option maxRecDepth 20000 in
theorem ggX11_decides_X11_isMonth : GoodIn wsX11_decides wsX11_isMonth := goodIn_r _ [15, 16, 10, 11, 7, 12] rfl (by decide +kernel)
set_option maxRecDepth 20000 in
theorem gX11_decides_X11_isMonth : GoodIn wsX11_decides (va_wsS RX11 152 yX11_isMonth wsX11_isMonth) := goodIn_app (goodIn_of _ (by decide +kernel)) ggX11_decides_X11_isMonth
set_option maxRecDepth 20000 in
theorem ggX11_decides_X11_in : GoodIn wsX11_decides wsX11_in := goodIn_r _ [12] rfl (by decide +kernel)
set_option maxRecDepth 20000 in
theorem gX11_decides_X11_in : GoodIn wsX11_decides (va_wsS RX11 105 yX11_in wsX11_in) := goodIn_app (goodIn_of _ (by decide +kernel)) ggX11_decides_X11_in
set_option maxRecDepth 20000 in
theorem ggX11_decides_X11_heldOf : GoodIn wsX11_decides wsX11_heldOf := goodIn_r _ [20, 3, 21, 22, 7, 23, 2, 24, 25, 26, 27, 28, 29, 30, 31, 32, 33, 34, 35, 36, 37, 38, 39, 40, 41, 42, 43, 44, 45, 46, 47, 48, 49, 50, 51, 52, 53, 54, 55, 56, 57, 58] rfl (by decide +kernel)
set_option maxRecDepth 20000 in
theorem gX11_decides_X11_heldOf : GoodIn wsX11_decides (wsV RX11 197 RX11 yX11_heldOf wsX11_heldOf) := goodIn_app (goodIn_of _ (by decide +kernel)) ggX11_decides_X11_heldOf
theorem dX11_decides_0 : decode cX11_decides 0 = .ok (.aload_n 0, 1) := by decide +kernel
theorem dX11_decides_1 : decode cX11_decides 1 = .ok (.iconst 0, 1) := by decide +kernel
theorem dX11_decides_2 : decode cX11_decides 2 = .ok (.putfield 97, 3) := by decide +kernel
theorem dX11_decides_5 : decode cX11_decides 5 = .ok (.aload_n 0, 1) := by decide +kernel
theorem dX11_decides_6 : decode cX11_decides 6 = .ok (.iload_n 1, 1) := by decide +kernel
theorem dX11_decides_7 : decode cX11_decides 7 = .ok (.invokevirtual 189, 3) := by decide +kernel
theorem dX11_decides_10 : decode cX11_decides 10 = .ok (.ifCond .eq 22, 3) := by decide +kernel
theorem dX11_decides_13 : decode cX11_decides 13 = .ok (.iload_n 2, 1) := by decide +kernel
theorem dX11_decides_14 : decode cX11_decides 14 = .ok (.invokestatic 152, 3) := by decide +kernel
theorem dX11_decides_17 : decode cX11_decides 17 = .ok (.ifCond .eq 15, 3) := by decide +kernel
theorem dX11_decides_20 : decode cX11_decides 20 = .ok (.iload_n 3, 1) := by decide +kernel
theorem dX11_decides_21 : decode cX11_decides 21 = .ok (.i2l, 1) := by decide +kernel
theorem dX11_decides_22 : decode cX11_decides 22 = .ok (.lconst 0, 1) := by decide +kernel
theorem dX11_decides_23 : decode cX11_decides 23 = .ok (.ldc2_w 195, 3) := by decide +kernel
theorem dX11_decides_26 : decode cX11_decides 26 = .ok (.invokestatic 105, 3) := by decide +kernel
theorem dX11_decides_29 : decode cX11_decides 29 = .ok (.ifCond .ne 5, 3) := by decide +kernel
theorem dX11_decides_32 : decode cX11_decides 32 = .ok (.iconst (-1), 1) := by decide +kernel
theorem dX11_decides_33 : decode cX11_decides 33 = .ok (.ireturn, 1) := by decide +kernel
theorem dX11_decides_34 : decode cX11_decides 34 = .ok (.aload_n 0, 1) := by decide +kernel
theorem dX11_decides_35 : decode cX11_decides 35 = .ok (.getfield 25, 3) := by decide +kernel
theorem dX11_decides_38 : decode cX11_decides 38 = .ok (.iconst 5, 1) := by decide +kernel
theorem dX11_decides_39 : decode cX11_decides 39 = .ok (.iload_n 1, 1) := by decide +kernel
theorem dX11_decides_40 : decode cX11_decides 40 = .ok (.imul, 1) := by decide +kernel
theorem dX11_decides_41 : decode cX11_decides 41 = .ok (.iconst 2, 1) := by decide +kernel
theorem dX11_decides_42 : decode cX11_decides 42 = .ok (.iadd, 1) := by decide +kernel
theorem dX11_decides_43 : decode cX11_decides 43 = .ok (.iaload, 1) := by decide +kernel
theorem dX11_decides_44 : decode cX11_decides 44 = .ok (.bipush 24, 2) := by decide +kernel
theorem dX11_decides_46 : decode cX11_decides 46 = .ok (.if_icmp .ge 19, 3) := by decide +kernel
theorem dX11_decides_49 : decode cX11_decides 49 = .ok (.iload_n 2, 1) := by decide +kernel
theorem dX11_decides_50 : decode cX11_decides 50 = .ok (.aload_n 0, 1) := by decide +kernel
theorem dX11_decides_51 : decode cX11_decides 51 = .ok (.getfield 25, 3) := by decide +kernel
theorem dX11_decides_54 : decode cX11_decides 54 = .ok (.iconst 5, 1) := by decide +kernel
theorem dX11_decides_55 : decode cX11_decides 55 = .ok (.iload_n 1, 1) := by decide +kernel
theorem dX11_decides_56 : decode cX11_decides 56 = .ok (.imul, 1) := by decide +kernel
theorem dX11_decides_57 : decode cX11_decides 57 = .ok (.iconst 2, 1) := by decide +kernel
theorem dX11_decides_58 : decode cX11_decides 58 = .ok (.iadd, 1) := by decide +kernel
theorem dX11_decides_59 : decode cX11_decides 59 = .ok (.iaload, 1) := by decide +kernel
theorem dX11_decides_60 : decode cX11_decides 60 = .ok (.if_icmp .ge 5, 3) := by decide +kernel
theorem dX11_decides_63 : decode cX11_decides 63 = .ok (.iconst (-1), 1) := by decide +kernel
theorem dX11_decides_64 : decode cX11_decides 64 = .ok (.ireturn, 1) := by decide +kernel
theorem dX11_decides_65 : decode cX11_decides 65 = .ok (.aload_n 0, 1) := by decide +kernel
theorem dX11_decides_66 : decode cX11_decides 66 = .ok (.getfield 25, 3) := by decide +kernel
theorem dX11_decides_69 : decode cX11_decides 69 = .ok (.iconst 5, 1) := by decide +kernel
theorem dX11_decides_70 : decode cX11_decides 70 = .ok (.iload_n 1, 1) := by decide +kernel
theorem dX11_decides_71 : decode cX11_decides 71 = .ok (.imul, 1) := by decide +kernel
theorem dX11_decides_72 : decode cX11_decides 72 = .ok (.iconst 2, 1) := by decide +kernel
theorem dX11_decides_73 : decode cX11_decides 73 = .ok (.iadd, 1) := by decide +kernel
theorem dX11_decides_74 : decode cX11_decides 74 = .ok (.iaload, 1) := by decide +kernel
theorem dX11_decides_75 : decode cX11_decides 75 = .ok (.bipush 24, 2) := by decide +kernel
theorem dX11_decides_77 : decode cX11_decides 77 = .ok (.if_icmp .ne 6, 3) := by decide +kernel
theorem dX11_decides_80 : decode cX11_decides 80 = .ok (.bipush (-2), 2) := by decide +kernel
theorem dX11_decides_82 : decode cX11_decides 82 = .ok (.ireturn, 1) := by decide +kernel
theorem dX11_decides_83 : decode cX11_decides 83 = .ok (.aload_n 0, 1) := by decide +kernel
theorem dX11_decides_84 : decode cX11_decides 84 = .ok (.getfield 25, 3) := by decide +kernel
theorem dX11_decides_87 : decode cX11_decides 87 = .ok (.iconst 5, 1) := by decide +kernel
theorem dX11_decides_88 : decode cX11_decides 88 = .ok (.iload_n 1, 1) := by decide +kernel
theorem dX11_decides_89 : decode cX11_decides 89 = .ok (.imul, 1) := by decide +kernel
theorem dX11_decides_90 : decode cX11_decides 90 = .ok (.iconst 3, 1) := by decide +kernel
theorem dX11_decides_91 : decode cX11_decides 91 = .ok (.iadd, 1) := by decide +kernel
theorem dX11_decides_92 : decode cX11_decides 92 = .ok (.iaload, 1) := by decide +kernel
theorem dX11_decides_93 : decode cX11_decides 93 = .ok (.bipush 24, 2) := by decide +kernel
theorem dX11_decides_95 : decode cX11_decides 95 = .ok (.if_icmp .ge 6, 3) := by decide +kernel
theorem dX11_decides_98 : decode cX11_decides 98 = .ok (.bipush (-3), 2) := by decide +kernel
theorem dX11_decides_100 : decode cX11_decides 100 = .ok (.ireturn, 1) := by decide +kernel
theorem dX11_decides_101 : decode cX11_decides 101 = .ok (.aload_n 0, 1) := by decide +kernel
theorem dX11_decides_102 : decode cX11_decides 102 = .ok (.getfield 25, 3) := by decide +kernel
theorem dX11_decides_105 : decode cX11_decides 105 = .ok (.iconst 5, 1) := by decide +kernel
theorem dX11_decides_106 : decode cX11_decides 106 = .ok (.iload_n 1, 1) := by decide +kernel
theorem dX11_decides_107 : decode cX11_decides 107 = .ok (.imul, 1) := by decide +kernel
theorem dX11_decides_108 : decode cX11_decides 108 = .ok (.iconst 3, 1) := by decide +kernel
theorem dX11_decides_109 : decode cX11_decides 109 = .ok (.iadd, 1) := by decide +kernel
theorem dX11_decides_110 : decode cX11_decides 110 = .ok (.iload_n 2, 1) := by decide +kernel
theorem dX11_decides_111 : decode cX11_decides 111 = .ok (.iastore, 1) := by decide +kernel
theorem dX11_decides_112 : decode cX11_decides 112 = .ok (.aload_n 0, 1) := by decide +kernel
theorem dX11_decides_113 : decode cX11_decides 113 = .ok (.getfield 25, 3) := by decide +kernel
theorem dX11_decides_116 : decode cX11_decides 116 = .ok (.iconst 5, 1) := by decide +kernel
theorem dX11_decides_117 : decode cX11_decides 117 = .ok (.iload_n 1, 1) := by decide +kernel
theorem dX11_decides_118 : decode cX11_decides 118 = .ok (.imul, 1) := by decide +kernel
theorem dX11_decides_119 : decode cX11_decides 119 = .ok (.iconst 4, 1) := by decide +kernel
theorem dX11_decides_120 : decode cX11_decides 120 = .ok (.iadd, 1) := by decide +kernel
theorem dX11_decides_121 : decode cX11_decides 121 = .ok (.iload_n 3, 1) := by decide +kernel
theorem dX11_decides_122 : decode cX11_decides 122 = .ok (.iastore, 1) := by decide +kernel
theorem dX11_decides_123 : decode cX11_decides 123 = .ok (.aload_n 0, 1) := by decide +kernel
theorem dX11_decides_124 : decode cX11_decides 124 = .ok (.iload_n 1, 1) := by decide +kernel
theorem dX11_decides_125 : decode cX11_decides 125 = .ok (.iload_n 2, 1) := by decide +kernel
theorem dX11_decides_126 : decode cX11_decides 126 = .ok (.invokevirtual 197, 3) := by decide +kernel
theorem dX11_decides_129 : decode cX11_decides 129 = .ok (.ireturn, 1) := by decide +kernel
set_option maxRecDepth 20000 in
theorem ggX11_handover_X11_isMonth : GoodIn wsX11_handover wsX11_isMonth := goodIn_r _ [7, 8, 9, 10, 6, 11] rfl (by decide +kernel)
set_option maxRecDepth 20000 in
theorem gX11_handover_X11_isMonth : GoodIn wsX11_handover (va_wsS RX11 152 yX11_isMonth wsX11_isMonth) := goodIn_app (goodIn_of _ (by decide +kernel)) ggX11_handover_X11_isMonth
theorem dX11_handover_0 : decode cX11_handover 0 = .ok (.aload_n 0, 1) := by decide +kernel
theorem dX11_handover_1 : decode cX11_handover 1 = .ok (.iconst 0, 1) := by decide +kernel
theorem dX11_handover_2 : decode cX11_handover 2 = .ok (.putfield 97, 3) := by decide +kernel
theorem dX11_handover_5 : decode cX11_handover 5 = .ok (.iload_n 1, 1) := by decide +kernel
theorem dX11_handover_6 : decode cX11_handover 6 = .ok (.invokestatic 152, 3) := by decide +kernel
theorem dX11_handover_9 : decode cX11_handover 9 = .ok (.ifCond .ne 5, 3) := by decide +kernel
theorem dX11_handover_12 : decode cX11_handover 12 = .ok (.iconst (-1), 1) := by decide +kernel
theorem dX11_handover_13 : decode cX11_handover 13 = .ok (.ireturn, 1) := by decide +kernel
theorem dX11_handover_14 : decode cX11_handover 14 = .ok (.iload_n 1, 1) := by decide +kernel
theorem dX11_handover_15 : decode cX11_handover 15 = .ok (.aload_n 0, 1) := by decide +kernel
theorem dX11_handover_16 : decode cX11_handover 16 = .ok (.getfield 85, 3) := by decide +kernel
theorem dX11_handover_19 : decode cX11_handover 19 = .ok (.if_icmp .ne 6, 3) := by decide +kernel
theorem dX11_handover_22 : decode cX11_handover 22 = .ok (.bipush (-2), 2) := by decide +kernel
theorem dX11_handover_24 : decode cX11_handover 24 = .ok (.ireturn, 1) := by decide +kernel
theorem dX11_handover_25 : decode cX11_handover 25 = .ok (.aload_n 0, 1) := by decide +kernel
theorem dX11_handover_26 : decode cX11_handover 26 = .ok (.getfield 88, 3) := by decide +kernel
theorem dX11_handover_29 : decode cX11_handover 29 = .ok (.bipush 24, 2) := by decide +kernel
theorem dX11_handover_31 : decode cX11_handover 31 = .ok (.if_icmp .ge 14, 3) := by decide +kernel
theorem dX11_handover_34 : decode cX11_handover 34 = .ok (.aload_n 0, 1) := by decide +kernel
theorem dX11_handover_35 : decode cX11_handover 35 = .ok (.getfield 88, 3) := by decide +kernel
theorem dX11_handover_38 : decode cX11_handover 38 = .ok (.iload_n 1, 1) := by decide +kernel
theorem dX11_handover_39 : decode cX11_handover 39 = .ok (.if_icmp .ge 6, 3) := by decide +kernel
theorem dX11_handover_42 : decode cX11_handover 42 = .ok (.bipush (-3), 2) := by decide +kernel
theorem dX11_handover_44 : decode cX11_handover 44 = .ok (.ireturn, 1) := by decide +kernel
theorem dX11_handover_45 : decode cX11_handover 45 = .ok (.aload_n 0, 1) := by decide +kernel
theorem dX11_handover_46 : decode cX11_handover 46 = .ok (.getfield 85, 3) := by decide +kernel
theorem dX11_handover_49 : decode cX11_handover 49 = .ok (.istore_n 2, 1) := by decide +kernel
theorem dX11_handover_50 : decode cX11_handover 50 = .ok (.aload_n 0, 1) := by decide +kernel
theorem dX11_handover_51 : decode cX11_handover 51 = .ok (.iload_n 1, 1) := by decide +kernel
theorem dX11_handover_52 : decode cX11_handover 52 = .ok (.putfield 85, 3) := by decide +kernel
theorem dX11_handover_55 : decode cX11_handover 55 = .ok (.iload_n 2, 1) := by decide +kernel
theorem dX11_handover_56 : decode cX11_handover 56 = .ok (.ireturn, 1) := by decide +kernel
set_option maxRecDepth 20000 in
theorem ggX11_closes_X11_isMonth : GoodIn wsX11_closes wsX11_isMonth := goodIn_r _ [7, 8, 9, 10, 6, 11] rfl (by decide +kernel)
set_option maxRecDepth 20000 in
theorem gX11_closes_X11_isMonth : GoodIn wsX11_closes (va_wsS RX11 152 yX11_isMonth wsX11_isMonth) := goodIn_app (goodIn_of _ (by decide +kernel)) ggX11_closes_X11_isMonth
theorem dX11_closes_0 : decode cX11_closes 0 = .ok (.aload_n 0, 1) := by decide +kernel
theorem dX11_closes_1 : decode cX11_closes 1 = .ok (.iconst 0, 1) := by decide +kernel
theorem dX11_closes_2 : decode cX11_closes 2 = .ok (.putfield 97, 3) := by decide +kernel
theorem dX11_closes_5 : decode cX11_closes 5 = .ok (.iload_n 1, 1) := by decide +kernel
theorem dX11_closes_6 : decode cX11_closes 6 = .ok (.invokestatic 152, 3) := by decide +kernel
theorem dX11_closes_9 : decode cX11_closes 9 = .ok (.ifCond .ne 5, 3) := by decide +kernel
theorem dX11_closes_12 : decode cX11_closes 12 = .ok (.iconst (-1), 1) := by decide +kernel
theorem dX11_closes_13 : decode cX11_closes 13 = .ok (.ireturn, 1) := by decide +kernel
theorem dX11_closes_14 : decode cX11_closes 14 = .ok (.iload_n 1, 1) := by decide +kernel
theorem dX11_closes_15 : decode cX11_closes 15 = .ok (.aload_n 0, 1) := by decide +kernel
theorem dX11_closes_16 : decode cX11_closes 16 = .ok (.getfield 88, 3) := by decide +kernel
theorem dX11_closes_19 : decode cX11_closes 19 = .ok (.if_icmp .ne 6, 3) := by decide +kernel
theorem dX11_closes_22 : decode cX11_closes 22 = .ok (.bipush (-2), 2) := by decide +kernel
theorem dX11_closes_24 : decode cX11_closes 24 = .ok (.ireturn, 1) := by decide +kernel
theorem dX11_closes_25 : decode cX11_closes 25 = .ok (.aload_n 0, 1) := by decide +kernel
theorem dX11_closes_26 : decode cX11_closes 26 = .ok (.getfield 85, 3) := by decide +kernel
theorem dX11_closes_29 : decode cX11_closes 29 = .ok (.iload_n 1, 1) := by decide +kernel
theorem dX11_closes_30 : decode cX11_closes 30 = .ok (.if_icmp .le 6, 3) := by decide +kernel
theorem dX11_closes_33 : decode cX11_closes 33 = .ok (.bipush (-3), 2) := by decide +kernel
theorem dX11_closes_35 : decode cX11_closes 35 = .ok (.ireturn, 1) := by decide +kernel
theorem dX11_closes_36 : decode cX11_closes 36 = .ok (.aload_n 0, 1) := by decide +kernel
theorem dX11_closes_37 : decode cX11_closes 37 = .ok (.getfield 88, 3) := by decide +kernel
theorem dX11_closes_40 : decode cX11_closes 40 = .ok (.istore_n 2, 1) := by decide +kernel
theorem dX11_closes_41 : decode cX11_closes 41 = .ok (.aload_n 0, 1) := by decide +kernel
theorem dX11_closes_42 : decode cX11_closes 42 = .ok (.iload_n 1, 1) := by decide +kernel
theorem dX11_closes_43 : decode cX11_closes 43 = .ok (.putfield 88, 3) := by decide +kernel
theorem dX11_closes_46 : decode cX11_closes 46 = .ok (.iload_n 2, 1) := by decide +kernel
theorem dX11_closes_47 : decode cX11_closes 47 = .ok (.ireturn, 1) := by decide +kernel
set_option maxRecDepth 20000 in
theorem ggX11_pays_X11_isMonth : GoodIn wsX11_pays wsX11_isMonth := goodIn_r _ [7, 8, 9, 10, 6, 11] rfl (by decide +kernel)
set_option maxRecDepth 20000 in
theorem gX11_pays_X11_isMonth : GoodIn wsX11_pays (va_wsS RX11 152 yX11_isMonth wsX11_isMonth) := goodIn_app (goodIn_of _ (by decide +kernel)) ggX11_pays_X11_isMonth
set_option maxRecDepth 20000 in
theorem ggX11_pays_X11_in : GoodIn wsX11_pays wsX11_in := goodIn_r _ [11] rfl (by decide +kernel)
set_option maxRecDepth 20000 in
theorem gX11_pays_X11_in : GoodIn wsX11_pays (va_wsS RX11 105 yX11_in wsX11_in) := goodIn_app (goodIn_of _ (by decide +kernel)) ggX11_pays_X11_in
theorem dX11_pays_0 : decode cX11_pays 0 = .ok (.aload_n 0, 1) := by decide +kernel
theorem dX11_pays_1 : decode cX11_pays 1 = .ok (.iconst 0, 1) := by decide +kernel
theorem dX11_pays_2 : decode cX11_pays 2 = .ok (.putfield 97, 3) := by decide +kernel
theorem dX11_pays_5 : decode cX11_pays 5 = .ok (.iload_n 1, 1) := by decide +kernel
theorem dX11_pays_6 : decode cX11_pays 6 = .ok (.invokestatic 152, 3) := by decide +kernel
theorem dX11_pays_9 : decode cX11_pays 9 = .ok (.ifCond .eq 15, 3) := by decide +kernel
theorem dX11_pays_12 : decode cX11_pays 12 = .ok (.iload_n 2, 1) := by decide +kernel
theorem dX11_pays_13 : decode cX11_pays 13 = .ok (.i2l, 1) := by decide +kernel
theorem dX11_pays_14 : decode cX11_pays 14 = .ok (.lconst 0, 1) := by decide +kernel
theorem dX11_pays_15 : decode cX11_pays 15 = .ok (.ldc2_w 200, 3) := by decide +kernel
theorem dX11_pays_18 : decode cX11_pays 18 = .ok (.invokestatic 105, 3) := by decide +kernel
theorem dX11_pays_21 : decode cX11_pays 21 = .ok (.ifCond .ne 5, 3) := by decide +kernel
theorem dX11_pays_24 : decode cX11_pays 24 = .ok (.iconst (-1), 1) := by decide +kernel
theorem dX11_pays_25 : decode cX11_pays 25 = .ok (.ireturn, 1) := by decide +kernel
theorem dX11_pays_26 : decode cX11_pays 26 = .ok (.aload_n 0, 1) := by decide +kernel
theorem dX11_pays_27 : decode cX11_pays 27 = .ok (.getfield 31, 3) := by decide +kernel
theorem dX11_pays_30 : decode cX11_pays 30 = .ok (.iload_n 1, 1) := by decide +kernel
theorem dX11_pays_31 : decode cX11_pays 31 = .ok (.iaload, 1) := by decide +kernel
theorem dX11_pays_32 : decode cX11_pays 32 = .ok (.iload_n 2, 1) := by decide +kernel
theorem dX11_pays_33 : decode cX11_pays 33 = .ok (.if_icmp .ne 6, 3) := by decide +kernel
theorem dX11_pays_36 : decode cX11_pays 36 = .ok (.bipush (-2), 2) := by decide +kernel
theorem dX11_pays_38 : decode cX11_pays 38 = .ok (.ireturn, 1) := by decide +kernel
theorem dX11_pays_39 : decode cX11_pays 39 = .ok (.aload_n 0, 1) := by decide +kernel
theorem dX11_pays_40 : decode cX11_pays 40 = .ok (.getfield 31, 3) := by decide +kernel
theorem dX11_pays_43 : decode cX11_pays 43 = .ok (.iload_n 1, 1) := by decide +kernel
theorem dX11_pays_44 : decode cX11_pays 44 = .ok (.iaload, 1) := by decide +kernel
theorem dX11_pays_45 : decode cX11_pays 45 = .ok (.istore_n 3, 1) := by decide +kernel
theorem dX11_pays_46 : decode cX11_pays 46 = .ok (.aload_n 0, 1) := by decide +kernel
theorem dX11_pays_47 : decode cX11_pays 47 = .ok (.getfield 31, 3) := by decide +kernel
theorem dX11_pays_50 : decode cX11_pays 50 = .ok (.iload_n 1, 1) := by decide +kernel
theorem dX11_pays_51 : decode cX11_pays 51 = .ok (.iload_n 2, 1) := by decide +kernel
theorem dX11_pays_52 : decode cX11_pays 52 = .ok (.iastore, 1) := by decide +kernel
theorem dX11_pays_53 : decode cX11_pays 53 = .ok (.iload_n 3, 1) := by decide +kernel
theorem dX11_pays_54 : decode cX11_pays 54 = .ok (.ireturn, 1) := by decide +kernel
set_option maxRecDepth 20000 in
theorem ggX11_due_X11_isMonth : GoodIn wsX11_due wsX11_isMonth := goodIn_r _ [6, 7, 8, 9, 5, 10] rfl (by decide +kernel)
set_option maxRecDepth 20000 in
theorem gX11_due_X11_isMonth : GoodIn wsX11_due (va_wsS RX11 152 yX11_isMonth wsX11_isMonth) := goodIn_app (goodIn_of _ (by decide +kernel)) ggX11_due_X11_isMonth
theorem dX11_due_0 : decode cX11_due 0 = .ok (.aload_n 0, 1) := by decide +kernel
theorem dX11_due_1 : decode cX11_due 1 = .ok (.iconst 0, 1) := by decide +kernel
theorem dX11_due_2 : decode cX11_due 2 = .ok (.putfield 97, 3) := by decide +kernel
theorem dX11_due_5 : decode cX11_due 5 = .ok (.iload_n 1, 1) := by decide +kernel
theorem dX11_due_6 : decode cX11_due 6 = .ok (.invokestatic 152, 3) := by decide +kernel
theorem dX11_due_9 : decode cX11_due 9 = .ok (.ifCond .ne 5, 3) := by decide +kernel
theorem dX11_due_12 : decode cX11_due 12 = .ok (.iconst (-1), 1) := by decide +kernel
theorem dX11_due_13 : decode cX11_due 13 = .ok (.ireturn, 1) := by decide +kernel
theorem dX11_due_14 : decode cX11_due 14 = .ok (.iload_n 1, 1) := by decide +kernel
theorem dX11_due_15 : decode cX11_due 15 = .ok (.aload_n 0, 1) := by decide +kernel
theorem dX11_due_16 : decode cX11_due 16 = .ok (.getfield 91, 3) := by decide +kernel
theorem dX11_due_19 : decode cX11_due 19 = .ok (.if_icmp .ne 6, 3) := by decide +kernel
theorem dX11_due_22 : decode cX11_due 22 = .ok (.bipush (-2), 2) := by decide +kernel
theorem dX11_due_24 : decode cX11_due 24 = .ok (.ireturn, 1) := by decide +kernel
theorem dX11_due_25 : decode cX11_due 25 = .ok (.aload_n 0, 1) := by decide +kernel
theorem dX11_due_26 : decode cX11_due 26 = .ok (.getfield 91, 3) := by decide +kernel
theorem dX11_due_29 : decode cX11_due 29 = .ok (.istore_n 2, 1) := by decide +kernel
theorem dX11_due_30 : decode cX11_due 30 = .ok (.aload_n 0, 1) := by decide +kernel
theorem dX11_due_31 : decode cX11_due 31 = .ok (.iload_n 1, 1) := by decide +kernel
theorem dX11_due_32 : decode cX11_due 32 = .ok (.putfield 91, 3) := by decide +kernel
theorem dX11_due_35 : decode cX11_due 35 = .ok (.iload_n 2, 1) := by decide +kernel
theorem dX11_due_36 : decode cX11_due 36 = .ok (.ireturn, 1) := by decide +kernel
set_option maxRecDepth 20000 in
theorem ggX11_grants_X11_in : GoodIn wsX11_grants wsX11_in := goodIn_r _ [8] rfl (by decide +kernel)
set_option maxRecDepth 20000 in
theorem gX11_grants_X11_in : GoodIn wsX11_grants (va_wsS RX11 105 yX11_in wsX11_in) := goodIn_app (goodIn_of _ (by decide +kernel)) ggX11_grants_X11_in
theorem dX11_grants_0 : decode cX11_grants 0 = .ok (.aload_n 0, 1) := by decide +kernel
theorem dX11_grants_1 : decode cX11_grants 1 = .ok (.iconst 0, 1) := by decide +kernel
theorem dX11_grants_2 : decode cX11_grants 2 = .ok (.putfield 97, 3) := by decide +kernel
theorem dX11_grants_5 : decode cX11_grants 5 = .ok (.iload_n 1, 1) := by decide +kernel
theorem dX11_grants_6 : decode cX11_grants 6 = .ok (.i2l, 1) := by decide +kernel
theorem dX11_grants_7 : decode cX11_grants 7 = .ok (.lconst 1, 1) := by decide +kernel
theorem dX11_grants_8 : decode cX11_grants 8 = .ok (.ldc2_w 202, 3) := by decide +kernel
theorem dX11_grants_11 : decode cX11_grants 11 = .ok (.invokestatic 105, 3) := by decide +kernel
theorem dX11_grants_14 : decode cX11_grants 14 = .ok (.ifCond .ne 5, 3) := by decide +kernel
theorem dX11_grants_17 : decode cX11_grants 17 = .ok (.iconst (-1), 1) := by decide +kernel
theorem dX11_grants_18 : decode cX11_grants 18 = .ok (.ireturn, 1) := by decide +kernel
theorem dX11_grants_19 : decode cX11_grants 19 = .ok (.aload_n 0, 1) := by decide +kernel
theorem dX11_grants_20 : decode cX11_grants 20 = .ok (.getfield 91, 3) := by decide +kernel
theorem dX11_grants_23 : decode cX11_grants 23 = .ok (.bipush 24, 2) := by decide +kernel
theorem dX11_grants_25 : decode cX11_grants 25 = .ok (.if_icmp .ne 6, 3) := by decide +kernel
theorem dX11_grants_28 : decode cX11_grants 28 = .ok (.bipush (-2), 2) := by decide +kernel
theorem dX11_grants_30 : decode cX11_grants 30 = .ok (.ireturn, 1) := by decide +kernel
theorem dX11_grants_31 : decode cX11_grants 31 = .ok (.aload_n 0, 1) := by decide +kernel
theorem dX11_grants_32 : decode cX11_grants 32 = .ok (.getfield 94, 3) := by decide +kernel
theorem dX11_grants_35 : decode cX11_grants 35 = .ok (.iload_n 1, 1) := by decide +kernel
theorem dX11_grants_36 : decode cX11_grants 36 = .ok (.iadd, 1) := by decide +kernel
theorem dX11_grants_37 : decode cX11_grants 37 = .ok (.bipush 12, 2) := by decide +kernel
theorem dX11_grants_39 : decode cX11_grants 39 = .ok (.if_icmp .le 6, 3) := by decide +kernel
theorem dX11_grants_42 : decode cX11_grants 42 = .ok (.bipush (-3), 2) := by decide +kernel
theorem dX11_grants_44 : decode cX11_grants 44 = .ok (.ireturn, 1) := by decide +kernel
theorem dX11_grants_45 : decode cX11_grants 45 = .ok (.aload_n 0, 1) := by decide +kernel
theorem dX11_grants_46 : decode cX11_grants 46 = .ok (.dup, 1) := by decide +kernel
theorem dX11_grants_47 : decode cX11_grants 47 = .ok (.getfield 94, 3) := by decide +kernel
theorem dX11_grants_50 : decode cX11_grants 50 = .ok (.iload_n 1, 1) := by decide +kernel
theorem dX11_grants_51 : decode cX11_grants 51 = .ok (.iadd, 1) := by decide +kernel
theorem dX11_grants_52 : decode cX11_grants 52 = .ok (.putfield 94, 3) := by decide +kernel
theorem dX11_grants_55 : decode cX11_grants 55 = .ok (.aload_n 0, 1) := by decide +kernel
theorem dX11_grants_56 : decode cX11_grants 56 = .ok (.getfield 94, 3) := by decide +kernel
theorem dX11_grants_59 : decode cX11_grants 59 = .ok (.ireturn, 1) := by decide +kernel
theorem dX11_indexIn_0 : decode cX11_indexIn 0 = .ok (.iload_n 1, 1) := by decide +kernel
theorem dX11_indexIn_1 : decode cX11_indexIn 1 = .ok (.istore_n 2, 1) := by decide +kernel
theorem dX11_indexIn_2 : decode cX11_indexIn 2 = .ok (.iload_n 2, 1) := by decide +kernel
theorem dX11_indexIn_3 : decode cX11_indexIn 3 = .ok (.ifCond .lt 28, 3) := by decide +kernel
theorem dX11_indexIn_6 : decode cX11_indexIn 6 = .ok (.aload_n 0, 1) := by decide +kernel
theorem dX11_indexIn_7 : decode cX11_indexIn 7 = .ok (.getfield 28, 3) := by decide +kernel
theorem dX11_indexIn_10 : decode cX11_indexIn 10 = .ok (.iload_n 2, 1) := by decide +kernel
theorem dX11_indexIn_11 : decode cX11_indexIn 11 = .ok (.iaload, 1) := by decide +kernel
theorem dX11_indexIn_12 : decode cX11_indexIn 12 = .ok (.sipush (-9999), 3) := by decide +kernel
theorem dX11_indexIn_15 : decode cX11_indexIn 15 = .ok (.if_icmp .eq 10, 3) := by decide +kernel
theorem dX11_indexIn_18 : decode cX11_indexIn 18 = .ok (.aload_n 0, 1) := by decide +kernel
theorem dX11_indexIn_19 : decode cX11_indexIn 19 = .ok (.getfield 28, 3) := by decide +kernel
theorem dX11_indexIn_22 : decode cX11_indexIn 22 = .ok (.iload_n 2, 1) := by decide +kernel
theorem dX11_indexIn_23 : decode cX11_indexIn 23 = .ok (.iaload, 1) := by decide +kernel
theorem dX11_indexIn_24 : decode cX11_indexIn 24 = .ok (.ireturn, 1) := by decide +kernel
theorem dX11_indexIn_25 : decode cX11_indexIn 25 = .ok (.iinc 2 (-1), 3) := by decide +kernel
theorem dX11_indexIn_28 : decode cX11_indexIn 28 = .ok (.goto (-26), 3) := by decide +kernel
theorem dX11_indexIn_31 : decode cX11_indexIn 31 = .ok (.sipush 1000, 3) := by decide +kernel
theorem dX11_indexIn_34 : decode cX11_indexIn 34 = .ok (.ireturn, 1) := by decide +kernel
set_option maxRecDepth 20000 in
theorem ggX11_isIndex_X11_isMonth : GoodIn wsX11_isIndex wsX11_isMonth := goodIn_r _ [6, 7, 8, 9, 5, 10] rfl (by decide +kernel)
set_option maxRecDepth 20000 in
theorem gX11_isIndex_X11_isMonth : GoodIn wsX11_isIndex (va_wsS RX11 152 yX11_isMonth wsX11_isMonth) := goodIn_app (goodIn_of _ (by decide +kernel)) ggX11_isIndex_X11_isMonth
set_option maxRecDepth 20000 in
theorem ggX11_isIndex_X11_in : GoodIn wsX11_isIndex wsX11_in := goodIn_r _ [10] rfl (by decide +kernel)
set_option maxRecDepth 20000 in
theorem gX11_isIndex_X11_in : GoodIn wsX11_isIndex (va_wsS RX11 105 yX11_in wsX11_in) := goodIn_app (goodIn_of _ (by decide +kernel)) ggX11_isIndex_X11_in
theorem dX11_isIndex_0 : decode cX11_isIndex 0 = .ok (.iload_n 0, 1) := by decide +kernel
theorem dX11_isIndex_1 : decode cX11_isIndex 1 = .ok (.invokestatic 152, 3) := by decide +kernel
theorem dX11_isIndex_4 : decode cX11_isIndex 4 = .ok (.ifCond .eq 21, 3) := by decide +kernel
theorem dX11_isIndex_7 : decode cX11_isIndex 7 = .ok (.iload_n 1, 1) := by decide +kernel
theorem dX11_isIndex_8 : decode cX11_isIndex 8 = .ok (.i2l, 1) := by decide +kernel
theorem dX11_isIndex_9 : decode cX11_isIndex 9 = .ok (.ldc2_w 204, 3) := by decide +kernel
theorem dX11_isIndex_12 : decode cX11_isIndex 12 = .ok (.ldc2_w 206, 3) := by decide +kernel
theorem dX11_isIndex_15 : decode cX11_isIndex 15 = .ok (.invokestatic 105, 3) := by decide +kernel
theorem dX11_isIndex_18 : decode cX11_isIndex 18 = .ok (.ifCond .eq 7, 3) := by decide +kernel
theorem dX11_isIndex_21 : decode cX11_isIndex 21 = .ok (.iconst 1, 1) := by decide +kernel
theorem dX11_isIndex_22 : decode cX11_isIndex 22 = .ok (.goto 4, 3) := by decide +kernel
theorem dX11_isIndex_25 : decode cX11_isIndex 25 = .ok (.iconst 0, 1) := by decide +kernel
theorem dX11_isIndex_26 : decode cX11_isIndex 26 = .ok (.ireturn, 1) := by decide +kernel
set_option maxRecDepth 20000 in
theorem ggX11_indexes_X11_isIndex : GoodIn wsX11_indexes wsX11_isIndex := goodIn_r _ [6, 7, 8, 9, 10, 5, 11, 12, 13, 14, 15] rfl (by decide +kernel)
set_option maxRecDepth 20000 in
theorem gX11_indexes_X11_isIndex : GoodIn wsX11_indexes (va_wsS RX11 208 yX11_isIndex wsX11_isIndex) := goodIn_app (goodIn_of _ (by decide +kernel)) ggX11_indexes_X11_isIndex
set_option maxRecDepth 20000 in
theorem ggX11_indexes_X11_indexIn : GoodIn wsX11_indexes wsX11_indexIn := goodIn_r _ [19, 2, 20, 21, 22, 23, 24, 25, 26, 27, 28, 29, 30, 31, 32, 33, 34, 35, 36, 37, 38, 39, 40, 41, 42, 43, 44, 45, 46, 47, 48, 49, 50, 51, 52, 53, 54] rfl (by decide +kernel)
set_option maxRecDepth 20000 in
theorem gX11_indexes_X11_indexIn : GoodIn wsX11_indexes (wsV RX11 211 RX11 yX11_indexIn wsX11_indexIn) := goodIn_app (goodIn_of _ (by decide +kernel)) ggX11_indexes_X11_indexIn
theorem dX11_indexes_0 : decode cX11_indexes 0 = .ok (.aload_n 0, 1) := by decide +kernel
theorem dX11_indexes_1 : decode cX11_indexes 1 = .ok (.iconst 0, 1) := by decide +kernel
theorem dX11_indexes_2 : decode cX11_indexes 2 = .ok (.putfield 97, 3) := by decide +kernel
theorem dX11_indexes_5 : decode cX11_indexes 5 = .ok (.iload_n 1, 1) := by decide +kernel
theorem dX11_indexes_6 : decode cX11_indexes 6 = .ok (.iload_n 2, 1) := by decide +kernel
theorem dX11_indexes_7 : decode cX11_indexes 7 = .ok (.invokestatic 208, 3) := by decide +kernel
theorem dX11_indexes_10 : decode cX11_indexes 10 = .ok (.ifCond .ne 5, 3) := by decide +kernel
theorem dX11_indexes_13 : decode cX11_indexes 13 = .ok (.iconst (-1), 1) := by decide +kernel
theorem dX11_indexes_14 : decode cX11_indexes 14 = .ok (.ireturn, 1) := by decide +kernel
theorem dX11_indexes_15 : decode cX11_indexes 15 = .ok (.aload_n 0, 1) := by decide +kernel
theorem dX11_indexes_16 : decode cX11_indexes 16 = .ok (.getfield 28, 3) := by decide +kernel
theorem dX11_indexes_19 : decode cX11_indexes 19 = .ok (.iload_n 1, 1) := by decide +kernel
theorem dX11_indexes_20 : decode cX11_indexes 20 = .ok (.iaload, 1) := by decide +kernel
theorem dX11_indexes_21 : decode cX11_indexes 21 = .ok (.iload_n 2, 1) := by decide +kernel
theorem dX11_indexes_22 : decode cX11_indexes 22 = .ok (.if_icmp .ne 6, 3) := by decide +kernel
theorem dX11_indexes_25 : decode cX11_indexes 25 = .ok (.bipush (-2), 2) := by decide +kernel
theorem dX11_indexes_27 : decode cX11_indexes 27 = .ok (.ireturn, 1) := by decide +kernel
theorem dX11_indexes_28 : decode cX11_indexes 28 = .ok (.aload_n 0, 1) := by decide +kernel
theorem dX11_indexes_29 : decode cX11_indexes 29 = .ok (.iload_n 1, 1) := by decide +kernel
theorem dX11_indexes_30 : decode cX11_indexes 30 = .ok (.invokevirtual 211, 3) := by decide +kernel
theorem dX11_indexes_33 : decode cX11_indexes 33 = .ok (.istore_n 3, 1) := by decide +kernel
theorem dX11_indexes_34 : decode cX11_indexes 34 = .ok (.aload_n 0, 1) := by decide +kernel
theorem dX11_indexes_35 : decode cX11_indexes 35 = .ok (.getfield 28, 3) := by decide +kernel
theorem dX11_indexes_38 : decode cX11_indexes 38 = .ok (.iload_n 1, 1) := by decide +kernel
theorem dX11_indexes_39 : decode cX11_indexes 39 = .ok (.iload_n 2, 1) := by decide +kernel
theorem dX11_indexes_40 : decode cX11_indexes 40 = .ok (.iastore, 1) := by decide +kernel
theorem dX11_indexes_41 : decode cX11_indexes 41 = .ok (.iload_n 3, 1) := by decide +kernel
theorem dX11_indexes_42 : decode cX11_indexes 42 = .ok (.ireturn, 1) := by decide +kernel
theorem dX11_thousandths_0 : decode cX11_thousandths 0 = .ok (.lload_n 0, 1) := by decide +kernel
theorem dX11_thousandths_1 : decode cX11_thousandths 1 = .ok (.iload_n 2, 1) := by decide +kernel
theorem dX11_thousandths_2 : decode cX11_thousandths 2 = .ok (.i2l, 1) := by decide +kernel
theorem dX11_thousandths_3 : decode cX11_thousandths 3 = .ok (.lmul, 1) := by decide +kernel
theorem dX11_thousandths_4 : decode cX11_thousandths 4 = .ok (.ldc2_w 195, 3) := by decide +kernel
theorem dX11_thousandths_7 : decode cX11_thousandths 7 = .ok (.ldiv, 1) := by decide +kernel
theorem dX11_thousandths_8 : decode cX11_thousandths 8 = .ok (.lreturn, 1) := by decide +kernel
set_option maxRecDepth 20000 in
theorem ggX11_sumNow_X11_quantity : GoodIn wsX11_sumNow wsX11_quantity := goodIn_r _ [6, 7, 12, 13, 14, 15, 16, 17, 18, 19, 20, 21, 22, 23, 24, 25, 26, 27, 28, 29, 30, 31, 32, 33, 34, 35, 36, 37, 38, 39, 40, 41, 42, 43, 44, 45, 46] rfl (by decide +kernel)
set_option maxRecDepth 20000 in
theorem gX11_sumNow_X11_quantity : GoodIn wsX11_sumNow (wsV RX11 214 RX11 yX11_quantity wsX11_quantity) := goodIn_app (goodIn_of _ (by decide +kernel)) ggX11_sumNow_X11_quantity
set_option maxRecDepth 20000 in
theorem ggX11_sumNow_X11_rate : GoodIn wsX11_sumNow wsX11_rate := goodIn_r _ [11, 7, 12, 13, 14, 15, 16, 17, 18, 19, 20, 21, 22, 23, 24, 25, 26, 27, 28, 29, 30, 31, 32, 33, 34, 35, 36, 37, 38, 39, 40, 41, 42, 43, 44, 45, 46] rfl (by decide +kernel)
set_option maxRecDepth 20000 in
theorem gX11_sumNow_X11_rate : GoodIn wsX11_sumNow (wsV RX11 217 RX11 yX11_rate wsX11_rate) := goodIn_app (goodIn_of _ (by decide +kernel)) ggX11_sumNow_X11_rate
theorem dX11_sumNow_0 : decode cX11_sumNow 0 = .ok (.lconst 0, 1) := by decide +kernel
theorem dX11_sumNow_1 : decode cX11_sumNow 1 = .ok (.lstore_n 1, 1) := by decide +kernel
theorem dX11_sumNow_2 : decode cX11_sumNow 2 = .ok (.iconst 0, 1) := by decide +kernel
theorem dX11_sumNow_3 : decode cX11_sumNow 3 = .ok (.istore_n 3, 1) := by decide +kernel
theorem dX11_sumNow_4 : decode cX11_sumNow 4 = .ok (.iload_n 3, 1) := by decide +kernel
theorem dX11_sumNow_5 : decode cX11_sumNow 5 = .ok (.aload_n 0, 1) := by decide +kernel
theorem dX11_sumNow_6 : decode cX11_sumNow 6 = .ok (.getfield 75, 3) := by decide +kernel
theorem dX11_sumNow_9 : decode cX11_sumNow 9 = .ok (.if_icmp .ge 25, 3) := by decide +kernel
theorem dX11_sumNow_12 : decode cX11_sumNow 12 = .ok (.lload_n 1, 1) := by decide +kernel
theorem dX11_sumNow_13 : decode cX11_sumNow 13 = .ok (.aload_n 0, 1) := by decide +kernel
theorem dX11_sumNow_14 : decode cX11_sumNow 14 = .ok (.iload_n 3, 1) := by decide +kernel
theorem dX11_sumNow_15 : decode cX11_sumNow 15 = .ok (.invokevirtual 214, 3) := by decide +kernel
theorem dX11_sumNow_18 : decode cX11_sumNow 18 = .ok (.i2l, 1) := by decide +kernel
theorem dX11_sumNow_19 : decode cX11_sumNow 19 = .ok (.aload_n 0, 1) := by decide +kernel
theorem dX11_sumNow_20 : decode cX11_sumNow 20 = .ok (.iload_n 3, 1) := by decide +kernel
theorem dX11_sumNow_21 : decode cX11_sumNow 21 = .ok (.invokevirtual 217, 3) := by decide +kernel
theorem dX11_sumNow_24 : decode cX11_sumNow 24 = .ok (.i2l, 1) := by decide +kernel
theorem dX11_sumNow_25 : decode cX11_sumNow 25 = .ok (.lmul, 1) := by decide +kernel
theorem dX11_sumNow_26 : decode cX11_sumNow 26 = .ok (.ladd, 1) := by decide +kernel
theorem dX11_sumNow_27 : decode cX11_sumNow 27 = .ok (.lstore_n 1, 1) := by decide +kernel
theorem dX11_sumNow_28 : decode cX11_sumNow 28 = .ok (.iinc 3 1, 3) := by decide +kernel
theorem dX11_sumNow_31 : decode cX11_sumNow 31 = .ok (.goto (-27), 3) := by decide +kernel
theorem dX11_sumNow_34 : decode cX11_sumNow 34 = .ok (.lload_n 1, 1) := by decide +kernel
theorem dX11_sumNow_35 : decode cX11_sumNow 35 = .ok (.lreturn, 1) := by decide +kernel
set_option maxRecDepth 20000 in
theorem ggX11_cap_X11_quantity : GoodIn wsX11_cap wsX11_quantity := goodIn_r _ [6, 7, 12, 13, 14, 15, 16, 17, 18, 19, 20, 21, 22, 23, 24, 25, 26, 27, 28, 29, 30, 31, 32, 33, 34, 35, 36, 37, 38, 39, 40, 41, 42, 43, 44, 45, 46] rfl (by decide +kernel)
set_option maxRecDepth 20000 in
theorem gX11_cap_X11_quantity : GoodIn wsX11_cap (wsV RX11 214 RX11 yX11_quantity wsX11_quantity) := goodIn_app (goodIn_of _ (by decide +kernel)) ggX11_cap_X11_quantity
set_option maxRecDepth 20000 in
theorem ggX11_cap_X11_thousandths : GoodIn wsX11_cap wsX11_thousandths := goodIn_r _ [10, 11] rfl (by decide +kernel)
set_option maxRecDepth 20000 in
theorem gX11_cap_X11_thousandths : GoodIn wsX11_cap (va_wsS RX11 220 yX11_thousandths wsX11_thousandths) := goodIn_app (goodIn_of _ (by decide +kernel)) ggX11_cap_X11_thousandths
theorem dX11_cap_0 : decode cX11_cap 0 = .ok (.aload_n 0, 1) := by decide +kernel
theorem dX11_cap_1 : decode cX11_cap 1 = .ok (.iload_n 1, 1) := by decide +kernel
theorem dX11_cap_2 : decode cX11_cap 2 = .ok (.invokevirtual 214, 3) := by decide +kernel
theorem dX11_cap_5 : decode cX11_cap 5 = .ok (.aload_n 0, 1) := by decide +kernel
theorem dX11_cap_6 : decode cX11_cap 6 = .ok (.iload_n 1, 1) := by decide +kernel
theorem dX11_cap_7 : decode cX11_cap 7 = .ok (.invokevirtual 214, 3) := by decide +kernel
theorem dX11_cap_10 : decode cX11_cap 10 = .ok (.i2l, 1) := by decide +kernel
theorem dX11_cap_11 : decode cX11_cap 11 = .ok (.aload_n 0, 1) := by decide +kernel
theorem dX11_cap_12 : decode cX11_cap 12 = .ok (.getfield 7, 3) := by decide +kernel
theorem dX11_cap_15 : decode cX11_cap 15 = .ok (.bipush 9, 2) := by decide +kernel
theorem dX11_cap_17 : decode cX11_cap 17 = .ok (.iaload, 1) := by decide +kernel
theorem dX11_cap_18 : decode cX11_cap 18 = .ok (.invokestatic 220, 3) := by decide +kernel
theorem dX11_cap_21 : decode cX11_cap 21 = .ok (.l2i, 1) := by decide +kernel
theorem dX11_cap_22 : decode cX11_cap 22 = .ok (.iadd, 1) := by decide +kernel
theorem dX11_cap_23 : decode cX11_cap 23 = .ok (.ireturn, 1) := by decide +kernel
set_option maxRecDepth 20000 in
theorem ggX11_partOf_X11_doneOf : GoodIn wsX11_partOf wsX11_doneOf := goodIn_r _ [10, 11, 29, 30, 31, 32, 33, 34, 35, 36, 37, 38, 39, 40, 41, 42, 43, 44, 45, 46, 47, 48, 49, 50, 51, 52, 53, 54, 55, 56, 57, 58, 59, 60, 61, 62, 63] rfl (by decide +kernel)
set_option maxRecDepth 20000 in
theorem gX11_partOf_X11_doneOf : GoodIn wsX11_partOf (wsV RX11 165 RX11 yX11_doneOf wsX11_doneOf) := goodIn_app (goodIn_of _ (by decide +kernel)) ggX11_partOf_X11_doneOf
set_option maxRecDepth 20000 in
theorem ggX11_partOf_X11_cap : GoodIn wsX11_partOf wsX11_cap := goodIn_r _ [15, 5, 16, 17, 18, 9, 19, 20, 21, 22, 23, 24, 29, 30, 31, 32, 33, 34, 35, 36, 37, 38, 39, 40, 41, 42, 43, 44, 45, 46, 47, 48, 49, 50, 51, 52, 53, 54, 55, 56, 57, 58, 59, 60, 61, 62, 63] rfl (by decide +kernel)
set_option maxRecDepth 20000 in
theorem gX11_partOf_X11_cap : GoodIn wsX11_partOf (wsV RX11 224 RX11 yX11_cap wsX11_cap) := goodIn_app (goodIn_of _ (by decide +kernel)) ggX11_partOf_X11_cap
set_option maxRecDepth 20000 in
theorem ggX11_partOf_X11_rate : GoodIn wsX11_partOf wsX11_rate := goodIn_r _ [28, 20, 29, 30, 31, 32, 33, 34, 35, 36, 37, 38, 39, 40, 41, 42, 43, 44, 45, 46, 47, 48, 49, 50, 51, 52, 53, 54, 55, 56, 57, 58, 59, 60, 61, 62, 63] rfl (by decide +kernel)
set_option maxRecDepth 20000 in
theorem gX11_partOf_X11_rate : GoodIn wsX11_partOf (wsV RX11 217 RX11 yX11_rate wsX11_rate) := goodIn_app (goodIn_of _ (by decide +kernel)) ggX11_partOf_X11_rate
set_option maxRecDepth 20000 in
theorem ggX11_partOf_X11_thousandths : GoodIn wsX11_partOf wsX11_thousandths := goodIn_r _ [23, 24] rfl (by decide +kernel)
set_option maxRecDepth 20000 in
theorem gX11_partOf_X11_thousandths : GoodIn wsX11_partOf (va_wsS RX11 220 yX11_thousandths wsX11_thousandths) := goodIn_app (goodIn_of _ (by decide +kernel)) ggX11_partOf_X11_thousandths
theorem dX11_partOf_0 : decode cX11_partOf 0 = .ok (.aload_n 0, 1) := by decide +kernel
theorem dX11_partOf_1 : decode cX11_partOf 1 = .ok (.iload_n 1, 1) := by decide +kernel
theorem dX11_partOf_2 : decode cX11_partOf 2 = .ok (.iload_n 2, 1) := by decide +kernel
theorem dX11_partOf_3 : decode cX11_partOf 3 = .ok (.invokevirtual 165, 3) := by decide +kernel
theorem dX11_partOf_6 : decode cX11_partOf 6 = .ok (.istore_n 3, 1) := by decide +kernel
theorem dX11_partOf_7 : decode cX11_partOf 7 = .ok (.iconst 0, 1) := by decide +kernel
theorem dX11_partOf_8 : decode cX11_partOf 8 = .ok (.iload_n 3, 1) := by decide +kernel
theorem dX11_partOf_9 : decode cX11_partOf 9 = .ok (.aload_n 0, 1) := by decide +kernel
theorem dX11_partOf_10 : decode cX11_partOf 10 = .ok (.iload_n 2, 1) := by decide +kernel
theorem dX11_partOf_11 : decode cX11_partOf 11 = .ok (.invokevirtual 224, 3) := by decide +kernel
theorem dX11_partOf_14 : decode cX11_partOf 14 = .ok (.isub, 1) := by decide +kernel
theorem dX11_partOf_15 : decode cX11_partOf 15 = .ok (.invokestatic 227, 3) := by decide +kernel
theorem dX11_partOf_18 : decode cX11_partOf 18 = .ok (.istore 4, 2) := by decide +kernel
theorem dX11_partOf_20 : decode cX11_partOf 20 = .ok (.iload_n 3, 1) := by decide +kernel
theorem dX11_partOf_21 : decode cX11_partOf 21 = .ok (.iload 4, 2) := by decide +kernel
theorem dX11_partOf_23 : decode cX11_partOf 23 = .ok (.isub, 1) := by decide +kernel
theorem dX11_partOf_24 : decode cX11_partOf 24 = .ok (.i2l, 1) := by decide +kernel
theorem dX11_partOf_25 : decode cX11_partOf 25 = .ok (.aload_n 0, 1) := by decide +kernel
theorem dX11_partOf_26 : decode cX11_partOf 26 = .ok (.iload_n 2, 1) := by decide +kernel
theorem dX11_partOf_27 : decode cX11_partOf 27 = .ok (.invokevirtual 217, 3) := by decide +kernel
theorem dX11_partOf_30 : decode cX11_partOf 30 = .ok (.i2l, 1) := by decide +kernel
theorem dX11_partOf_31 : decode cX11_partOf 31 = .ok (.lmul, 1) := by decide +kernel
theorem dX11_partOf_32 : decode cX11_partOf 32 = .ok (.iload 4, 2) := by decide +kernel
theorem dX11_partOf_34 : decode cX11_partOf 34 = .ok (.i2l, 1) := by decide +kernel
theorem dX11_partOf_35 : decode cX11_partOf 35 = .ok (.aload_n 0, 1) := by decide +kernel
theorem dX11_partOf_36 : decode cX11_partOf 36 = .ok (.iload_n 2, 1) := by decide +kernel
theorem dX11_partOf_37 : decode cX11_partOf 37 = .ok (.invokevirtual 217, 3) := by decide +kernel
theorem dX11_partOf_40 : decode cX11_partOf 40 = .ok (.i2l, 1) := by decide +kernel
theorem dX11_partOf_41 : decode cX11_partOf 41 = .ok (.aload_n 0, 1) := by decide +kernel
theorem dX11_partOf_42 : decode cX11_partOf 42 = .ok (.getfield 7, 3) := by decide +kernel
theorem dX11_partOf_45 : decode cX11_partOf 45 = .ok (.bipush 10, 2) := by decide +kernel
theorem dX11_partOf_47 : decode cX11_partOf 47 = .ok (.iaload, 1) := by decide +kernel
theorem dX11_partOf_48 : decode cX11_partOf 48 = .ok (.invokestatic 220, 3) := by decide +kernel
theorem dX11_partOf_51 : decode cX11_partOf 51 = .ok (.lmul, 1) := by decide +kernel
theorem dX11_partOf_52 : decode cX11_partOf 52 = .ok (.ladd, 1) := by decide +kernel
theorem dX11_partOf_53 : decode cX11_partOf 53 = .ok (.lreturn, 1) := by decide +kernel
set_option maxRecDepth 20000 in
theorem ggX11_likeBits_X11_kind : GoodIn wsX11_likeBits wsX11_kind := goodIn_r _ [6, 7, 8, 9, 10, 11, 12, 13, 14, 15, 16, 17, 18, 19, 20, 21, 22, 23, 24, 25, 26, 27, 28, 29, 30, 31, 32, 33, 34, 35, 36, 37, 38, 39, 40, 41, 42] rfl (by decide +kernel)
set_option maxRecDepth 20000 in
theorem gX11_likeBits_X11_kind : GoodIn wsX11_likeBits (wsV RX11 232 RX11 yX11_kind wsX11_kind) := goodIn_app (goodIn_of _ (by decide +kernel)) ggX11_likeBits_X11_kind
theorem dX11_likeBits_0 : decode cX11_likeBits 0 = .ok (.iconst 0, 1) := by decide +kernel
theorem dX11_likeBits_1 : decode cX11_likeBits 1 = .ok (.istore_n 2, 1) := by decide +kernel
theorem dX11_likeBits_2 : decode cX11_likeBits 2 = .ok (.iconst 0, 1) := by decide +kernel
theorem dX11_likeBits_3 : decode cX11_likeBits 3 = .ok (.istore_n 3, 1) := by decide +kernel
theorem dX11_likeBits_4 : decode cX11_likeBits 4 = .ok (.iload_n 3, 1) := by decide +kernel
theorem dX11_likeBits_5 : decode cX11_likeBits 5 = .ok (.aload_n 0, 1) := by decide +kernel
theorem dX11_likeBits_6 : decode cX11_likeBits 6 = .ok (.getfield 75, 3) := by decide +kernel
theorem dX11_likeBits_9 : decode cX11_likeBits 9 = .ok (.if_icmp .ge 28, 3) := by decide +kernel
theorem dX11_likeBits_12 : decode cX11_likeBits 12 = .ok (.iload_n 2, 1) := by decide +kernel
theorem dX11_likeBits_13 : decode cX11_likeBits 13 = .ok (.aload_n 0, 1) := by decide +kernel
theorem dX11_likeBits_14 : decode cX11_likeBits 14 = .ok (.iload_n 3, 1) := by decide +kernel
theorem dX11_likeBits_15 : decode cX11_likeBits 15 = .ok (.invokevirtual 232, 3) := by decide +kernel
theorem dX11_likeBits_18 : decode cX11_likeBits 18 = .ok (.iload_n 1, 1) := by decide +kernel
theorem dX11_likeBits_19 : decode cX11_likeBits 19 = .ok (.if_icmp .ne 9, 3) := by decide +kernel
theorem dX11_likeBits_22 : decode cX11_likeBits 22 = .ok (.iconst 1, 1) := by decide +kernel
theorem dX11_likeBits_23 : decode cX11_likeBits 23 = .ok (.iload_n 3, 1) := by decide +kernel
theorem dX11_likeBits_24 : decode cX11_likeBits 24 = .ok (.ishl, 1) := by decide +kernel
theorem dX11_likeBits_25 : decode cX11_likeBits 25 = .ok (.goto 4, 3) := by decide +kernel
theorem dX11_likeBits_28 : decode cX11_likeBits 28 = .ok (.iconst 0, 1) := by decide +kernel
theorem dX11_likeBits_29 : decode cX11_likeBits 29 = .ok (.ior, 1) := by decide +kernel
theorem dX11_likeBits_30 : decode cX11_likeBits 30 = .ok (.istore_n 2, 1) := by decide +kernel
theorem dX11_likeBits_31 : decode cX11_likeBits 31 = .ok (.iinc 3 1, 3) := by decide +kernel
theorem dX11_likeBits_34 : decode cX11_likeBits 34 = .ok (.goto (-30), 3) := by decide +kernel
theorem dX11_likeBits_37 : decode cX11_likeBits 37 = .ok (.iload_n 2, 1) := by decide +kernel
theorem dX11_likeBits_38 : decode cX11_likeBits 38 = .ok (.ireturn, 1) := by decide +kernel
theorem dX11_countBits_0 : decode cX11_countBits 0 = .ok (.iconst 0, 1) := by decide +kernel
theorem dX11_countBits_1 : decode cX11_countBits 1 = .ok (.istore_n 1, 1) := by decide +kernel
theorem dX11_countBits_2 : decode cX11_countBits 2 = .ok (.iconst 0, 1) := by decide +kernel
theorem dX11_countBits_3 : decode cX11_countBits 3 = .ok (.istore_n 2, 1) := by decide +kernel
theorem dX11_countBits_4 : decode cX11_countBits 4 = .ok (.iload_n 2, 1) := by decide +kernel
theorem dX11_countBits_5 : decode cX11_countBits 5 = .ok (.bipush 31, 2) := by decide +kernel
theorem dX11_countBits_7 : decode cX11_countBits 7 = .ok (.if_icmp .ge 17, 3) := by decide +kernel
theorem dX11_countBits_10 : decode cX11_countBits 10 = .ok (.iload_n 1, 1) := by decide +kernel
theorem dX11_countBits_11 : decode cX11_countBits 11 = .ok (.iload_n 0, 1) := by decide +kernel
theorem dX11_countBits_12 : decode cX11_countBits 12 = .ok (.iload_n 2, 1) := by decide +kernel
theorem dX11_countBits_13 : decode cX11_countBits 13 = .ok (.ishr, 1) := by decide +kernel
theorem dX11_countBits_14 : decode cX11_countBits 14 = .ok (.iconst 1, 1) := by decide +kernel
theorem dX11_countBits_15 : decode cX11_countBits 15 = .ok (.iand, 1) := by decide +kernel
theorem dX11_countBits_16 : decode cX11_countBits 16 = .ok (.iadd, 1) := by decide +kernel
theorem dX11_countBits_17 : decode cX11_countBits 17 = .ok (.istore_n 1, 1) := by decide +kernel
theorem dX11_countBits_18 : decode cX11_countBits 18 = .ok (.iinc 2 1, 3) := by decide +kernel
theorem dX11_countBits_21 : decode cX11_countBits 21 = .ok (.goto (-17), 3) := by decide +kernel
theorem dX11_countBits_24 : decode cX11_countBits 24 = .ok (.iload_n 1, 1) := by decide +kernel
theorem dX11_countBits_25 : decode cX11_countBits 25 = .ok (.ireturn, 1) := by decide +kernel
set_option maxRecDepth 20000 in
theorem ggX11_priceOf_X11_kind : GoodIn wsX11_priceOf wsX11_kind := goodIn_r _ [6, 7, 16, 17, 18, 19, 20, 21, 22, 23, 24, 25, 26, 27, 28, 29, 30, 31, 32, 33, 34, 35, 36, 37, 38, 39, 40, 41, 42, 43, 44, 45, 46, 47, 48, 49, 50] rfl (by decide +kernel)
set_option maxRecDepth 20000 in
theorem gX11_priceOf_X11_kind : GoodIn wsX11_priceOf (wsV RX11 232 RX11 yX11_kind wsX11_kind) := goodIn_app (goodIn_of _ (by decide +kernel)) ggX11_priceOf_X11_kind
set_option maxRecDepth 20000 in
theorem ggX11_priceOf_X11_quantity : GoodIn wsX11_priceOf wsX11_quantity := goodIn_r _ [11, 7, 16, 17, 18, 19, 20, 21, 22, 23, 24, 25, 26, 27, 28, 29, 30, 31, 32, 33, 34, 35, 36, 37, 38, 39, 40, 41, 42, 43, 44, 45, 46, 47, 48, 49, 50] rfl (by decide +kernel)
set_option maxRecDepth 20000 in
theorem gX11_priceOf_X11_quantity : GoodIn wsX11_priceOf (wsV RX11 214 RX11 yX11_quantity wsX11_quantity) := goodIn_app (goodIn_of _ (by decide +kernel)) ggX11_priceOf_X11_quantity
set_option maxRecDepth 20000 in
theorem ggX11_priceOf_X11_rate : GoodIn wsX11_priceOf wsX11_rate := goodIn_r _ [15, 7, 16, 17, 18, 19, 20, 21, 22, 23, 24, 25, 26, 27, 28, 29, 30, 31, 32, 33, 34, 35, 36, 37, 38, 39, 40, 41, 42, 43, 44, 45, 46, 47, 48, 49, 50] rfl (by decide +kernel)
set_option maxRecDepth 20000 in
theorem gX11_priceOf_X11_rate : GoodIn wsX11_priceOf (wsV RX11 217 RX11 yX11_rate wsX11_rate) := goodIn_app (goodIn_of _ (by decide +kernel)) ggX11_priceOf_X11_rate
theorem dX11_priceOf_0 : decode cX11_priceOf 0 = .ok (.iconst 0, 1) := by decide +kernel
theorem dX11_priceOf_1 : decode cX11_priceOf 1 = .ok (.istore_n 3, 1) := by decide +kernel
theorem dX11_priceOf_2 : decode cX11_priceOf 2 = .ok (.iconst 0, 1) := by decide +kernel
theorem dX11_priceOf_3 : decode cX11_priceOf 3 = .ok (.istore 4, 2) := by decide +kernel
theorem dX11_priceOf_5 : decode cX11_priceOf 5 = .ok (.iconst 0, 1) := by decide +kernel
theorem dX11_priceOf_6 : decode cX11_priceOf 6 = .ok (.istore 5, 2) := by decide +kernel
theorem dX11_priceOf_8 : decode cX11_priceOf 8 = .ok (.iload 5, 2) := by decide +kernel
theorem dX11_priceOf_10 : decode cX11_priceOf 10 = .ok (.aload_n 0, 1) := by decide +kernel
theorem dX11_priceOf_11 : decode cX11_priceOf 11 = .ok (.getfield 75, 3) := by decide +kernel
theorem dX11_priceOf_14 : decode cX11_priceOf 14 = .ok (.if_icmp .ge 49, 3) := by decide +kernel
theorem dX11_priceOf_17 : decode cX11_priceOf 17 = .ok (.aload_n 0, 1) := by decide +kernel
theorem dX11_priceOf_18 : decode cX11_priceOf 18 = .ok (.iload 5, 2) := by decide +kernel
theorem dX11_priceOf_20 : decode cX11_priceOf 20 = .ok (.invokevirtual 232, 3) := by decide +kernel
theorem dX11_priceOf_23 : decode cX11_priceOf 23 = .ok (.iload_n 1, 1) := by decide +kernel
theorem dX11_priceOf_24 : decode cX11_priceOf 24 = .ok (.if_icmp .eq 6, 3) := by decide +kernel
theorem dX11_priceOf_27 : decode cX11_priceOf 27 = .ok (.goto 30, 3) := by decide +kernel
theorem dX11_priceOf_30 : decode cX11_priceOf 30 = .ok (.iload_n 3, 1) := by decide +kernel
theorem dX11_priceOf_31 : decode cX11_priceOf 31 = .ok (.aload_n 0, 1) := by decide +kernel
theorem dX11_priceOf_32 : decode cX11_priceOf 32 = .ok (.iload 5, 2) := by decide +kernel
theorem dX11_priceOf_34 : decode cX11_priceOf 34 = .ok (.invokevirtual 214, 3) := by decide +kernel
theorem dX11_priceOf_37 : decode cX11_priceOf 37 = .ok (.iadd, 1) := by decide +kernel
theorem dX11_priceOf_38 : decode cX11_priceOf 38 = .ok (.istore_n 3, 1) := by decide +kernel
theorem dX11_priceOf_39 : decode cX11_priceOf 39 = .ok (.iload 4, 2) := by decide +kernel
theorem dX11_priceOf_41 : decode cX11_priceOf 41 = .ok (.aload_n 0, 1) := by decide +kernel
theorem dX11_priceOf_42 : decode cX11_priceOf 42 = .ok (.iload 5, 2) := by decide +kernel
theorem dX11_priceOf_44 : decode cX11_priceOf 44 = .ok (.invokevirtual 214, 3) := by decide +kernel
theorem dX11_priceOf_47 : decode cX11_priceOf 47 = .ok (.aload_n 0, 1) := by decide +kernel
theorem dX11_priceOf_48 : decode cX11_priceOf 48 = .ok (.iload 5, 2) := by decide +kernel
theorem dX11_priceOf_50 : decode cX11_priceOf 50 = .ok (.invokevirtual 217, 3) := by decide +kernel
theorem dX11_priceOf_53 : decode cX11_priceOf 53 = .ok (.imul, 1) := by decide +kernel
theorem dX11_priceOf_54 : decode cX11_priceOf 54 = .ok (.iadd, 1) := by decide +kernel
theorem dX11_priceOf_55 : decode cX11_priceOf 55 = .ok (.istore 4, 2) := by decide +kernel
theorem dX11_priceOf_57 : decode cX11_priceOf 57 = .ok (.iinc 5 1, 3) := by decide +kernel
theorem dX11_priceOf_60 : decode cX11_priceOf 60 = .ok (.goto (-52), 3) := by decide +kernel
theorem dX11_priceOf_63 : decode cX11_priceOf 63 = .ok (.iload_n 3, 1) := by decide +kernel
theorem dX11_priceOf_64 : decode cX11_priceOf 64 = .ok (.ifCond .ne 7, 3) := by decide +kernel
theorem dX11_priceOf_67 : decode cX11_priceOf 67 = .ok (.iload_n 2, 1) := by decide +kernel
theorem dX11_priceOf_68 : decode cX11_priceOf 68 = .ok (.goto 7, 3) := by decide +kernel
theorem dX11_priceOf_71 : decode cX11_priceOf 71 = .ok (.iload 4, 2) := by decide +kernel
theorem dX11_priceOf_73 : decode cX11_priceOf 73 = .ok (.iload_n 3, 1) := by decide +kernel
theorem dX11_priceOf_74 : decode cX11_priceOf 74 = .ok (.idiv, 1) := by decide +kernel
theorem dX11_priceOf_75 : decode cX11_priceOf 75 = .ok (.ireturn, 1) := by decide +kernel
set_option maxRecDepth 20000 in
theorem ggX11_worth_X11_priceOf : GoodIn wsX11_worth wsX11_priceOf := goodIn_r _ [6, 7, 8, 9, 10, 5, 11, 12, 13, 14, 15, 16, 17, 18, 19, 20, 21, 22, 23, 24, 25, 26, 27, 28, 29, 30, 31, 32, 33, 34, 35, 36, 37, 38, 39, 40, 41, 42, 43, 44, 45, 46, 47, 48, 49, 50, 51, 52, 53, 54, 55] rfl (by decide +kernel)
set_option maxRecDepth 20000 in
theorem gX11_worth_X11_priceOf : GoodIn wsX11_worth (wsV RX11 235 RX11 yX11_priceOf wsX11_priceOf) := goodIn_app (goodIn_of _ (by decide +kernel)) ggX11_worth_X11_priceOf
theorem dX11_worth_0 : decode cX11_worth 0 = .ok (.aload_n 0, 1) := by decide +kernel
theorem dX11_worth_1 : decode cX11_worth 1 = .ok (.getfield 22, 3) := by decide +kernel
theorem dX11_worth_4 : decode cX11_worth 4 = .ok (.iconst 4, 1) := by decide +kernel
theorem dX11_worth_5 : decode cX11_worth 5 = .ok (.iload_n 1, 1) := by decide +kernel
theorem dX11_worth_6 : decode cX11_worth 6 = .ok (.imul, 1) := by decide +kernel
theorem dX11_worth_7 : decode cX11_worth 7 = .ok (.iconst 2, 1) := by decide +kernel
theorem dX11_worth_8 : decode cX11_worth 8 = .ok (.iadd, 1) := by decide +kernel
theorem dX11_worth_9 : decode cX11_worth 9 = .ok (.iaload, 1) := by decide +kernel
theorem dX11_worth_10 : decode cX11_worth 10 = .ok (.i2l, 1) := by decide +kernel
theorem dX11_worth_11 : decode cX11_worth 11 = .ok (.aload_n 0, 1) := by decide +kernel
theorem dX11_worth_12 : decode cX11_worth 12 = .ok (.aload_n 0, 1) := by decide +kernel
theorem dX11_worth_13 : decode cX11_worth 13 = .ok (.getfield 22, 3) := by decide +kernel
theorem dX11_worth_16 : decode cX11_worth 16 = .ok (.iconst 4, 1) := by decide +kernel
theorem dX11_worth_17 : decode cX11_worth 17 = .ok (.iload_n 1, 1) := by decide +kernel
theorem dX11_worth_18 : decode cX11_worth 18 = .ok (.imul, 1) := by decide +kernel
theorem dX11_worth_19 : decode cX11_worth 19 = .ok (.iconst 1, 1) := by decide +kernel
theorem dX11_worth_20 : decode cX11_worth 20 = .ok (.iadd, 1) := by decide +kernel
theorem dX11_worth_21 : decode cX11_worth 21 = .ok (.iaload, 1) := by decide +kernel
theorem dX11_worth_22 : decode cX11_worth 22 = .ok (.aload_n 0, 1) := by decide +kernel
theorem dX11_worth_23 : decode cX11_worth 23 = .ok (.getfield 22, 3) := by decide +kernel
theorem dX11_worth_26 : decode cX11_worth 26 = .ok (.iconst 4, 1) := by decide +kernel
theorem dX11_worth_27 : decode cX11_worth 27 = .ok (.iload_n 1, 1) := by decide +kernel
theorem dX11_worth_28 : decode cX11_worth 28 = .ok (.imul, 1) := by decide +kernel
theorem dX11_worth_29 : decode cX11_worth 29 = .ok (.iconst 3, 1) := by decide +kernel
theorem dX11_worth_30 : decode cX11_worth 30 = .ok (.iadd, 1) := by decide +kernel
theorem dX11_worth_31 : decode cX11_worth 31 = .ok (.iaload, 1) := by decide +kernel
theorem dX11_worth_32 : decode cX11_worth 32 = .ok (.invokevirtual 235, 3) := by decide +kernel
theorem dX11_worth_35 : decode cX11_worth 35 = .ok (.i2l, 1) := by decide +kernel
theorem dX11_worth_36 : decode cX11_worth 36 = .ok (.lmul, 1) := by decide +kernel
theorem dX11_worth_37 : decode cX11_worth 37 = .ok (.lreturn, 1) := by decide +kernel
set_option maxRecDepth 20000 in
theorem ggX11_variedIn_X11_worth : GoodIn wsX11_variedIn wsX11_worth := goodIn_r _ [7, 2, 8, 9, 10, 6, 11, 12, 13, 14, 15, 16, 17, 18, 19, 20, 21, 22, 23, 24, 25, 26, 27, 28, 29, 30, 31, 32, 33, 34, 35, 36, 37, 38, 39, 40, 41, 42, 43, 44, 45, 46, 47, 48, 49, 50, 51, 52, 53, 54, 55, 56, 57, 58, 59, 60] rfl (by decide +kernel)
set_option maxRecDepth 20000 in
theorem gX11_variedIn_X11_worth : GoodIn wsX11_variedIn (wsV RX11 238 RX11 yX11_worth wsX11_worth) := goodIn_app (goodIn_of _ (by decide +kernel)) ggX11_variedIn_X11_worth
theorem dX11_variedIn_0 : decode cX11_variedIn 0 = .ok (.lconst 0, 1) := by decide +kernel
theorem dX11_variedIn_1 : decode cX11_variedIn 1 = .ok (.lstore_n 2, 1) := by decide +kernel
theorem dX11_variedIn_2 : decode cX11_variedIn 2 = .ok (.iconst 0, 1) := by decide +kernel
theorem dX11_variedIn_3 : decode cX11_variedIn 3 = .ok (.istore 4, 2) := by decide +kernel
theorem dX11_variedIn_5 : decode cX11_variedIn 5 = .ok (.iload 4, 2) := by decide +kernel
theorem dX11_variedIn_7 : decode cX11_variedIn 7 = .ok (.aload_n 0, 1) := by decide +kernel
theorem dX11_variedIn_8 : decode cX11_variedIn 8 = .ok (.getfield 79, 3) := by decide +kernel
theorem dX11_variedIn_11 : decode cX11_variedIn 11 = .ok (.if_icmp .ge 35, 3) := by decide +kernel
theorem dX11_variedIn_14 : decode cX11_variedIn 14 = .ok (.lload_n 2, 1) := by decide +kernel
theorem dX11_variedIn_15 : decode cX11_variedIn 15 = .ok (.aload_n 0, 1) := by decide +kernel
theorem dX11_variedIn_16 : decode cX11_variedIn 16 = .ok (.getfield 22, 3) := by decide +kernel
theorem dX11_variedIn_19 : decode cX11_variedIn 19 = .ok (.iconst 4, 1) := by decide +kernel
theorem dX11_variedIn_20 : decode cX11_variedIn 20 = .ok (.iload 4, 2) := by decide +kernel
theorem dX11_variedIn_22 : decode cX11_variedIn 22 = .ok (.imul, 1) := by decide +kernel
theorem dX11_variedIn_23 : decode cX11_variedIn 23 = .ok (.iaload, 1) := by decide +kernel
theorem dX11_variedIn_24 : decode cX11_variedIn 24 = .ok (.iload_n 1, 1) := by decide +kernel
theorem dX11_variedIn_25 : decode cX11_variedIn 25 = .ok (.if_icmp .gt 12, 3) := by decide +kernel
theorem dX11_variedIn_28 : decode cX11_variedIn 28 = .ok (.aload_n 0, 1) := by decide +kernel
theorem dX11_variedIn_29 : decode cX11_variedIn 29 = .ok (.iload 4, 2) := by decide +kernel
theorem dX11_variedIn_31 : decode cX11_variedIn 31 = .ok (.invokevirtual 238, 3) := by decide +kernel
theorem dX11_variedIn_34 : decode cX11_variedIn 34 = .ok (.goto 4, 3) := by decide +kernel
theorem dX11_variedIn_37 : decode cX11_variedIn 37 = .ok (.lconst 0, 1) := by decide +kernel
theorem dX11_variedIn_38 : decode cX11_variedIn 38 = .ok (.ladd, 1) := by decide +kernel
theorem dX11_variedIn_39 : decode cX11_variedIn 39 = .ok (.lstore_n 2, 1) := by decide +kernel
theorem dX11_variedIn_40 : decode cX11_variedIn 40 = .ok (.iinc 4 1, 3) := by decide +kernel
theorem dX11_variedIn_43 : decode cX11_variedIn 43 = .ok (.goto (-38), 3) := by decide +kernel
theorem dX11_variedIn_46 : decode cX11_variedIn 46 = .ok (.lload_n 2, 1) := by decide +kernel
theorem dX11_variedIn_47 : decode cX11_variedIn 47 = .ok (.lreturn, 1) := by decide +kernel
set_option maxRecDepth 20000 in
theorem ggX11_workIn_X11_variedIn : GoodIn wsX11_workIn wsX11_variedIn := goodIn_r _ [6, 7, 8, 9, 10, 11, 5, 12, 13, 14, 15, 16, 1, 17, 18, 19, 20, 21, 22, 23, 24, 25, 26, 27, 28, 29, 52, 53, 54, 55, 56, 57, 58, 59, 60, 61, 62, 63, 64, 65, 66, 67, 68, 69, 70, 71, 72, 73, 74, 75, 76, 77, 78, 79, 80, 81, 82, 83, 84, 85, 86] rfl (by decide +kernel)
set_option maxRecDepth 20000 in
theorem gX11_workIn_X11_variedIn : GoodIn wsX11_workIn (wsV RX11 242 RX11 yX11_variedIn wsX11_variedIn) := goodIn_app (goodIn_of _ (by decide +kernel)) ggX11_workIn_X11_variedIn
set_option maxRecDepth 20000 in
theorem ggX11_workIn_X11_partOf : GoodIn wsX11_workIn wsX11_partOf := goodIn_r _ [33, 34, 35, 36, 37, 38, 39, 40, 41, 5, 42, 43, 44, 45, 46, 47, 22, 23, 24, 25, 21, 48, 49, 50, 51, 26, 27, 28, 29, 52, 53, 54, 55, 56, 57, 58, 59, 60, 61, 62, 63, 64, 65, 66, 67, 68, 69, 70, 71, 72, 73, 74, 75, 76, 77, 78, 79, 80, 81, 82, 83, 84, 85, 86] rfl (by decide +kernel)
set_option maxRecDepth 20000 in
theorem gX11_workIn_X11_partOf : GoodIn wsX11_workIn (wsV RX11 245 RX11 yX11_partOf wsX11_partOf) := goodIn_app (goodIn_of _ (by decide +kernel)) ggX11_workIn_X11_partOf
theorem dX11_workIn_0 : decode cX11_workIn 0 = .ok (.aload_n 0, 1) := by decide +kernel
theorem dX11_workIn_1 : decode cX11_workIn 1 = .ok (.iload_n 1, 1) := by decide +kernel
theorem dX11_workIn_2 : decode cX11_workIn 2 = .ok (.invokevirtual 242, 3) := by decide +kernel
theorem dX11_workIn_5 : decode cX11_workIn 5 = .ok (.lstore_n 2, 1) := by decide +kernel
theorem dX11_workIn_6 : decode cX11_workIn 6 = .ok (.iconst 0, 1) := by decide +kernel
theorem dX11_workIn_7 : decode cX11_workIn 7 = .ok (.istore 4, 2) := by decide +kernel
theorem dX11_workIn_9 : decode cX11_workIn 9 = .ok (.iload 4, 2) := by decide +kernel
theorem dX11_workIn_11 : decode cX11_workIn 11 = .ok (.aload_n 0, 1) := by decide +kernel
theorem dX11_workIn_12 : decode cX11_workIn 12 = .ok (.getfield 75, 3) := by decide +kernel
theorem dX11_workIn_15 : decode cX11_workIn 15 = .ok (.if_icmp .ge 19, 3) := by decide +kernel
theorem dX11_workIn_18 : decode cX11_workIn 18 = .ok (.lload_n 2, 1) := by decide +kernel
theorem dX11_workIn_19 : decode cX11_workIn 19 = .ok (.aload_n 0, 1) := by decide +kernel
theorem dX11_workIn_20 : decode cX11_workIn 20 = .ok (.iload_n 1, 1) := by decide +kernel
theorem dX11_workIn_21 : decode cX11_workIn 21 = .ok (.iload 4, 2) := by decide +kernel
theorem dX11_workIn_23 : decode cX11_workIn 23 = .ok (.invokevirtual 245, 3) := by decide +kernel
theorem dX11_workIn_26 : decode cX11_workIn 26 = .ok (.ladd, 1) := by decide +kernel
theorem dX11_workIn_27 : decode cX11_workIn 27 = .ok (.lstore_n 2, 1) := by decide +kernel
theorem dX11_workIn_28 : decode cX11_workIn 28 = .ok (.iinc 4 1, 3) := by decide +kernel
theorem dX11_workIn_31 : decode cX11_workIn 31 = .ok (.goto (-22), 3) := by decide +kernel
theorem dX11_workIn_34 : decode cX11_workIn 34 = .ok (.lload_n 2, 1) := by decide +kernel
theorem dX11_workIn_35 : decode cX11_workIn 35 = .ok (.lreturn, 1) := by decide +kernel
set_option maxRecDepth 20000 in
theorem ggX11_materialsIn_X11_storedIn : GoodIn wsX11_materialsIn wsX11_storedIn := goodIn_r _ [7, 8, 13, 14, 15, 16, 17, 18, 19, 20, 21, 22, 23, 24, 25, 26, 27, 28, 29, 30, 31, 32, 33, 34, 35, 36, 37, 38, 39, 40, 41, 42, 43, 44, 45, 46, 47] rfl (by decide +kernel)
set_option maxRecDepth 20000 in
theorem gX11_materialsIn_X11_storedIn : GoodIn wsX11_materialsIn (wsV RX11 171 RX11 yX11_storedIn wsX11_storedIn) := goodIn_app (goodIn_of _ (by decide +kernel)) ggX11_materialsIn_X11_storedIn
set_option maxRecDepth 20000 in
theorem ggX11_materialsIn_X11_thousandths : GoodIn wsX11_materialsIn wsX11_thousandths := goodIn_r _ [11, 12] rfl (by decide +kernel)
set_option maxRecDepth 20000 in
theorem gX11_materialsIn_X11_thousandths : GoodIn wsX11_materialsIn (va_wsS RX11 220 yX11_thousandths wsX11_thousandths) := goodIn_app (goodIn_of _ (by decide +kernel)) ggX11_materialsIn_X11_thousandths
theorem dX11_materialsIn_0 : decode cX11_materialsIn 0 = .ok (.iload_n 1, 1) := by decide +kernel
theorem dX11_materialsIn_1 : decode cX11_materialsIn 1 = .ok (.aload_n 0, 1) := by decide +kernel
theorem dX11_materialsIn_2 : decode cX11_materialsIn 2 = .ok (.getfield 85, 3) := by decide +kernel
theorem dX11_materialsIn_5 : decode cX11_materialsIn 5 = .ok (.if_icmp .lt 7, 3) := by decide +kernel
theorem dX11_materialsIn_8 : decode cX11_materialsIn 8 = .ok (.lconst 0, 1) := by decide +kernel
theorem dX11_materialsIn_9 : decode cX11_materialsIn 9 = .ok (.goto 19, 3) := by decide +kernel
theorem dX11_materialsIn_12 : decode cX11_materialsIn 12 = .ok (.aload_n 0, 1) := by decide +kernel
theorem dX11_materialsIn_13 : decode cX11_materialsIn 13 = .ok (.iload_n 1, 1) := by decide +kernel
theorem dX11_materialsIn_14 : decode cX11_materialsIn 14 = .ok (.invokevirtual 171, 3) := by decide +kernel
theorem dX11_materialsIn_17 : decode cX11_materialsIn 17 = .ok (.i2l, 1) := by decide +kernel
theorem dX11_materialsIn_18 : decode cX11_materialsIn 18 = .ok (.aload_n 0, 1) := by decide +kernel
theorem dX11_materialsIn_19 : decode cX11_materialsIn 19 = .ok (.getfield 7, 3) := by decide +kernel
theorem dX11_materialsIn_22 : decode cX11_materialsIn 22 = .ok (.bipush 6, 2) := by decide +kernel
theorem dX11_materialsIn_24 : decode cX11_materialsIn 24 = .ok (.iaload, 1) := by decide +kernel
theorem dX11_materialsIn_25 : decode cX11_materialsIn 25 = .ok (.invokestatic 220, 3) := by decide +kernel
theorem dX11_materialsIn_28 : decode cX11_materialsIn 28 = .ok (.lreturn, 1) := by decide +kernel
set_option maxRecDepth 20000 in
theorem ggX11_limitNow_X11_sumNow : GoodIn wsX11_limitNow wsX11_sumNow := goodIn_r _ [6, 7, 8, 9, 10, 5, 11, 12, 13, 14, 15, 16, 21, 22, 23, 24, 25, 26, 27, 28, 29, 30, 31, 32, 33, 34, 35, 36, 37, 38, 39, 40, 41, 42, 43, 44, 45, 46, 47, 48, 49, 50, 51, 52, 53, 54, 55] rfl (by decide +kernel)
set_option maxRecDepth 20000 in
theorem gX11_limitNow_X11_sumNow : GoodIn wsX11_limitNow (wsV RX11 249 RX11 yX11_sumNow wsX11_sumNow) := goodIn_app (goodIn_of _ (by decide +kernel)) ggX11_limitNow_X11_sumNow
set_option maxRecDepth 20000 in
theorem ggX11_limitNow_X11_thousandths : GoodIn wsX11_limitNow wsX11_thousandths := goodIn_r _ [19, 20] rfl (by decide +kernel)
set_option maxRecDepth 20000 in
theorem gX11_limitNow_X11_thousandths : GoodIn wsX11_limitNow (va_wsS RX11 220 yX11_thousandths wsX11_thousandths) := goodIn_app (goodIn_of _ (by decide +kernel)) ggX11_limitNow_X11_thousandths
theorem dX11_limitNow_0 : decode cX11_limitNow 0 = .ok (.aload_n 0, 1) := by decide +kernel
theorem dX11_limitNow_1 : decode cX11_limitNow 1 = .ok (.invokevirtual 249, 3) := by decide +kernel
theorem dX11_limitNow_4 : decode cX11_limitNow 4 = .ok (.aload_n 0, 1) := by decide +kernel
theorem dX11_limitNow_5 : decode cX11_limitNow 5 = .ok (.getfield 7, 3) := by decide +kernel
theorem dX11_limitNow_8 : decode cX11_limitNow 8 = .ok (.iconst 1, 1) := by decide +kernel
theorem dX11_limitNow_9 : decode cX11_limitNow 9 = .ok (.iaload, 1) := by decide +kernel
theorem dX11_limitNow_10 : decode cX11_limitNow 10 = .ok (.invokestatic 220, 3) := by decide +kernel
theorem dX11_limitNow_13 : decode cX11_limitNow 13 = .ok (.lreturn, 1) := by decide +kernel
set_option maxRecDepth 20000 in
theorem ggX11_retainedIn_X11_limitNow : GoodIn wsX11_retainedIn wsX11_limitNow := goodIn_r _ [15, 6, 16, 17, 18, 14, 19, 20, 21, 22, 23, 24, 25, 26, 27, 28, 29, 30, 31, 32, 33, 72, 73, 74, 75, 76, 77, 78, 79, 80, 81, 82, 83, 84, 85, 86, 87, 88, 89, 90, 91, 92, 93, 94, 95, 96, 97, 98, 99, 100, 101, 102, 103, 104, 105, 106] rfl (by decide +kernel)
set_option maxRecDepth 20000 in
theorem gX11_retainedIn_X11_limitNow : GoodIn wsX11_retainedIn (wsV RX11 253 RX11 yX11_limitNow wsX11_limitNow) := goodIn_app (goodIn_of _ (by decide +kernel)) ggX11_retainedIn_X11_limitNow
set_option maxRecDepth 20000 in
theorem ggX11_retainedIn_X11_workIn : GoodIn wsX11_retainedIn wsX11_workIn := goodIn_r _ [37, 20, 38, 39, 40, 14, 41, 42, 43, 44, 45, 46, 47, 48, 49, 50, 51, 52, 53, 54, 55, 25, 21, 22, 23, 24, 26, 27, 28, 29, 56, 57, 58, 59, 60, 61, 4, 62, 6, 63, 64, 65, 66, 67, 68, 69, 70, 71, 30, 31, 32, 33, 72, 73, 74, 75, 76, 77, 78, 79, 80, 81, 82, 83, 84, 85, 86, 87, 88, 89, 90, 91, 92, 93, 94, 95, 96, 97, 98, 99, 100, 101, 102, 103, 104, 105, 106] rfl (by decide +kernel)
set_option maxRecDepth 20000 in
theorem gX11_retainedIn_X11_workIn : GoodIn wsX11_retainedIn (wsV RX11 256 RX11 yX11_workIn wsX11_workIn) := goodIn_app (goodIn_of _ (by decide +kernel)) ggX11_retainedIn_X11_workIn
set_option maxRecDepth 20000 in
theorem ggX11_retainedIn_X11_thousandths : GoodIn wsX11_retainedIn wsX11_thousandths := goodIn_r _ [32, 33] rfl (by decide +kernel)
set_option maxRecDepth 20000 in
theorem gX11_retainedIn_X11_thousandths : GoodIn wsX11_retainedIn (va_wsS RX11 220 yX11_thousandths wsX11_thousandths) := goodIn_app (goodIn_of _ (by decide +kernel)) ggX11_retainedIn_X11_thousandths
theorem dX11_retainedIn_0 : decode cX11_retainedIn 0 = .ok (.iload_n 1, 1) := by decide +kernel
theorem dX11_retainedIn_1 : decode cX11_retainedIn 1 = .ok (.aload_n 0, 1) := by decide +kernel
theorem dX11_retainedIn_2 : decode cX11_retainedIn 2 = .ok (.getfield 88, 3) := by decide +kernel
theorem dX11_retainedIn_5 : decode cX11_retainedIn 5 = .ok (.if_icmp .lt 5, 3) := by decide +kernel
theorem dX11_retainedIn_8 : decode cX11_retainedIn 8 = .ok (.lconst 0, 1) := by decide +kernel
theorem dX11_retainedIn_9 : decode cX11_retainedIn 9 = .ok (.lreturn, 1) := by decide +kernel
theorem dX11_retainedIn_10 : decode cX11_retainedIn 10 = .ok (.aload_n 0, 1) := by decide +kernel
theorem dX11_retainedIn_11 : decode cX11_retainedIn 11 = .ok (.invokevirtual 253, 3) := by decide +kernel
theorem dX11_retainedIn_14 : decode cX11_retainedIn 14 = .ok (.lconst 0, 1) := by decide +kernel
theorem dX11_retainedIn_15 : decode cX11_retainedIn 15 = .ok (.aload_n 0, 1) := by decide +kernel
theorem dX11_retainedIn_16 : decode cX11_retainedIn 16 = .ok (.iload_n 1, 1) := by decide +kernel
theorem dX11_retainedIn_17 : decode cX11_retainedIn 17 = .ok (.invokevirtual 256, 3) := by decide +kernel
theorem dX11_retainedIn_20 : decode cX11_retainedIn 20 = .ok (.invokestatic 259, 3) := by decide +kernel
theorem dX11_retainedIn_23 : decode cX11_retainedIn 23 = .ok (.aload_n 0, 1) := by decide +kernel
theorem dX11_retainedIn_24 : decode cX11_retainedIn 24 = .ok (.getfield 7, 3) := by decide +kernel
theorem dX11_retainedIn_27 : decode cX11_retainedIn 27 = .ok (.iconst 0, 1) := by decide +kernel
theorem dX11_retainedIn_28 : decode cX11_retainedIn 28 = .ok (.iaload, 1) := by decide +kernel
theorem dX11_retainedIn_29 : decode cX11_retainedIn 29 = .ok (.invokestatic 220, 3) := by decide +kernel
theorem dX11_retainedIn_32 : decode cX11_retainedIn 32 = .ok (.invokestatic 262, 3) := by decide +kernel
theorem dX11_retainedIn_35 : decode cX11_retainedIn 35 = .ok (.lstore_n 2, 1) := by decide +kernel
theorem dX11_retainedIn_36 : decode cX11_retainedIn 36 = .ok (.iload_n 1, 1) := by decide +kernel
theorem dX11_retainedIn_37 : decode cX11_retainedIn 37 = .ok (.aload_n 0, 1) := by decide +kernel
theorem dX11_retainedIn_38 : decode cX11_retainedIn 38 = .ok (.getfield 85, 3) := by decide +kernel
theorem dX11_retainedIn_41 : decode cX11_retainedIn 41 = .ok (.if_icmp .lt 18, 3) := by decide +kernel
theorem dX11_retainedIn_44 : decode cX11_retainedIn 44 = .ok (.lload_n 2, 1) := by decide +kernel
theorem dX11_retainedIn_45 : decode cX11_retainedIn 45 = .ok (.lload_n 2, 1) := by decide +kernel
theorem dX11_retainedIn_46 : decode cX11_retainedIn 46 = .ok (.aload_n 0, 1) := by decide +kernel
theorem dX11_retainedIn_47 : decode cX11_retainedIn 47 = .ok (.getfield 7, 3) := by decide +kernel
theorem dX11_retainedIn_50 : decode cX11_retainedIn 50 = .ok (.iconst 2, 1) := by decide +kernel
theorem dX11_retainedIn_51 : decode cX11_retainedIn 51 = .ok (.iaload, 1) := by decide +kernel
theorem dX11_retainedIn_52 : decode cX11_retainedIn 52 = .ok (.invokestatic 220, 3) := by decide +kernel
theorem dX11_retainedIn_55 : decode cX11_retainedIn 55 = .ok (.lsub, 1) := by decide +kernel
theorem dX11_retainedIn_56 : decode cX11_retainedIn 56 = .ok (.goto 4, 3) := by decide +kernel
theorem dX11_retainedIn_59 : decode cX11_retainedIn 59 = .ok (.lload_n 2, 1) := by decide +kernel
theorem dX11_retainedIn_60 : decode cX11_retainedIn 60 = .ok (.lreturn, 1) := by decide +kernel
set_option maxRecDepth 20000 in
theorem ggX11_advancedNow_X11_sumNow : GoodIn wsX11_advancedNow wsX11_sumNow := goodIn_r _ [6, 7, 8, 9, 10, 5, 11, 12, 13, 14, 15, 16, 21, 22, 23, 24, 25, 26, 27, 28, 29, 30, 31, 32, 33, 34, 35, 36, 37, 38, 39, 40, 41, 42, 43, 44, 45, 46, 47, 48, 49, 50, 51, 52, 53, 54, 55] rfl (by decide +kernel)
set_option maxRecDepth 20000 in
theorem gX11_advancedNow_X11_sumNow : GoodIn wsX11_advancedNow (wsV RX11 249 RX11 yX11_sumNow wsX11_sumNow) := goodIn_app (goodIn_of _ (by decide +kernel)) ggX11_advancedNow_X11_sumNow
set_option maxRecDepth 20000 in
theorem ggX11_advancedNow_X11_thousandths : GoodIn wsX11_advancedNow wsX11_thousandths := goodIn_r _ [19, 20] rfl (by decide +kernel)
set_option maxRecDepth 20000 in
theorem gX11_advancedNow_X11_thousandths : GoodIn wsX11_advancedNow (va_wsS RX11 220 yX11_thousandths wsX11_thousandths) := goodIn_app (goodIn_of _ (by decide +kernel)) ggX11_advancedNow_X11_thousandths
theorem dX11_advancedNow_0 : decode cX11_advancedNow 0 = .ok (.aload_n 0, 1) := by decide +kernel
theorem dX11_advancedNow_1 : decode cX11_advancedNow 1 = .ok (.invokevirtual 249, 3) := by decide +kernel
theorem dX11_advancedNow_4 : decode cX11_advancedNow 4 = .ok (.aload_n 0, 1) := by decide +kernel
theorem dX11_advancedNow_5 : decode cX11_advancedNow 5 = .ok (.getfield 7, 3) := by decide +kernel
theorem dX11_advancedNow_8 : decode cX11_advancedNow 8 = .ok (.iconst 3, 1) := by decide +kernel
theorem dX11_advancedNow_9 : decode cX11_advancedNow 9 = .ok (.iaload, 1) := by decide +kernel
theorem dX11_advancedNow_10 : decode cX11_advancedNow 10 = .ok (.invokestatic 220, 3) := by decide +kernel
theorem dX11_advancedNow_13 : decode cX11_advancedNow 13 = .ok (.lreturn, 1) := by decide +kernel
set_option maxRecDepth 20000 in
theorem ggX11_heldOf_X11_thousandths : GoodIn wsX11_heldOf wsX11_thousandths := goodIn_r _ [5, 6] rfl (by decide +kernel)
set_option maxRecDepth 20000 in
theorem gX11_heldOf_X11_thousandths : GoodIn wsX11_heldOf (va_wsS RX11 220 yX11_thousandths wsX11_thousandths) := goodIn_app (goodIn_of _ (by decide +kernel)) ggX11_heldOf_X11_thousandths
theorem dX11_heldOf_0 : decode cX11_heldOf 0 = .ok (.iconst 5, 1) := by decide +kernel
theorem dX11_heldOf_1 : decode cX11_heldOf 1 = .ok (.iload_n 1, 1) := by decide +kernel
theorem dX11_heldOf_2 : decode cX11_heldOf 2 = .ok (.imul, 1) := by decide +kernel
theorem dX11_heldOf_3 : decode cX11_heldOf 3 = .ok (.istore_n 3, 1) := by decide +kernel
theorem dX11_heldOf_4 : decode cX11_heldOf 4 = .ok (.iload_n 2, 1) := by decide +kernel
theorem dX11_heldOf_5 : decode cX11_heldOf 5 = .ok (.aload_n 0, 1) := by decide +kernel
theorem dX11_heldOf_6 : decode cX11_heldOf 6 = .ok (.getfield 25, 3) := by decide +kernel
theorem dX11_heldOf_9 : decode cX11_heldOf 9 = .ok (.iload_n 3, 1) := by decide +kernel
theorem dX11_heldOf_10 : decode cX11_heldOf 10 = .ok (.iaload, 1) := by decide +kernel
theorem dX11_heldOf_11 : decode cX11_heldOf 11 = .ok (.if_icmp .ge 5, 3) := by decide +kernel
theorem dX11_heldOf_14 : decode cX11_heldOf 14 = .ok (.iconst 0, 1) := by decide +kernel
theorem dX11_heldOf_15 : decode cX11_heldOf 15 = .ok (.ireturn, 1) := by decide +kernel
theorem dX11_heldOf_16 : decode cX11_heldOf 16 = .ok (.iload_n 2, 1) := by decide +kernel
theorem dX11_heldOf_17 : decode cX11_heldOf 17 = .ok (.aload_n 0, 1) := by decide +kernel
theorem dX11_heldOf_18 : decode cX11_heldOf 18 = .ok (.getfield 25, 3) := by decide +kernel
theorem dX11_heldOf_21 : decode cX11_heldOf 21 = .ok (.iload_n 3, 1) := by decide +kernel
theorem dX11_heldOf_22 : decode cX11_heldOf 22 = .ok (.iconst 3, 1) := by decide +kernel
theorem dX11_heldOf_23 : decode cX11_heldOf 23 = .ok (.iadd, 1) := by decide +kernel
theorem dX11_heldOf_24 : decode cX11_heldOf 24 = .ok (.iaload, 1) := by decide +kernel
theorem dX11_heldOf_25 : decode cX11_heldOf 25 = .ok (.if_icmp .lt 25, 3) := by decide +kernel
theorem dX11_heldOf_28 : decode cX11_heldOf 28 = .ok (.aload_n 0, 1) := by decide +kernel
theorem dX11_heldOf_29 : decode cX11_heldOf 29 = .ok (.getfield 25, 3) := by decide +kernel
theorem dX11_heldOf_32 : decode cX11_heldOf 32 = .ok (.iload_n 3, 1) := by decide +kernel
theorem dX11_heldOf_33 : decode cX11_heldOf 33 = .ok (.iconst 1, 1) := by decide +kernel
theorem dX11_heldOf_34 : decode cX11_heldOf 34 = .ok (.iadd, 1) := by decide +kernel
theorem dX11_heldOf_35 : decode cX11_heldOf 35 = .ok (.iaload, 1) := by decide +kernel
theorem dX11_heldOf_36 : decode cX11_heldOf 36 = .ok (.i2l, 1) := by decide +kernel
theorem dX11_heldOf_37 : decode cX11_heldOf 37 = .ok (.aload_n 0, 1) := by decide +kernel
theorem dX11_heldOf_38 : decode cX11_heldOf 38 = .ok (.getfield 25, 3) := by decide +kernel
theorem dX11_heldOf_41 : decode cX11_heldOf 41 = .ok (.iload_n 3, 1) := by decide +kernel
theorem dX11_heldOf_42 : decode cX11_heldOf 42 = .ok (.iconst 4, 1) := by decide +kernel
theorem dX11_heldOf_43 : decode cX11_heldOf 43 = .ok (.iadd, 1) := by decide +kernel
theorem dX11_heldOf_44 : decode cX11_heldOf 44 = .ok (.iaload, 1) := by decide +kernel
theorem dX11_heldOf_45 : decode cX11_heldOf 45 = .ok (.invokestatic 220, 3) := by decide +kernel
theorem dX11_heldOf_48 : decode cX11_heldOf 48 = .ok (.l2i, 1) := by decide +kernel
theorem dX11_heldOf_49 : decode cX11_heldOf 49 = .ok (.ireturn, 1) := by decide +kernel
theorem dX11_heldOf_50 : decode cX11_heldOf 50 = .ok (.iload_n 2, 1) := by decide +kernel
theorem dX11_heldOf_51 : decode cX11_heldOf 51 = .ok (.aload_n 0, 1) := by decide +kernel
theorem dX11_heldOf_52 : decode cX11_heldOf 52 = .ok (.getfield 25, 3) := by decide +kernel
theorem dX11_heldOf_55 : decode cX11_heldOf 55 = .ok (.iload_n 3, 1) := by decide +kernel
theorem dX11_heldOf_56 : decode cX11_heldOf 56 = .ok (.iconst 2, 1) := by decide +kernel
theorem dX11_heldOf_57 : decode cX11_heldOf 57 = .ok (.iadd, 1) := by decide +kernel
theorem dX11_heldOf_58 : decode cX11_heldOf 58 = .ok (.iaload, 1) := by decide +kernel
theorem dX11_heldOf_59 : decode cX11_heldOf 59 = .ok (.if_icmp .lt 7, 3) := by decide +kernel
theorem dX11_heldOf_62 : decode cX11_heldOf 62 = .ok (.iconst 0, 1) := by decide +kernel
theorem dX11_heldOf_63 : decode cX11_heldOf 63 = .ok (.goto 11, 3) := by decide +kernel
theorem dX11_heldOf_66 : decode cX11_heldOf 66 = .ok (.aload_n 0, 1) := by decide +kernel
theorem dX11_heldOf_67 : decode cX11_heldOf 67 = .ok (.getfield 25, 3) := by decide +kernel
theorem dX11_heldOf_70 : decode cX11_heldOf 70 = .ok (.iload_n 3, 1) := by decide +kernel
theorem dX11_heldOf_71 : decode cX11_heldOf 71 = .ok (.iconst 1, 1) := by decide +kernel
theorem dX11_heldOf_72 : decode cX11_heldOf 72 = .ok (.iadd, 1) := by decide +kernel
theorem dX11_heldOf_73 : decode cX11_heldOf 73 = .ok (.iaload, 1) := by decide +kernel
theorem dX11_heldOf_74 : decode cX11_heldOf 74 = .ok (.ireturn, 1) := by decide +kernel
set_option maxRecDepth 20000 in
theorem ggX11_setIn_X11_heldOf : GoodIn wsX11_setIn wsX11_heldOf := goodIn_r _ [6, 7, 8, 9, 5, 10, 11, 12, 13, 14, 15, 16, 17, 18, 19, 20, 21, 22, 23, 24, 25, 26, 27, 28, 29, 30, 31, 32, 33, 34, 35, 36, 37, 38, 39, 40, 41, 42, 43, 44, 45, 46] rfl (by decide +kernel)
set_option maxRecDepth 20000 in
theorem gX11_setIn_X11_heldOf : GoodIn wsX11_setIn (wsV RX11 197 RX11 yX11_heldOf wsX11_heldOf) := goodIn_app (goodIn_of _ (by decide +kernel)) ggX11_setIn_X11_heldOf
theorem dX11_setIn_0 : decode cX11_setIn 0 = .ok (.lconst 0, 1) := by decide +kernel
theorem dX11_setIn_1 : decode cX11_setIn 1 = .ok (.lstore_n 2, 1) := by decide +kernel
theorem dX11_setIn_2 : decode cX11_setIn 2 = .ok (.iconst 0, 1) := by decide +kernel
theorem dX11_setIn_3 : decode cX11_setIn 3 = .ok (.istore 4, 2) := by decide +kernel
theorem dX11_setIn_5 : decode cX11_setIn 5 = .ok (.iload 4, 2) := by decide +kernel
theorem dX11_setIn_7 : decode cX11_setIn 7 = .ok (.aload_n 0, 1) := by decide +kernel
theorem dX11_setIn_8 : decode cX11_setIn 8 = .ok (.getfield 82, 3) := by decide +kernel
theorem dX11_setIn_11 : decode cX11_setIn 11 = .ok (.if_icmp .ge 20, 3) := by decide +kernel
theorem dX11_setIn_14 : decode cX11_setIn 14 = .ok (.lload_n 2, 1) := by decide +kernel
theorem dX11_setIn_15 : decode cX11_setIn 15 = .ok (.aload_n 0, 1) := by decide +kernel
theorem dX11_setIn_16 : decode cX11_setIn 16 = .ok (.iload 4, 2) := by decide +kernel
theorem dX11_setIn_18 : decode cX11_setIn 18 = .ok (.iload_n 1, 1) := by decide +kernel
theorem dX11_setIn_19 : decode cX11_setIn 19 = .ok (.invokevirtual 197, 3) := by decide +kernel
theorem dX11_setIn_22 : decode cX11_setIn 22 = .ok (.i2l, 1) := by decide +kernel
theorem dX11_setIn_23 : decode cX11_setIn 23 = .ok (.ladd, 1) := by decide +kernel
theorem dX11_setIn_24 : decode cX11_setIn 24 = .ok (.lstore_n 2, 1) := by decide +kernel
theorem dX11_setIn_25 : decode cX11_setIn 25 = .ok (.iinc 4 1, 3) := by decide +kernel
theorem dX11_setIn_28 : decode cX11_setIn 28 = .ok (.goto (-23), 3) := by decide +kernel
theorem dX11_setIn_31 : decode cX11_setIn 31 = .ok (.lload_n 2, 1) := by decide +kernel
theorem dX11_setIn_32 : decode cX11_setIn 32 = .ok (.lreturn, 1) := by decide +kernel
set_option maxRecDepth 20000 in
theorem ggX11_mostDamages_X11_sumNow : GoodIn wsX11_mostDamages wsX11_sumNow := goodIn_r _ [6, 7, 8, 9, 10, 5, 11, 12, 13, 14, 15, 16, 21, 22, 23, 24, 25, 26, 27, 28, 29, 30, 31, 32, 33, 34, 35, 36, 37, 38, 39, 40, 41, 42, 43, 44, 45, 46, 47, 48, 49, 50, 51, 52, 53, 54, 55] rfl (by decide +kernel)
set_option maxRecDepth 20000 in
theorem gX11_mostDamages_X11_sumNow : GoodIn wsX11_mostDamages (wsV RX11 249 RX11 yX11_sumNow wsX11_sumNow) := goodIn_app (goodIn_of _ (by decide +kernel)) ggX11_mostDamages_X11_sumNow
set_option maxRecDepth 20000 in
theorem ggX11_mostDamages_X11_thousandths : GoodIn wsX11_mostDamages wsX11_thousandths := goodIn_r _ [19, 20] rfl (by decide +kernel)
set_option maxRecDepth 20000 in
theorem gX11_mostDamages_X11_thousandths : GoodIn wsX11_mostDamages (va_wsS RX11 220 yX11_thousandths wsX11_thousandths) := goodIn_app (goodIn_of _ (by decide +kernel)) ggX11_mostDamages_X11_thousandths
theorem dX11_mostDamages_0 : decode cX11_mostDamages 0 = .ok (.aload_n 0, 1) := by decide +kernel
theorem dX11_mostDamages_1 : decode cX11_mostDamages 1 = .ok (.invokevirtual 249, 3) := by decide +kernel
theorem dX11_mostDamages_4 : decode cX11_mostDamages 4 = .ok (.aload_n 0, 1) := by decide +kernel
theorem dX11_mostDamages_5 : decode cX11_mostDamages 5 = .ok (.getfield 7, 3) := by decide +kernel
theorem dX11_mostDamages_8 : decode cX11_mostDamages 8 = .ok (.bipush 12, 2) := by decide +kernel
theorem dX11_mostDamages_10 : decode cX11_mostDamages 10 = .ok (.iaload, 1) := by decide +kernel
theorem dX11_mostDamages_11 : decode cX11_mostDamages 11 = .ok (.invokestatic 220, 3) := by decide +kernel
theorem dX11_mostDamages_14 : decode cX11_mostDamages 14 = .ok (.lreturn, 1) := by decide +kernel
set_option maxRecDepth 20000 in
theorem ggX11_damagesBy_X11_mostDamages : GoodIn wsX11_damagesBy wsX11_mostDamages := goodIn_r _ [18, 10, 19, 20, 21, 17, 22, 23, 24, 25, 26, 27, 28, 29, 30, 31, 32, 33, 34, 35, 36, 37, 38, 39, 40, 41, 42, 43, 44, 45, 46, 47, 48, 49, 50, 51, 52, 53, 54, 55, 56, 57, 58, 59, 60, 61, 62, 63, 64, 65, 66, 67, 68, 69, 70, 71] rfl (by decide +kernel)
set_option maxRecDepth 20000 in
theorem gX11_damagesBy_X11_mostDamages : GoodIn wsX11_damagesBy (wsV RX11 267 RX11 yX11_mostDamages wsX11_mostDamages) := goodIn_app (goodIn_of _ (by decide +kernel)) ggX11_damagesBy_X11_mostDamages
set_option maxRecDepth 20000 in
theorem ggX11_damagesBy_X11_sumNow : GoodIn wsX11_damagesBy wsX11_sumNow := goodIn_r _ [22, 23, 24, 25, 26, 17, 27, 28, 29, 30, 31, 32, 37, 38, 39, 40, 41, 42, 43, 44, 45, 46, 47, 48, 49, 50, 51, 52, 53, 54, 55, 56, 57, 58, 59, 60, 61, 62, 63, 64, 65, 66, 67, 68, 69, 70, 71] rfl (by decide +kernel)
set_option maxRecDepth 20000 in
theorem gX11_damagesBy_X11_sumNow : GoodIn wsX11_damagesBy (wsV RX11 249 RX11 yX11_sumNow wsX11_sumNow) := goodIn_app (goodIn_of _ (by decide +kernel)) ggX11_damagesBy_X11_sumNow
set_option maxRecDepth 20000 in
theorem ggX11_damagesBy_X11_thousandths : GoodIn wsX11_damagesBy wsX11_thousandths := goodIn_r _ [35, 36] rfl (by decide +kernel)
set_option maxRecDepth 20000 in
theorem gX11_damagesBy_X11_thousandths : GoodIn wsX11_damagesBy (va_wsS RX11 220 yX11_thousandths wsX11_thousandths) := goodIn_app (goodIn_of _ (by decide +kernel)) ggX11_damagesBy_X11_thousandths
theorem dX11_damagesBy_0 : decode cX11_damagesBy 0 = .ok (.aload_n 0, 1) := by decide +kernel
theorem dX11_damagesBy_1 : decode cX11_damagesBy 1 = .ok (.getfield 91, 3) := by decide +kernel
theorem dX11_damagesBy_4 : decode cX11_damagesBy 4 = .ok (.bipush 24, 2) := by decide +kernel
theorem dX11_damagesBy_6 : decode cX11_damagesBy 6 = .ok (.if_icmp .ne 5, 3) := by decide +kernel
theorem dX11_damagesBy_9 : decode cX11_damagesBy 9 = .ok (.lconst 0, 1) := by decide +kernel
theorem dX11_damagesBy_10 : decode cX11_damagesBy 10 = .ok (.lreturn, 1) := by decide +kernel
theorem dX11_damagesBy_11 : decode cX11_damagesBy 11 = .ok (.iconst 0, 1) := by decide +kernel
theorem dX11_damagesBy_12 : decode cX11_damagesBy 12 = .ok (.iload_n 2, 1) := by decide +kernel
theorem dX11_damagesBy_13 : decode cX11_damagesBy 13 = .ok (.aload_n 0, 1) := by decide +kernel
theorem dX11_damagesBy_14 : decode cX11_damagesBy 14 = .ok (.getfield 85, 3) := by decide +kernel
theorem dX11_damagesBy_17 : decode cX11_damagesBy 17 = .ok (.invokestatic 265, 3) := by decide +kernel
theorem dX11_damagesBy_20 : decode cX11_damagesBy 20 = .ok (.iload_n 1, 1) := by decide +kernel
theorem dX11_damagesBy_21 : decode cX11_damagesBy 21 = .ok (.isub, 1) := by decide +kernel
theorem dX11_damagesBy_22 : decode cX11_damagesBy 22 = .ok (.invokestatic 227, 3) := by decide +kernel
theorem dX11_damagesBy_25 : decode cX11_damagesBy 25 = .ok (.istore_n 3, 1) := by decide +kernel
theorem dX11_damagesBy_26 : decode cX11_damagesBy 26 = .ok (.aload_n 0, 1) := by decide +kernel
theorem dX11_damagesBy_27 : decode cX11_damagesBy 27 = .ok (.invokevirtual 267, 3) := by decide +kernel
theorem dX11_damagesBy_30 : decode cX11_damagesBy 30 = .ok (.iload_n 3, 1) := by decide +kernel
theorem dX11_damagesBy_31 : decode cX11_damagesBy 31 = .ok (.i2l, 1) := by decide +kernel
theorem dX11_damagesBy_32 : decode cX11_damagesBy 32 = .ok (.aload_n 0, 1) := by decide +kernel
theorem dX11_damagesBy_33 : decode cX11_damagesBy 33 = .ok (.invokevirtual 249, 3) := by decide +kernel
theorem dX11_damagesBy_36 : decode cX11_damagesBy 36 = .ok (.aload_n 0, 1) := by decide +kernel
theorem dX11_damagesBy_37 : decode cX11_damagesBy 37 = .ok (.getfield 7, 3) := by decide +kernel
theorem dX11_damagesBy_40 : decode cX11_damagesBy 40 = .ok (.bipush 11, 2) := by decide +kernel
theorem dX11_damagesBy_42 : decode cX11_damagesBy 42 = .ok (.iaload, 1) := by decide +kernel
theorem dX11_damagesBy_43 : decode cX11_damagesBy 43 = .ok (.invokestatic 220, 3) := by decide +kernel
theorem dX11_damagesBy_46 : decode cX11_damagesBy 46 = .ok (.lmul, 1) := by decide +kernel
theorem dX11_damagesBy_47 : decode cX11_damagesBy 47 = .ok (.invokestatic 262, 3) := by decide +kernel
theorem dX11_damagesBy_50 : decode cX11_damagesBy 50 = .ok (.lreturn, 1) := by decide +kernel
set_option maxRecDepth 20000 in
theorem ggX11_damagesIn_X11_damagesBy : GoodIn wsX11_damagesIn wsX11_damagesBy := goodIn_r _ [7, 1, 8, 9, 10, 11, 12, 13, 14, 15, 16, 17, 18, 19, 20, 21, 22, 6, 23, 24, 25, 26, 27, 28, 29, 30, 31, 32, 33, 34, 35, 36, 37, 38, 39, 40, 41, 42, 43, 44, 45, 46, 47, 48, 49, 50, 51, 52, 53, 54, 55, 56, 57, 58, 59, 60, 61, 62, 63, 64, 65, 66, 67, 68, 69, 70, 71, 72, 73, 74, 75, 76] rfl (by decide +kernel)
set_option maxRecDepth 20000 in
theorem gX11_damagesIn_X11_damagesBy : GoodIn wsX11_damagesIn (wsV RX11 270 RX11 yX11_damagesBy wsX11_damagesBy) := goodIn_app (goodIn_of _ (by decide +kernel)) ggX11_damagesIn_X11_damagesBy
theorem dX11_damagesIn_0 : decode cX11_damagesIn 0 = .ok (.aload_n 0, 1) := by decide +kernel
theorem dX11_damagesIn_1 : decode cX11_damagesIn 1 = .ok (.aload_n 0, 1) := by decide +kernel
theorem dX11_damagesIn_2 : decode cX11_damagesIn 2 = .ok (.getfield 91, 3) := by decide +kernel
theorem dX11_damagesIn_5 : decode cX11_damagesIn 5 = .ok (.aload_n 0, 1) := by decide +kernel
theorem dX11_damagesIn_6 : decode cX11_damagesIn 6 = .ok (.getfield 94, 3) := by decide +kernel
theorem dX11_damagesIn_9 : decode cX11_damagesIn 9 = .ok (.iadd, 1) := by decide +kernel
theorem dX11_damagesIn_10 : decode cX11_damagesIn 10 = .ok (.iload_n 1, 1) := by decide +kernel
theorem dX11_damagesIn_11 : decode cX11_damagesIn 11 = .ok (.invokevirtual 270, 3) := by decide +kernel
theorem dX11_damagesIn_14 : decode cX11_damagesIn 14 = .ok (.lreturn, 1) := by decide +kernel
set_option maxRecDepth 20000 in
theorem ggX11_layMonths_X11_sumNow : GoodIn wsX11_layMonths wsX11_sumNow := goodIn_r _ [20, 21, 22, 23, 24, 19, 25, 26, 27, 28, 29, 30, 137, 138, 139, 140, 141, 142, 143, 144, 145, 146, 147, 148, 149, 150, 151, 152, 153, 154, 155, 156, 157, 158, 159, 160, 161, 162, 163, 164, 165, 166, 167, 168, 169, 170, 171] rfl (by decide +kernel)
set_option maxRecDepth 20000 in
theorem gX11_layMonths_X11_sumNow : GoodIn wsX11_layMonths (wsV RX11 249 RX11 yX11_sumNow wsX11_sumNow) := goodIn_app (goodIn_of _ (by decide +kernel)) ggX11_layMonths_X11_sumNow
set_option maxRecDepth 20000 in
theorem ggX11_layMonths_X11_thousandths : GoodIn wsX11_layMonths wsX11_thousandths := goodIn_r _ [33, 11] rfl (by decide +kernel)
set_option maxRecDepth 20000 in
theorem gX11_layMonths_X11_thousandths : GoodIn wsX11_layMonths (va_wsS RX11 220 yX11_thousandths wsX11_thousandths) := goodIn_app (goodIn_of _ (by decide +kernel)) ggX11_layMonths_X11_thousandths
set_option maxRecDepth 20000 in
theorem ggX11_layMonths_X11_workIn : GoodIn wsX11_layMonths wsX11_workIn := goodIn_r _ [37, 21, 38, 39, 40, 19, 41, 42, 43, 44, 45, 46, 47, 48, 49, 50, 51, 52, 53, 54, 55, 26, 22, 23, 24, 25, 27, 28, 29, 30, 56, 57, 58, 59, 60, 61, 4, 62, 1, 63, 64, 65, 66, 67, 68, 69, 70, 71, 31, 32, 33, 11, 137, 138, 139, 140, 141, 142, 143, 144, 145, 146, 147, 148, 149, 150, 151, 152, 153, 154, 155, 156, 157, 158, 159, 160, 161, 162, 163, 164, 165, 166, 167, 168, 169, 170, 171] rfl (by decide +kernel)
set_option maxRecDepth 20000 in
theorem gX11_layMonths_X11_workIn : GoodIn wsX11_layMonths (wsV RX11 256 RX11 yX11_workIn wsX11_workIn) := goodIn_app (goodIn_of _ (by decide +kernel)) ggX11_layMonths_X11_workIn
set_option maxRecDepth 20000 in
theorem ggX11_layMonths_X11_advancedNow : GoodIn wsX11_layMonths wsX11_advancedNow := goodIn_r _ [75, 1, 16, 17, 18, 19, 20, 21, 22, 23, 24, 25, 26, 27, 28, 29, 30, 31, 32, 33, 11, 137, 138, 139, 140, 141, 142, 143, 144, 145, 146, 147, 148, 149, 150, 151, 152, 153, 154, 155, 156, 157, 158, 159, 160, 161, 162, 163, 164, 165, 166, 167, 168, 169, 170, 171] rfl (by decide +kernel)
set_option maxRecDepth 20000 in
theorem gX11_layMonths_X11_advancedNow : GoodIn wsX11_layMonths (wsV RX11 273 RX11 yX11_advancedNow wsX11_advancedNow) := goodIn_app (goodIn_of _ (by decide +kernel)) ggX11_layMonths_X11_advancedNow
set_option maxRecDepth 20000 in
theorem ggX11_layMonths_X11_indexIn : GoodIn wsX11_layMonths wsX11_indexIn := goodIn_r _ [79, 80, 137, 138, 139, 140, 141, 142, 143, 144, 145, 146, 147, 148, 149, 150, 151, 152, 153, 154, 155, 156, 157, 158, 159, 160, 161, 162, 163, 164, 165, 166, 167, 168, 169, 170, 171] rfl (by decide +kernel)
set_option maxRecDepth 20000 in
theorem gX11_layMonths_X11_indexIn : GoodIn wsX11_layMonths (wsV RX11 211 RX11 yX11_indexIn wsX11_indexIn) := goodIn_app (goodIn_of _ (by decide +kernel)) ggX11_layMonths_X11_indexIn
set_option maxRecDepth 20000 in
theorem ggX11_layMonths_X11_materialsIn : GoodIn wsX11_layMonths wsX11_materialsIn := goodIn_r _ [84, 85, 1, 86, 87, 88, 19, 89, 90, 31, 32, 33, 11, 137, 138, 139, 140, 141, 142, 143, 144, 145, 146, 147, 148, 149, 150, 151, 152, 153, 154, 155, 156, 157, 158, 159, 160, 161, 162, 163, 164, 165, 166, 167, 168, 169, 170, 171] rfl (by decide +kernel)
set_option maxRecDepth 20000 in
theorem gX11_layMonths_X11_materialsIn : GoodIn wsX11_layMonths (wsV RX11 276 RX11 yX11_materialsIn wsX11_materialsIn) := goodIn_app (goodIn_of _ (by decide +kernel)) ggX11_layMonths_X11_materialsIn
set_option maxRecDepth 20000 in
theorem ggX11_layMonths_X11_retainedIn : GoodIn wsX11_layMonths wsX11_retainedIn := goodIn_r _ [94, 6, 7, 8, 4, 9, 1, 2, 3, 5, 85, 95, 96, 97, 19, 98, 16, 17, 18, 20, 21, 22, 23, 24, 25, 26, 27, 28, 29, 30, 31, 32, 33, 11, 34, 35, 36, 37, 38, 39, 40, 41, 42, 43, 44, 45, 46, 47, 48, 49, 50, 51, 52, 53, 54, 55, 56, 57, 58, 59, 60, 61, 62, 63, 64, 65, 66, 67, 68, 69, 70, 71, 137, 138, 139, 140, 141, 142, 143, 144, 145, 146, 147, 148, 149, 150, 151, 152, 153, 154, 155, 156, 157, 158, 159, 160, 161, 162, 163, 164, 165, 166, 167, 168, 169, 170, 171] rfl (by decide +kernel)
set_option maxRecDepth 20000 in
theorem gX11_layMonths_X11_retainedIn : GoodIn wsX11_layMonths (wsV RX11 279 RX11 yX11_retainedIn wsX11_retainedIn) := goodIn_app (goodIn_of _ (by decide +kernel)) ggX11_layMonths_X11_retainedIn
set_option maxRecDepth 20000 in
theorem ggX11_layMonths_X11_setIn : GoodIn wsX11_layMonths wsX11_setIn := goodIn_r _ [102, 103, 104, 105, 106, 19, 107, 108, 31, 32, 33, 11, 137, 138, 139, 140, 141, 142, 143, 144, 145, 146, 147, 148, 149, 150, 151, 152, 153, 154, 155, 156, 157, 158, 159, 160, 161, 162, 163, 164, 165, 166, 167, 168, 169, 170, 171] rfl (by decide +kernel)
set_option maxRecDepth 20000 in
theorem gX11_layMonths_X11_setIn : GoodIn wsX11_layMonths (wsV RX11 282 RX11 yX11_setIn wsX11_setIn) := goodIn_app (goodIn_of _ (by decide +kernel)) ggX11_layMonths_X11_setIn
set_option maxRecDepth 20000 in
theorem ggX11_layMonths_X11_damagesIn : GoodIn wsX11_layMonths wsX11_damagesIn := goodIn_r _ [112, 113, 114, 115, 116, 117, 19, 118, 85, 119, 120, 4, 121, 60, 61, 62, 1, 2, 3, 5, 122, 123, 124, 125, 16, 17, 18, 20, 21, 22, 23, 24, 25, 26, 27, 28, 29, 30, 31, 32, 33, 11, 137, 138, 139, 140, 141, 142, 143, 144, 145, 146, 147, 148, 149, 150, 151, 152, 153, 154, 155, 156, 157, 158, 159, 160, 161, 162, 163, 164, 165, 166, 167, 168, 169, 170, 171] rfl (by decide +kernel)
set_option maxRecDepth 20000 in
theorem gX11_layMonths_X11_damagesIn : GoodIn wsX11_layMonths (wsV RX11 285 RX11 yX11_damagesIn wsX11_damagesIn) := goodIn_app (goodIn_of _ (by decide +kernel)) ggX11_layMonths_X11_damagesIn
set_option maxRecDepth 20000 in
theorem ggX11_layMonths_X11_layOwed : GoodIn wsX11_layMonths wsX11_layOwed := goodIn_r _ [129, 1, 15, 130, 7, 8, 4, 9, 131, 132, 133, 134, 19, 135, 136, 31, 32, 33, 11, 137, 138, 139, 140, 141, 142, 143, 144, 145, 146, 147, 148, 149, 150, 151, 152, 153, 154, 155, 156, 157, 158, 159, 160, 161, 162, 163, 164, 165, 166, 167, 168, 169, 170, 171] rfl (by decide +kernel)
set_option maxRecDepth 20000 in
theorem gX11_layMonths_X11_layOwed : GoodIn wsX11_layMonths (wsV RX11 288 RX11 yX11_layOwed wsX11_layOwed) := goodIn_app (goodIn_of _ (by decide +kernel)) ggX11_layMonths_X11_layOwed
theorem dX11_layMonths_0 : decode cX11_layMonths 0 = .ok (.aload_n 0, 1) := by decide +kernel
theorem dX11_layMonths_1 : decode cX11_layMonths 1 = .ok (.invokevirtual 249, 3) := by decide +kernel
theorem dX11_layMonths_4 : decode cX11_layMonths 4 = .ok (.aload_n 0, 1) := by decide +kernel
theorem dX11_layMonths_5 : decode cX11_layMonths 5 = .ok (.getfield 7, 3) := by decide +kernel
theorem dX11_layMonths_8 : decode cX11_layMonths 8 = .ok (.iconst 4, 1) := by decide +kernel
theorem dX11_layMonths_9 : decode cX11_layMonths 9 = .ok (.iaload, 1) := by decide +kernel
theorem dX11_layMonths_10 : decode cX11_layMonths 10 = .ok (.invokestatic 220, 3) := by decide +kernel
theorem dX11_layMonths_13 : decode cX11_layMonths 13 = .ok (.lstore_n 1, 1) := by decide +kernel
theorem dX11_layMonths_14 : decode cX11_layMonths 14 = .ok (.lconst 0, 1) := by decide +kernel
theorem dX11_layMonths_15 : decode cX11_layMonths 15 = .ok (.lstore_n 3, 1) := by decide +kernel
theorem dX11_layMonths_16 : decode cX11_layMonths 16 = .ok (.lconst 0, 1) := by decide +kernel
theorem dX11_layMonths_17 : decode cX11_layMonths 17 = .ok (.lstore 5, 2) := by decide +kernel
theorem dX11_layMonths_19 : decode cX11_layMonths 19 = .ok (.lconst 0, 1) := by decide +kernel
theorem dX11_layMonths_20 : decode cX11_layMonths 20 = .ok (.lstore 7, 2) := by decide +kernel
theorem dX11_layMonths_22 : decode cX11_layMonths 22 = .ok (.iconst 0, 1) := by decide +kernel
theorem dX11_layMonths_23 : decode cX11_layMonths 23 = .ok (.istore 9, 2) := by decide +kernel
theorem dX11_layMonths_25 : decode cX11_layMonths 25 = .ok (.iload 9, 2) := by decide +kernel
theorem dX11_layMonths_27 : decode cX11_layMonths 27 = .ok (.bipush 24, 2) := by decide +kernel
theorem dX11_layMonths_29 : decode cX11_layMonths 29 = .ok (.if_icmp .ge 260, 3) := by decide +kernel
theorem dX11_layMonths_32 : decode cX11_layMonths 32 = .ok (.aload_n 0, 1) := by decide +kernel
theorem dX11_layMonths_33 : decode cX11_layMonths 33 = .ok (.iload 9, 2) := by decide +kernel
theorem dX11_layMonths_35 : decode cX11_layMonths 35 = .ok (.invokevirtual 256, 3) := by decide +kernel
theorem dX11_layMonths_38 : decode cX11_layMonths 38 = .ok (.lstore 10, 2) := by decide +kernel
theorem dX11_layMonths_40 : decode cX11_layMonths 40 = .ok (.aload_n 0, 1) := by decide +kernel
theorem dX11_layMonths_41 : decode cX11_layMonths 41 = .ok (.invokevirtual 273, 3) := by decide +kernel
theorem dX11_layMonths_44 : decode cX11_layMonths 44 = .ok (.lload 10, 2) := by decide +kernel
theorem dX11_layMonths_46 : decode cX11_layMonths 46 = .ok (.lload_n 1, 1) := by decide +kernel
theorem dX11_layMonths_47 : decode cX11_layMonths 47 = .ok (.lcmp, 1) := by decide +kernel
theorem dX11_layMonths_48 : decode cX11_layMonths 48 = .ok (.ifCond .le 19, 3) := by decide +kernel
theorem dX11_layMonths_51 : decode cX11_layMonths 51 = .ok (.lload 10, 2) := by decide +kernel
theorem dX11_layMonths_53 : decode cX11_layMonths 53 = .ok (.lload_n 1, 1) := by decide +kernel
theorem dX11_layMonths_54 : decode cX11_layMonths 54 = .ok (.lsub, 1) := by decide +kernel
theorem dX11_layMonths_55 : decode cX11_layMonths 55 = .ok (.aload_n 0, 1) := by decide +kernel
theorem dX11_layMonths_56 : decode cX11_layMonths 56 = .ok (.getfield 7, 3) := by decide +kernel
theorem dX11_layMonths_59 : decode cX11_layMonths 59 = .ok (.iconst 5, 1) := by decide +kernel
theorem dX11_layMonths_60 : decode cX11_layMonths 60 = .ok (.iaload, 1) := by decide +kernel
theorem dX11_layMonths_61 : decode cX11_layMonths 61 = .ok (.invokestatic 220, 3) := by decide +kernel
theorem dX11_layMonths_64 : decode cX11_layMonths 64 = .ok (.goto 4, 3) := by decide +kernel
theorem dX11_layMonths_67 : decode cX11_layMonths 67 = .ok (.lconst 0, 1) := by decide +kernel
theorem dX11_layMonths_68 : decode cX11_layMonths 68 = .ok (.invokestatic 262, 3) := by decide +kernel
theorem dX11_layMonths_71 : decode cX11_layMonths 71 = .ok (.lstore 12, 2) := by decide +kernel
theorem dX11_layMonths_73 : decode cX11_layMonths 73 = .ok (.iload 9, 2) := by decide +kernel
theorem dX11_layMonths_75 : decode cX11_layMonths 75 = .ok (.aload_n 0, 1) := by decide +kernel
theorem dX11_layMonths_76 : decode cX11_layMonths 76 = .ok (.getfield 88, 3) := by decide +kernel
theorem dX11_layMonths_79 : decode cX11_layMonths 79 = .ok (.if_icmp .lt 10, 3) := by decide +kernel
theorem dX11_layMonths_82 : decode cX11_layMonths 82 = .ok (.aload_n 0, 1) := by decide +kernel
theorem dX11_layMonths_83 : decode cX11_layMonths 83 = .ok (.invokevirtual 273, 3) := by decide +kernel
theorem dX11_layMonths_86 : decode cX11_layMonths 86 = .ok (.goto 9, 3) := by decide +kernel
theorem dX11_layMonths_89 : decode cX11_layMonths 89 = .ok (.lload_n 3, 1) := by decide +kernel
theorem dX11_layMonths_90 : decode cX11_layMonths 90 = .ok (.lload 12, 2) := by decide +kernel
theorem dX11_layMonths_92 : decode cX11_layMonths 92 = .ok (.invokestatic 259, 3) := by decide +kernel
theorem dX11_layMonths_95 : decode cX11_layMonths 95 = .ok (.lstore_n 3, 1) := by decide +kernel
theorem dX11_layMonths_96 : decode cX11_layMonths 96 = .ok (.aload_n 0, 1) := by decide +kernel
theorem dX11_layMonths_97 : decode cX11_layMonths 97 = .ok (.getfield 48, 3) := by decide +kernel
theorem dX11_layMonths_100 : decode cX11_layMonths 100 = .ok (.iload 9, 2) := by decide +kernel
theorem dX11_layMonths_102 : decode cX11_layMonths 102 = .ok (.lload_n 3, 1) := by decide +kernel
theorem dX11_layMonths_103 : decode cX11_layMonths 103 = .ok (.lastore, 1) := by decide +kernel
theorem dX11_layMonths_104 : decode cX11_layMonths 104 = .ok (.lload 10, 2) := by decide +kernel
theorem dX11_layMonths_106 : decode cX11_layMonths 106 = .ok (.lload 5, 2) := by decide +kernel
theorem dX11_layMonths_108 : decode cX11_layMonths 108 = .ok (.lsub, 1) := by decide +kernel
theorem dX11_layMonths_109 : decode cX11_layMonths 109 = .ok (.aload_n 0, 1) := by decide +kernel
theorem dX11_layMonths_110 : decode cX11_layMonths 110 = .ok (.iload 9, 2) := by decide +kernel
theorem dX11_layMonths_112 : decode cX11_layMonths 112 = .ok (.invokevirtual 211, 3) := by decide +kernel
theorem dX11_layMonths_115 : decode cX11_layMonths 115 = .ok (.sipush 1000, 3) := by decide +kernel
theorem dX11_layMonths_118 : decode cX11_layMonths 118 = .ok (.isub, 1) := by decide +kernel
theorem dX11_layMonths_119 : decode cX11_layMonths 119 = .ok (.i2l, 1) := by decide +kernel
theorem dX11_layMonths_120 : decode cX11_layMonths 120 = .ok (.lmul, 1) := by decide +kernel
theorem dX11_layMonths_121 : decode cX11_layMonths 121 = .ok (.ldc2_w 195, 3) := by decide +kernel
theorem dX11_layMonths_124 : decode cX11_layMonths 124 = .ok (.ldiv, 1) := by decide +kernel
theorem dX11_layMonths_125 : decode cX11_layMonths 125 = .ok (.aload_n 0, 1) := by decide +kernel
theorem dX11_layMonths_126 : decode cX11_layMonths 126 = .ok (.getfield 7, 3) := by decide +kernel
theorem dX11_layMonths_129 : decode cX11_layMonths 129 = .ok (.bipush 13, 2) := by decide +kernel
theorem dX11_layMonths_131 : decode cX11_layMonths 131 = .ok (.iaload, 1) := by decide +kernel
theorem dX11_layMonths_132 : decode cX11_layMonths 132 = .ok (.invokestatic 220, 3) := by decide +kernel
theorem dX11_layMonths_135 : decode cX11_layMonths 135 = .ok (.lstore 14, 2) := by decide +kernel
theorem dX11_layMonths_137 : decode cX11_layMonths 137 = .ok (.aload_n 0, 1) := by decide +kernel
theorem dX11_layMonths_138 : decode cX11_layMonths 138 = .ok (.getfield 45, 3) := by decide +kernel
theorem dX11_layMonths_141 : decode cX11_layMonths 141 = .ok (.iload 9, 2) := by decide +kernel
theorem dX11_layMonths_143 : decode cX11_layMonths 143 = .ok (.iload 9, 2) := by decide +kernel
theorem dX11_layMonths_145 : decode cX11_layMonths 145 = .ok (.ifCond .ne 7, 3) := by decide +kernel
theorem dX11_layMonths_148 : decode cX11_layMonths 148 = .ok (.lconst 0, 1) := by decide +kernel
theorem dX11_layMonths_149 : decode cX11_layMonths 149 = .ok (.goto 12, 3) := by decide +kernel
theorem dX11_layMonths_152 : decode cX11_layMonths 152 = .ok (.aload_n 0, 1) := by decide +kernel
theorem dX11_layMonths_153 : decode cX11_layMonths 153 = .ok (.getfield 45, 3) := by decide +kernel
theorem dX11_layMonths_156 : decode cX11_layMonths 156 = .ok (.iload 9, 2) := by decide +kernel
theorem dX11_layMonths_158 : decode cX11_layMonths 158 = .ok (.iconst 1, 1) := by decide +kernel
theorem dX11_layMonths_159 : decode cX11_layMonths 159 = .ok (.isub, 1) := by decide +kernel
theorem dX11_layMonths_160 : decode cX11_layMonths 160 = .ok (.laload, 1) := by decide +kernel
theorem dX11_layMonths_161 : decode cX11_layMonths 161 = .ok (.lload 14, 2) := by decide +kernel
theorem dX11_layMonths_163 : decode cX11_layMonths 163 = .ok (.ladd, 1) := by decide +kernel
theorem dX11_layMonths_164 : decode cX11_layMonths 164 = .ok (.lastore, 1) := by decide +kernel
theorem dX11_layMonths_165 : decode cX11_layMonths 165 = .ok (.lload 10, 2) := by decide +kernel
theorem dX11_layMonths_167 : decode cX11_layMonths 167 = .ok (.lstore 5, 2) := by decide +kernel
theorem dX11_layMonths_169 : decode cX11_layMonths 169 = .ok (.aload_n 0, 1) := by decide +kernel
theorem dX11_layMonths_170 : decode cX11_layMonths 170 = .ok (.getfield 51, 3) := by decide +kernel
theorem dX11_layMonths_173 : decode cX11_layMonths 173 = .ok (.iload 9, 2) := by decide +kernel
theorem dX11_layMonths_175 : decode cX11_layMonths 175 = .ok (.lload 10, 2) := by decide +kernel
theorem dX11_layMonths_177 : decode cX11_layMonths 177 = .ok (.aload_n 0, 1) := by decide +kernel
theorem dX11_layMonths_178 : decode cX11_layMonths 178 = .ok (.iload 9, 2) := by decide +kernel
theorem dX11_layMonths_180 : decode cX11_layMonths 180 = .ok (.invokevirtual 276, 3) := by decide +kernel
theorem dX11_layMonths_183 : decode cX11_layMonths 183 = .ok (.ladd, 1) := by decide +kernel
theorem dX11_layMonths_184 : decode cX11_layMonths 184 = .ok (.aload_n 0, 1) := by decide +kernel
theorem dX11_layMonths_185 : decode cX11_layMonths 185 = .ok (.invokevirtual 273, 3) := by decide +kernel
theorem dX11_layMonths_188 : decode cX11_layMonths 188 = .ok (.ladd, 1) := by decide +kernel
theorem dX11_layMonths_189 : decode cX11_layMonths 189 = .ok (.aload_n 0, 1) := by decide +kernel
theorem dX11_layMonths_190 : decode cX11_layMonths 190 = .ok (.getfield 45, 3) := by decide +kernel
theorem dX11_layMonths_193 : decode cX11_layMonths 193 = .ok (.iload 9, 2) := by decide +kernel
theorem dX11_layMonths_195 : decode cX11_layMonths 195 = .ok (.laload, 1) := by decide +kernel
theorem dX11_layMonths_196 : decode cX11_layMonths 196 = .ok (.ladd, 1) := by decide +kernel
theorem dX11_layMonths_197 : decode cX11_layMonths 197 = .ok (.aload_n 0, 1) := by decide +kernel
theorem dX11_layMonths_198 : decode cX11_layMonths 198 = .ok (.iload 9, 2) := by decide +kernel
theorem dX11_layMonths_200 : decode cX11_layMonths 200 = .ok (.invokevirtual 279, 3) := by decide +kernel
theorem dX11_layMonths_203 : decode cX11_layMonths 203 = .ok (.lsub, 1) := by decide +kernel
theorem dX11_layMonths_204 : decode cX11_layMonths 204 = .ok (.lload_n 3, 1) := by decide +kernel
theorem dX11_layMonths_205 : decode cX11_layMonths 205 = .ok (.lsub, 1) := by decide +kernel
theorem dX11_layMonths_206 : decode cX11_layMonths 206 = .ok (.aload_n 0, 1) := by decide +kernel
theorem dX11_layMonths_207 : decode cX11_layMonths 207 = .ok (.iload 9, 2) := by decide +kernel
theorem dX11_layMonths_209 : decode cX11_layMonths 209 = .ok (.invokevirtual 282, 3) := by decide +kernel
theorem dX11_layMonths_212 : decode cX11_layMonths 212 = .ok (.lsub, 1) := by decide +kernel
theorem dX11_layMonths_213 : decode cX11_layMonths 213 = .ok (.aload_n 0, 1) := by decide +kernel
theorem dX11_layMonths_214 : decode cX11_layMonths 214 = .ok (.iload 9, 2) := by decide +kernel
theorem dX11_layMonths_216 : decode cX11_layMonths 216 = .ok (.invokevirtual 285, 3) := by decide +kernel
theorem dX11_layMonths_219 : decode cX11_layMonths 219 = .ok (.lsub, 1) := by decide +kernel
theorem dX11_layMonths_220 : decode cX11_layMonths 220 = .ok (.lastore, 1) := by decide +kernel
theorem dX11_layMonths_221 : decode cX11_layMonths 221 = .ok (.aload_n 0, 1) := by decide +kernel
theorem dX11_layMonths_222 : decode cX11_layMonths 222 = .ok (.getfield 51, 3) := by decide +kernel
theorem dX11_layMonths_225 : decode cX11_layMonths 225 = .ok (.iload 9, 2) := by decide +kernel
theorem dX11_layMonths_227 : decode cX11_layMonths 227 = .ok (.laload, 1) := by decide +kernel
theorem dX11_layMonths_228 : decode cX11_layMonths 228 = .ok (.lload 7, 2) := by decide +kernel
theorem dX11_layMonths_230 : decode cX11_layMonths 230 = .ok (.lsub, 1) := by decide +kernel
theorem dX11_layMonths_231 : decode cX11_layMonths 231 = .ok (.lstore 16, 2) := by decide +kernel
theorem dX11_layMonths_233 : decode cX11_layMonths 233 = .ok (.aload_n 0, 1) := by decide +kernel
theorem dX11_layMonths_234 : decode cX11_layMonths 234 = .ok (.getfield 54, 3) := by decide +kernel
theorem dX11_layMonths_237 : decode cX11_layMonths 237 = .ok (.iload 9, 2) := by decide +kernel
theorem dX11_layMonths_239 : decode cX11_layMonths 239 = .ok (.lload 16, 2) := by decide +kernel
theorem dX11_layMonths_241 : decode cX11_layMonths 241 = .ok (.lconst 0, 1) := by decide +kernel
theorem dX11_layMonths_242 : decode cX11_layMonths 242 = .ok (.lcmp, 1) := by decide +kernel
theorem dX11_layMonths_243 : decode cX11_layMonths 243 = .ok (.ifCond .ge 16, 3) := by decide +kernel
theorem dX11_layMonths_246 : decode cX11_layMonths 246 = .ok (.iload 9, 2) := by decide +kernel
theorem dX11_layMonths_248 : decode cX11_layMonths 248 = .ok (.aload_n 0, 1) := by decide +kernel
theorem dX11_layMonths_249 : decode cX11_layMonths 249 = .ok (.getfield 88, 3) := by decide +kernel
theorem dX11_layMonths_252 : decode cX11_layMonths 252 = .ok (.if_icmp .ge 7, 3) := by decide +kernel
theorem dX11_layMonths_255 : decode cX11_layMonths 255 = .ok (.lconst 0, 1) := by decide +kernel
theorem dX11_layMonths_256 : decode cX11_layMonths 256 = .ok (.goto 5, 3) := by decide +kernel
theorem dX11_layMonths_259 : decode cX11_layMonths 259 = .ok (.lload 16, 2) := by decide +kernel
theorem dX11_layMonths_261 : decode cX11_layMonths 261 = .ok (.lastore, 1) := by decide +kernel
theorem dX11_layMonths_262 : decode cX11_layMonths 262 = .ok (.lload 7, 2) := by decide +kernel
theorem dX11_layMonths_264 : decode cX11_layMonths 264 = .ok (.aload_n 0, 1) := by decide +kernel
theorem dX11_layMonths_265 : decode cX11_layMonths 265 = .ok (.getfield 54, 3) := by decide +kernel
theorem dX11_layMonths_268 : decode cX11_layMonths 268 = .ok (.iload 9, 2) := by decide +kernel
theorem dX11_layMonths_270 : decode cX11_layMonths 270 = .ok (.laload, 1) := by decide +kernel
theorem dX11_layMonths_271 : decode cX11_layMonths 271 = .ok (.ladd, 1) := by decide +kernel
theorem dX11_layMonths_272 : decode cX11_layMonths 272 = .ok (.lstore 7, 2) := by decide +kernel
theorem dX11_layMonths_274 : decode cX11_layMonths 274 = .ok (.aload_n 0, 1) := by decide +kernel
theorem dX11_layMonths_275 : decode cX11_layMonths 275 = .ok (.getfield 57, 3) := by decide +kernel
theorem dX11_layMonths_278 : decode cX11_layMonths 278 = .ok (.iload 9, 2) := by decide +kernel
theorem dX11_layMonths_280 : decode cX11_layMonths 280 = .ok (.lload 7, 2) := by decide +kernel
theorem dX11_layMonths_282 : decode cX11_layMonths 282 = .ok (.lastore, 1) := by decide +kernel
theorem dX11_layMonths_283 : decode cX11_layMonths 283 = .ok (.iinc 9 1, 3) := by decide +kernel
theorem dX11_layMonths_286 : decode cX11_layMonths 286 = .ok (.goto (-261), 3) := by decide +kernel
theorem dX11_layMonths_289 : decode cX11_layMonths 289 = .ok (.aload_n 0, 1) := by decide +kernel
theorem dX11_layMonths_290 : decode cX11_layMonths 290 = .ok (.invokevirtual 288, 3) := by decide +kernel
theorem dX11_layMonths_293 : decode cX11_layMonths 293 = .ok (.return_, 1) := by decide +kernel
set_option maxRecDepth 20000 in
theorem ggX11_layOwed_X11_paidTill : GoodIn wsX11_layOwed wsX11_paidTill := goodIn_r _ [13, 14, 19, 20, 21, 22, 23, 24, 25, 26, 27, 28, 29, 30, 31, 32, 33, 34, 35, 36, 37, 38, 39, 40, 41, 42, 43, 44, 45, 46, 47, 48, 49, 50, 51, 52, 53] rfl (by decide +kernel)
set_option maxRecDepth 20000 in
theorem gX11_layOwed_X11_paidTill : GoodIn wsX11_layOwed (wsV RX11 291 RX11 yX11_paidTill wsX11_paidTill) := goodIn_app (goodIn_of _ (by decide +kernel)) ggX11_layOwed_X11_paidTill
set_option maxRecDepth 20000 in
theorem ggX11_layOwed_X11_thousandths : GoodIn wsX11_layOwed wsX11_thousandths := goodIn_r _ [17, 18] rfl (by decide +kernel)
set_option maxRecDepth 20000 in
theorem gX11_layOwed_X11_thousandths : GoodIn wsX11_layOwed (va_wsS RX11 220 yX11_thousandths wsX11_thousandths) := goodIn_app (goodIn_of _ (by decide +kernel)) ggX11_layOwed_X11_thousandths
theorem dX11_layOwed_0 : decode cX11_layOwed 0 = .ok (.iconst 0, 1) := by decide +kernel
theorem dX11_layOwed_1 : decode cX11_layOwed 1 = .ok (.istore_n 1, 1) := by decide +kernel
theorem dX11_layOwed_2 : decode cX11_layOwed 2 = .ok (.iload_n 1, 1) := by decide +kernel
theorem dX11_layOwed_3 : decode cX11_layOwed 3 = .ok (.bipush 24, 2) := by decide +kernel
theorem dX11_layOwed_5 : decode cX11_layOwed 5 = .ok (.if_icmp .ge 78, 3) := by decide +kernel
theorem dX11_layOwed_8 : decode cX11_layOwed 8 = .ok (.iload_n 1, 1) := by decide +kernel
theorem dX11_layOwed_9 : decode cX11_layOwed 9 = .ok (.aload_n 0, 1) := by decide +kernel
theorem dX11_layOwed_10 : decode cX11_layOwed 10 = .ok (.getfield 7, 3) := by decide +kernel
theorem dX11_layOwed_13 : decode cX11_layOwed 13 = .ok (.bipush 8, 2) := by decide +kernel
theorem dX11_layOwed_15 : decode cX11_layOwed 15 = .ok (.iaload, 1) := by decide +kernel
theorem dX11_layOwed_16 : decode cX11_layOwed 16 = .ok (.if_icmp .lt 20, 3) := by decide +kernel
theorem dX11_layOwed_19 : decode cX11_layOwed 19 = .ok (.aload_n 0, 1) := by decide +kernel
theorem dX11_layOwed_20 : decode cX11_layOwed 20 = .ok (.getfield 57, 3) := by decide +kernel
theorem dX11_layOwed_23 : decode cX11_layOwed 23 = .ok (.iload_n 1, 1) := by decide +kernel
theorem dX11_layOwed_24 : decode cX11_layOwed 24 = .ok (.aload_n 0, 1) := by decide +kernel
theorem dX11_layOwed_25 : decode cX11_layOwed 25 = .ok (.getfield 7, 3) := by decide +kernel
theorem dX11_layOwed_28 : decode cX11_layOwed 28 = .ok (.bipush 8, 2) := by decide +kernel
theorem dX11_layOwed_30 : decode cX11_layOwed 30 = .ok (.iaload, 1) := by decide +kernel
theorem dX11_layOwed_31 : decode cX11_layOwed 31 = .ok (.isub, 1) := by decide +kernel
theorem dX11_layOwed_32 : decode cX11_layOwed 32 = .ok (.laload, 1) := by decide +kernel
theorem dX11_layOwed_33 : decode cX11_layOwed 33 = .ok (.goto 4, 3) := by decide +kernel
theorem dX11_layOwed_36 : decode cX11_layOwed 36 = .ok (.lconst 0, 1) := by decide +kernel
theorem dX11_layOwed_37 : decode cX11_layOwed 37 = .ok (.lstore_n 2, 1) := by decide +kernel
theorem dX11_layOwed_38 : decode cX11_layOwed 38 = .ok (.aload_n 0, 1) := by decide +kernel
theorem dX11_layOwed_39 : decode cX11_layOwed 39 = .ok (.getfield 60, 3) := by decide +kernel
theorem dX11_layOwed_42 : decode cX11_layOwed 42 = .ok (.iload_n 1, 1) := by decide +kernel
theorem dX11_layOwed_43 : decode cX11_layOwed 43 = .ok (.lconst 0, 1) := by decide +kernel
theorem dX11_layOwed_44 : decode cX11_layOwed 44 = .ok (.lload_n 2, 1) := by decide +kernel
theorem dX11_layOwed_45 : decode cX11_layOwed 45 = .ok (.aload_n 0, 1) := by decide +kernel
theorem dX11_layOwed_46 : decode cX11_layOwed 46 = .ok (.iload_n 1, 1) := by decide +kernel
theorem dX11_layOwed_47 : decode cX11_layOwed 47 = .ok (.invokevirtual 291, 3) := by decide +kernel
theorem dX11_layOwed_50 : decode cX11_layOwed 50 = .ok (.lsub, 1) := by decide +kernel
theorem dX11_layOwed_51 : decode cX11_layOwed 51 = .ok (.invokestatic 259, 3) := by decide +kernel
theorem dX11_layOwed_54 : decode cX11_layOwed 54 = .ok (.lastore, 1) := by decide +kernel
theorem dX11_layOwed_55 : decode cX11_layOwed 55 = .ok (.aload_n 0, 1) := by decide +kernel
theorem dX11_layOwed_56 : decode cX11_layOwed 56 = .ok (.getfield 63, 3) := by decide +kernel
theorem dX11_layOwed_59 : decode cX11_layOwed 59 = .ok (.iload_n 1, 1) := by decide +kernel
theorem dX11_layOwed_60 : decode cX11_layOwed 60 = .ok (.aload_n 0, 1) := by decide +kernel
theorem dX11_layOwed_61 : decode cX11_layOwed 61 = .ok (.getfield 60, 3) := by decide +kernel
theorem dX11_layOwed_64 : decode cX11_layOwed 64 = .ok (.iload_n 1, 1) := by decide +kernel
theorem dX11_layOwed_65 : decode cX11_layOwed 65 = .ok (.laload, 1) := by decide +kernel
theorem dX11_layOwed_66 : decode cX11_layOwed 66 = .ok (.aload_n 0, 1) := by decide +kernel
theorem dX11_layOwed_67 : decode cX11_layOwed 67 = .ok (.getfield 7, 3) := by decide +kernel
theorem dX11_layOwed_70 : decode cX11_layOwed 70 = .ok (.bipush 7, 2) := by decide +kernel
theorem dX11_layOwed_72 : decode cX11_layOwed 72 = .ok (.iaload, 1) := by decide +kernel
theorem dX11_layOwed_73 : decode cX11_layOwed 73 = .ok (.invokestatic 220, 3) := by decide +kernel
theorem dX11_layOwed_76 : decode cX11_layOwed 76 = .ok (.lastore, 1) := by decide +kernel
