theorem dX11_ask_36 : decode cX11_ask 36 = .ok (.iconst 0, 1) := by decide +kernel
theorem dX11_ask_37 : decode cX11_ask 37 = .ok (.iconst 2, 1) := by decide +kernel
theorem dX11_ask_38 : decode cX11_ask 38 = .ok (.invokestatic 29, 3) := by decide +kernel
theorem dX11_ask_41 : decode cX11_ask 41 = .ok (.ifCond .ne 6, 3) := by decide +kernel
theorem dX11_ask_44 : decode cX11_ask 44 = .ok (.bipush (-2), 2) := by decide +kernel
theorem dX11_ask_46 : decode cX11_ask 46 = .ok (.ireturn, 1) := by decide +kernel
theorem dX11_ask_47 : decode cX11_ask 47 = .ok (.aload_n 0, 1) := by decide +kernel
theorem dX11_ask_48 : decode cX11_ask 48 = .ok (.iload_n 1, 1) := by decide +kernel
theorem dX11_ask_49 : decode cX11_ask 49 = .ok (.invokevirtual 52, 3) := by decide +kernel
theorem dX11_ask_52 : decode cX11_ask 52 = .ok (.iconst 0, 1) := by decide +kernel
theorem dX11_ask_53 : decode cX11_ask 53 = .ok (.istore 6, 2) := by decide +kernel
theorem dX11_ask_55 : decode cX11_ask 55 = .ok (.iload 6, 2) := by decide +kernel
theorem dX11_ask_57 : decode cX11_ask 57 = .ok (.bipush 6, 2) := by decide +kernel
theorem dX11_ask_59 : decode cX11_ask 59 = .ok (.if_icmp .ge 23, 3) := by decide +kernel
theorem dX11_ask_62 : decode cX11_ask 62 = .ok (.aload_n 0, 1) := by decide +kernel
theorem dX11_ask_63 : decode cX11_ask 63 = .ok (.getfield 26, 3) := by decide +kernel
theorem dX11_ask_66 : decode cX11_ask 66 = .ok (.iload 6, 2) := by decide +kernel
theorem dX11_ask_68 : decode cX11_ask 68 = .ok (.aload_n 0, 1) := by decide +kernel
theorem dX11_ask_69 : decode cX11_ask 69 = .ok (.getfield 13, 3) := by decide +kernel
theorem dX11_ask_72 : decode cX11_ask 72 = .ok (.iload 6, 2) := by decide +kernel
theorem dX11_ask_74 : decode cX11_ask 74 = .ok (.iaload, 1) := by decide +kernel
theorem dX11_ask_75 : decode cX11_ask 75 = .ok (.iastore, 1) := by decide +kernel
theorem dX11_ask_76 : decode cX11_ask 76 = .ok (.iinc 6 1, 3) := by decide +kernel
theorem dX11_ask_79 : decode cX11_ask 79 = .ok (.goto (-24), 3) := by decide +kernel
theorem dX11_ask_82 : decode cX11_ask 82 = .ok (.iconst (-1), 1) := by decide +kernel
theorem dX11_ask_83 : decode cX11_ask 83 = .ok (.istore 6, 2) := by decide +kernel
theorem dX11_ask_85 : decode cX11_ask 85 = .ok (.iconst 0, 1) := by decide +kernel
theorem dX11_ask_86 : decode cX11_ask 86 = .ok (.istore 7, 2) := by decide +kernel
theorem dX11_ask_88 : decode cX11_ask 88 = .ok (.iconst 0, 1) := by decide +kernel
theorem dX11_ask_89 : decode cX11_ask 89 = .ok (.istore 8, 2) := by decide +kernel
theorem dX11_ask_91 : decode cX11_ask 91 = .ok (.iconst 0, 1) := by decide +kernel
theorem dX11_ask_92 : decode cX11_ask 92 = .ok (.istore 9, 2) := by decide +kernel
theorem dX11_ask_94 : decode cX11_ask 94 = .ok (.iload 9, 2) := by decide +kernel
theorem dX11_ask_96 : decode cX11_ask 96 = .ok (.sipush 15625, 3) := by decide +kernel
theorem dX11_ask_99 : decode cX11_ask 99 = .ok (.if_icmp .ge 117, 3) := by decide +kernel
theorem dX11_ask_102 : decode cX11_ask 102 = .ok (.aload_n 0, 1) := by decide +kernel
theorem dX11_ask_103 : decode cX11_ask 103 = .ok (.iload 9, 2) := by decide +kernel
theorem dX11_ask_105 : decode cX11_ask 105 = .ok (.aload_n 0, 1) := by decide +kernel
theorem dX11_ask_106 : decode cX11_ask 106 = .ok (.getfield 7, 3) := by decide +kernel
theorem dX11_ask_109 : decode cX11_ask 109 = .ok (.bipush 10, 2) := by decide +kernel
theorem dX11_ask_111 : decode cX11_ask 111 = .ok (.iconst 2, 1) := by decide +kernel
theorem dX11_ask_112 : decode cX11_ask 112 = .ok (.iload_n 1, 1) := by decide +kernel
theorem dX11_ask_113 : decode cX11_ask 113 = .ok (.imul, 1) := by decide +kernel
theorem dX11_ask_114 : decode cX11_ask 114 = .ok (.iadd, 1) := by decide +kernel
theorem dX11_ask_115 : decode cX11_ask 115 = .ok (.iaload, 1) := by decide +kernel
theorem dX11_ask_116 : decode cX11_ask 116 = .ok (.invokevirtual 110, 3) := by decide +kernel
theorem dX11_ask_119 : decode cX11_ask 119 = .ok (.aload_n 0, 1) := by decide +kernel
theorem dX11_ask_120 : decode cX11_ask 120 = .ok (.iload 4, 2) := by decide +kernel
theorem dX11_ask_122 : decode cX11_ask 122 = .ok (.invokevirtual 130, 3) := by decide +kernel
theorem dX11_ask_125 : decode cX11_ask 125 = .ok (.istore 10, 2) := by decide +kernel
theorem dX11_ask_127 : decode cX11_ask 127 = .ok (.iconst 0, 1) := by decide +kernel
theorem dX11_ask_128 : decode cX11_ask 128 = .ok (.istore 11, 2) := by decide +kernel
theorem dX11_ask_130 : decode cX11_ask 130 = .ok (.iload 11, 2) := by decide +kernel
theorem dX11_ask_132 : decode cX11_ask 132 = .ok (.iconst 4, 1) := by decide +kernel
theorem dX11_ask_133 : decode cX11_ask 133 = .ok (.if_icmp .ge 77, 3) := by decide +kernel
theorem dX11_ask_136 : decode cX11_ask 136 = .ok (.iload 10, 2) := by decide +kernel
theorem dX11_ask_138 : decode cX11_ask 138 = .ok (.iconst (-1), 1) := by decide +kernel
theorem dX11_ask_139 : decode cX11_ask 139 = .ok (.if_icmp .eq 71, 3) := by decide +kernel
theorem dX11_ask_142 : decode cX11_ask 142 = .ok (.iload 6, 2) := by decide +kernel
theorem dX11_ask_144 : decode cX11_ask 144 = .ok (.iconst (-1), 1) := by decide +kernel
theorem dX11_ask_145 : decode cX11_ask 145 = .ok (.if_icmp .eq 24, 3) := by decide +kernel
theorem dX11_ask_148 : decode cX11_ask 148 = .ok (.iload 10, 2) := by decide +kernel
theorem dX11_ask_150 : decode cX11_ask 150 = .ok (.iload 6, 2) := by decide +kernel
theorem dX11_ask_152 : decode cX11_ask 152 = .ok (.if_icmp .lt 17, 3) := by decide +kernel
theorem dX11_ask_155 : decode cX11_ask 155 = .ok (.iload 10, 2) := by decide +kernel
theorem dX11_ask_157 : decode cX11_ask 157 = .ok (.iload 6, 2) := by decide +kernel
theorem dX11_ask_159 : decode cX11_ask 159 = .ok (.if_icmp .ne 14, 3) := by decide +kernel
theorem dX11_ask_162 : decode cX11_ask 162 = .ok (.iload 11, 2) := by decide +kernel
theorem dX11_ask_164 : decode cX11_ask 164 = .ok (.iload 7, 2) := by decide +kernel
theorem dX11_ask_166 : decode cX11_ask 166 = .ok (.if_icmp .ge 7, 3) := by decide +kernel
theorem dX11_ask_169 : decode cX11_ask 169 = .ok (.iconst 1, 1) := by decide +kernel
theorem dX11_ask_170 : decode cX11_ask 170 = .ok (.goto 4, 3) := by decide +kernel
theorem dX11_ask_173 : decode cX11_ask 173 = .ok (.iconst 0, 1) := by decide +kernel
theorem dX11_ask_174 : decode cX11_ask 174 = .ok (.istore 12, 2) := by decide +kernel
theorem dX11_ask_176 : decode cX11_ask 176 = .ok (.iload 12, 2) := by decide +kernel
theorem dX11_ask_178 : decode cX11_ask 178 = .ok (.ifCond .eq 26, 3) := by decide +kernel
theorem dX11_ask_181 : decode cX11_ask 181 = .ok (.aload_n 0, 1) := by decide +kernel
theorem dX11_ask_182 : decode cX11_ask 182 = .ok (.iload 11, 2) := by decide +kernel
theorem dX11_ask_184 : decode cX11_ask 184 = .ok (.iload_n 2, 1) := by decide +kernel
theorem dX11_ask_185 : decode cX11_ask 185 = .ok (.invokevirtual 100, 3) := by decide +kernel
theorem dX11_ask_188 : decode cX11_ask 188 = .ok (.iload_n 3, 1) := by decide +kernel
theorem dX11_ask_189 : decode cX11_ask 189 = .ok (.if_icmp .ne 15, 3) := by decide +kernel
theorem dX11_ask_192 : decode cX11_ask 192 = .ok (.iload 10, 2) := by decide +kernel
theorem dX11_ask_194 : decode cX11_ask 194 = .ok (.istore 6, 2) := by decide +kernel
theorem dX11_ask_196 : decode cX11_ask 196 = .ok (.iload 11, 2) := by decide +kernel
theorem dX11_ask_198 : decode cX11_ask 198 = .ok (.istore 7, 2) := by decide +kernel
theorem dX11_ask_200 : decode cX11_ask 200 = .ok (.iload 9, 2) := by decide +kernel
theorem dX11_ask_202 : decode cX11_ask 202 = .ok (.istore 8, 2) := by decide +kernel
theorem dX11_ask_204 : decode cX11_ask 204 = .ok (.iinc 11 1, 3) := by decide +kernel
theorem dX11_ask_207 : decode cX11_ask 207 = .ok (.goto (-77), 3) := by decide +kernel
theorem dX11_ask_210 : decode cX11_ask 210 = .ok (.iinc 9 1, 3) := by decide +kernel
theorem dX11_ask_213 : decode cX11_ask 213 = .ok (.goto (-119), 3) := by decide +kernel
theorem dX11_ask_216 : decode cX11_ask 216 = .ok (.iload 6, 2) := by decide +kernel
theorem dX11_ask_218 : decode cX11_ask 218 = .ok (.iconst (-1), 1) := by decide +kernel
theorem dX11_ask_219 : decode cX11_ask 219 = .ok (.if_icmp .ne 7, 3) := by decide +kernel
theorem dX11_ask_222 : decode cX11_ask 222 = .ok (.iconst (-1), 1) := by decide +kernel
theorem dX11_ask_223 : decode cX11_ask 223 = .ok (.goto 26, 3) := by decide +kernel
theorem dX11_ask_226 : decode cX11_ask 226 = .ok (.iload 5, 2) := by decide +kernel
theorem dX11_ask_228 : decode cX11_ask 228 = .ok (.ifCond .ne 8, 3) := by decide +kernel
theorem dX11_ask_231 : decode cX11_ask 231 = .ok (.iload 6, 2) := by decide +kernel
theorem dX11_ask_233 : decode cX11_ask 233 = .ok (.goto 16, 3) := by decide +kernel
theorem dX11_ask_236 : decode cX11_ask 236 = .ok (.iload 5, 2) := by decide +kernel
theorem dX11_ask_238 : decode cX11_ask 238 = .ok (.iconst 1, 1) := by decide +kernel
theorem dX11_ask_239 : decode cX11_ask 239 = .ok (.if_icmp .ne 8, 3) := by decide +kernel
theorem dX11_ask_242 : decode cX11_ask 242 = .ok (.iload 7, 2) := by decide +kernel
theorem dX11_ask_244 : decode cX11_ask 244 = .ok (.goto 5, 3) := by decide +kernel
theorem dX11_ask_247 : decode cX11_ask 247 = .ok (.iload 8, 2) := by decide +kernel
theorem dX11_ask_249 : decode cX11_ask 249 = .ok (.ireturn, 1) := by decide +kernel
set_option maxRecDepth 20000 in
theorem ggX11_count_X11_in : GoodIn wsX11_count wsX11_in := goodIn_r _ [5] (by decide +kernel) (by decide +kernel)
set_option maxRecDepth 20000 in
theorem gX11_count_X11_in : GoodIn wsX11_count (va_wsS RX11 29 yX11_in wsX11_in) := goodIn_app (goodIn_of _ (by decide +kernel)) ggX11_count_X11_in
theorem dX11_count_0 : decode cX11_count 0 = .ok (.iload_n 1, 1) := by decide +kernel
theorem dX11_count_1 : decode cX11_count 1 = .ok (.iconst 0, 1) := by decide +kernel
theorem dX11_count_2 : decode cX11_count 2 = .ok (.iconst 4, 1) := by decide +kernel
theorem dX11_count_3 : decode cX11_count 3 = .ok (.invokestatic 29, 3) := by decide +kernel
theorem dX11_count_6 : decode cX11_count 6 = .ok (.ifCond .eq 12, 3) := by decide +kernel
theorem dX11_count_9 : decode cX11_count 9 = .ok (.aload_n 0, 1) := by decide +kernel
theorem dX11_count_10 : decode cX11_count 10 = .ok (.getfield 7, 3) := by decide +kernel
theorem dX11_count_13 : decode cX11_count 13 = .ok (.iload_n 1, 1) := by decide +kernel
theorem dX11_count_14 : decode cX11_count 14 = .ok (.iaload, 1) := by decide +kernel
theorem dX11_count_15 : decode cX11_count 15 = .ok (.goto 5, 3) := by decide +kernel
theorem dX11_count_18 : decode cX11_count 18 = .ok (.bipush (-2), 2) := by decide +kernel
theorem dX11_count_20 : decode cX11_count 20 = .ok (.ireturn, 1) := by decide +kernel
theorem dX11_mixed_0 : decode cX11_mixed 0 = .ok (.lload_n 1, 1) := by decide +kernel
theorem dX11_mixed_1 : decode cX11_mixed 1 = .ok (.lstore 5, 2) := by decide +kernel
theorem dX11_mixed_3 : decode cX11_mixed 3 = .ok (.iconst 0, 1) := by decide +kernel
theorem dX11_mixed_4 : decode cX11_mixed 4 = .ok (.istore 7, 2) := by decide +kernel
theorem dX11_mixed_6 : decode cX11_mixed 6 = .ok (.iload 7, 2) := by decide +kernel
theorem dX11_mixed_8 : decode cX11_mixed 8 = .ok (.iload 4, 2) := by decide +kernel
theorem dX11_mixed_10 : decode cX11_mixed 10 = .ok (.if_icmp .ge 28, 3) := by decide +kernel
theorem dX11_mixed_13 : decode cX11_mixed 13 = .ok (.ldc2_w 133, 3) := by decide +kernel
theorem dX11_mixed_16 : decode cX11_mixed 16 = .ok (.lload 5, 2) := by decide +kernel
theorem dX11_mixed_18 : decode cX11_mixed 18 = .ok (.lmul, 1) := by decide +kernel
theorem dX11_mixed_19 : decode cX11_mixed 19 = .ok (.aload_n 0, 1) := by decide +kernel
theorem dX11_mixed_20 : decode cX11_mixed 20 = .ok (.getfield 7, 3) := by decide +kernel
theorem dX11_mixed_23 : decode cX11_mixed 23 = .ok (.iload_n 3, 1) := by decide +kernel
theorem dX11_mixed_24 : decode cX11_mixed 24 = .ok (.iload 7, 2) := by decide +kernel
theorem dX11_mixed_26 : decode cX11_mixed 26 = .ok (.iadd, 1) := by decide +kernel
theorem dX11_mixed_27 : decode cX11_mixed 27 = .ok (.iaload, 1) := by decide +kernel
theorem dX11_mixed_28 : decode cX11_mixed 28 = .ok (.i2l, 1) := by decide +kernel
theorem dX11_mixed_29 : decode cX11_mixed 29 = .ok (.ladd, 1) := by decide +kernel
theorem dX11_mixed_30 : decode cX11_mixed 30 = .ok (.lstore 5, 2) := by decide +kernel
theorem dX11_mixed_32 : decode cX11_mixed 32 = .ok (.iinc 7 1, 3) := by decide +kernel
theorem dX11_mixed_35 : decode cX11_mixed 35 = .ok (.goto (-29), 3) := by decide +kernel
theorem dX11_mixed_38 : decode cX11_mixed 38 = .ok (.lload 5, 2) := by decide +kernel
theorem dX11_mixed_40 : decode cX11_mixed 40 = .ok (.lreturn, 1) := by decide +kernel
set_option maxRecDepth 20000 in
theorem ggX11_digest_X11_mixed : GoodIn wsX11_digest wsX11_mixed := goodIn_r _ [9, 3, 2, 60, 61, 62, 63, 64, 65, 66, 67] (by decide +kernel) (by decide +kernel)
set_option maxRecDepth 20000 in
theorem gX11_digest_X11_mixed : GoodIn wsX11_digest (wsV RX11 137 RX11 yX11_mixed wsX11_mixed) := goodIn_app (goodIn_of _ (by decide +kernel)) ggX11_digest_X11_mixed
set_option maxRecDepth 20000 in
theorem ggX11_digest_X11_looksAt : GoodIn wsX11_digest wsX11_looksAt := goodIn_r _ [13, 2, 14, 4, 60, 61, 62, 63, 64, 65, 66, 67] (by decide +kernel) (by decide +kernel)
set_option maxRecDepth 20000 in
theorem gX11_digest_X11_looksAt : GoodIn wsX11_digest (wsV RX11 52 RX11 yX11_looksAt wsX11_looksAt) := goodIn_app (goodIn_of _ (by decide +kernel)) ggX11_digest_X11_looksAt
set_option maxRecDepth 20000 in
theorem ggX11_digest_X11_endsOf : GoodIn wsX11_digest wsX11_endsOf := goodIn_r _ [18, 2, 19, 20, 21, 8, 22, 4, 23, 24, 25, 26, 27, 28, 29, 30, 31, 32, 33, 34, 35, 36, 37, 38, 39, 40, 41, 42, 43, 44, 45, 46, 47, 14, 48, 49, 50, 51, 52, 53, 54, 55, 56, 57, 58, 59, 60, 61, 62, 63, 64, 65, 66, 67] (by decide +kernel) (by decide +kernel)
set_option maxRecDepth 20000 in
theorem gX11_digest_X11_endsOf : GoodIn wsX11_digest (wsV RX11 100 RX11 yX11_endsOf wsX11_endsOf) := goodIn_app (goodIn_of _ (by decide +kernel)) ggX11_digest_X11_endsOf
set_option maxRecDepth 20000 in
theorem ggX11_digest_X11_ruleOf : GoodIn wsX11_digest wsX11_ruleOf := goodIn_r _ [39, 2, 60, 61, 62, 63, 64, 65, 66, 67] (by decide +kernel) (by decide +kernel)
set_option maxRecDepth 20000 in
theorem gX11_digest_X11_ruleOf : GoodIn wsX11_digest (wsV RX11 62 RX11 yX11_ruleOf wsX11_ruleOf) := goodIn_app (goodIn_of _ (by decide +kernel)) ggX11_digest_X11_ruleOf
theorem dX11_digest_0 : decode cX11_digest 0 = .ok (.aload_n 0, 1) := by decide +kernel
theorem dX11_digest_1 : decode cX11_digest 1 = .ok (.ldc2_w 135, 3) := by decide +kernel
theorem dX11_digest_4 : decode cX11_digest 4 = .ok (.iconst 0, 1) := by decide +kernel
theorem dX11_digest_5 : decode cX11_digest 5 = .ok (.iconst 5, 1) := by decide +kernel
theorem dX11_digest_6 : decode cX11_digest 6 = .ok (.invokevirtual 137, 3) := by decide +kernel
theorem dX11_digest_9 : decode cX11_digest 9 = .ok (.lstore_n 1, 1) := by decide +kernel
theorem dX11_digest_10 : decode cX11_digest 10 = .ok (.iconst 0, 1) := by decide +kernel
theorem dX11_digest_11 : decode cX11_digest 11 = .ok (.istore_n 3, 1) := by decide +kernel
theorem dX11_digest_12 : decode cX11_digest 12 = .ok (.iload_n 3, 1) := by decide +kernel
theorem dX11_digest_13 : decode cX11_digest 13 = .ok (.aload_n 0, 1) := by decide +kernel
theorem dX11_digest_14 : decode cX11_digest 14 = .ok (.getfield 7, 3) := by decide +kernel
theorem dX11_digest_17 : decode cX11_digest 17 = .ok (.iconst 0, 1) := by decide +kernel
theorem dX11_digest_18 : decode cX11_digest 18 = .ok (.iaload, 1) := by decide +kernel
theorem dX11_digest_19 : decode cX11_digest 19 = .ok (.if_icmp .ge 94, 3) := by decide +kernel
theorem dX11_digest_22 : decode cX11_digest 22 = .ok (.aload_n 0, 1) := by decide +kernel
theorem dX11_digest_23 : decode cX11_digest 23 = .ok (.lload_n 1, 1) := by decide +kernel
theorem dX11_digest_24 : decode cX11_digest 24 = .ok (.bipush 10, 2) := by decide +kernel
theorem dX11_digest_26 : decode cX11_digest 26 = .ok (.iconst 2, 1) := by decide +kernel
theorem dX11_digest_27 : decode cX11_digest 27 = .ok (.iload_n 3, 1) := by decide +kernel
theorem dX11_digest_28 : decode cX11_digest 28 = .ok (.imul, 1) := by decide +kernel
theorem dX11_digest_29 : decode cX11_digest 29 = .ok (.iadd, 1) := by decide +kernel
theorem dX11_digest_30 : decode cX11_digest 30 = .ok (.iconst 2, 1) := by decide +kernel
theorem dX11_digest_31 : decode cX11_digest 31 = .ok (.invokevirtual 137, 3) := by decide +kernel
theorem dX11_digest_34 : decode cX11_digest 34 = .ok (.lstore_n 1, 1) := by decide +kernel
theorem dX11_digest_35 : decode cX11_digest 35 = .ok (.aload_n 0, 1) := by decide +kernel
theorem dX11_digest_36 : decode cX11_digest 36 = .ok (.iload_n 3, 1) := by decide +kernel
theorem dX11_digest_37 : decode cX11_digest 37 = .ok (.invokevirtual 52, 3) := by decide +kernel
theorem dX11_digest_40 : decode cX11_digest 40 = .ok (.iconst 0, 1) := by decide +kernel
theorem dX11_digest_41 : decode cX11_digest 41 = .ok (.istore 4, 2) := by decide +kernel
theorem dX11_digest_43 : decode cX11_digest 43 = .ok (.iload 4, 2) := by decide +kernel
theorem dX11_digest_45 : decode cX11_digest 45 = .ok (.bipush 6, 2) := by decide +kernel
theorem dX11_digest_47 : decode cX11_digest 47 = .ok (.if_icmp .ge 24, 3) := by decide +kernel
theorem dX11_digest_50 : decode cX11_digest 50 = .ok (.ldc2_w 133, 3) := by decide +kernel
theorem dX11_digest_53 : decode cX11_digest 53 = .ok (.lload_n 1, 1) := by decide +kernel
theorem dX11_digest_54 : decode cX11_digest 54 = .ok (.lmul, 1) := by decide +kernel
theorem dX11_digest_55 : decode cX11_digest 55 = .ok (.aload_n 0, 1) := by decide +kernel
theorem dX11_digest_56 : decode cX11_digest 56 = .ok (.getfield 13, 3) := by decide +kernel
theorem dX11_digest_59 : decode cX11_digest 59 = .ok (.iload 4, 2) := by decide +kernel
theorem dX11_digest_61 : decode cX11_digest 61 = .ok (.iaload, 1) := by decide +kernel
theorem dX11_digest_62 : decode cX11_digest 62 = .ok (.i2l, 1) := by decide +kernel
theorem dX11_digest_63 : decode cX11_digest 63 = .ok (.ladd, 1) := by decide +kernel
theorem dX11_digest_64 : decode cX11_digest 64 = .ok (.lstore_n 1, 1) := by decide +kernel
theorem dX11_digest_65 : decode cX11_digest 65 = .ok (.iinc 4 1, 3) := by decide +kernel
theorem dX11_digest_68 : decode cX11_digest 68 = .ok (.goto (-25), 3) := by decide +kernel
theorem dX11_digest_71 : decode cX11_digest 71 = .ok (.iconst 0, 1) := by decide +kernel
theorem dX11_digest_72 : decode cX11_digest 72 = .ok (.istore 4, 2) := by decide +kernel
theorem dX11_digest_74 : decode cX11_digest 74 = .ok (.iload 4, 2) := by decide +kernel
theorem dX11_digest_76 : decode cX11_digest 76 = .ok (.bipush 12, 2) := by decide +kernel
theorem dX11_digest_78 : decode cX11_digest 78 = .ok (.if_icmp .ge 29, 3) := by decide +kernel
theorem dX11_digest_81 : decode cX11_digest 81 = .ok (.ldc2_w 133, 3) := by decide +kernel
theorem dX11_digest_84 : decode cX11_digest 84 = .ok (.lload_n 1, 1) := by decide +kernel
theorem dX11_digest_85 : decode cX11_digest 85 = .ok (.lmul, 1) := by decide +kernel
theorem dX11_digest_86 : decode cX11_digest 86 = .ok (.aload_n 0, 1) := by decide +kernel
theorem dX11_digest_87 : decode cX11_digest 87 = .ok (.iload 4, 2) := by decide +kernel
theorem dX11_digest_89 : decode cX11_digest 89 = .ok (.iconst 4, 1) := by decide +kernel
theorem dX11_digest_90 : decode cX11_digest 90 = .ok (.irem, 1) := by decide +kernel
theorem dX11_digest_91 : decode cX11_digest 91 = .ok (.iload 4, 2) := by decide +kernel
theorem dX11_digest_93 : decode cX11_digest 93 = .ok (.iconst 4, 1) := by decide +kernel
theorem dX11_digest_94 : decode cX11_digest 94 = .ok (.idiv, 1) := by decide +kernel
theorem dX11_digest_95 : decode cX11_digest 95 = .ok (.invokevirtual 100, 3) := by decide +kernel
theorem dX11_digest_98 : decode cX11_digest 98 = .ok (.i2l, 1) := by decide +kernel
theorem dX11_digest_99 : decode cX11_digest 99 = .ok (.ladd, 1) := by decide +kernel
theorem dX11_digest_100 : decode cX11_digest 100 = .ok (.lstore_n 1, 1) := by decide +kernel
theorem dX11_digest_101 : decode cX11_digest 101 = .ok (.iinc 4 1, 3) := by decide +kernel
theorem dX11_digest_104 : decode cX11_digest 104 = .ok (.goto (-30), 3) := by decide +kernel
theorem dX11_digest_107 : decode cX11_digest 107 = .ok (.iinc 3 1, 3) := by decide +kernel
theorem dX11_digest_110 : decode cX11_digest 110 = .ok (.goto (-98), 3) := by decide +kernel
theorem dX11_digest_113 : decode cX11_digest 113 = .ok (.iconst 0, 1) := by decide +kernel
theorem dX11_digest_114 : decode cX11_digest 114 = .ok (.istore_n 3, 1) := by decide +kernel
theorem dX11_digest_115 : decode cX11_digest 115 = .ok (.iload_n 3, 1) := by decide +kernel
theorem dX11_digest_116 : decode cX11_digest 116 = .ok (.aload_n 0, 1) := by decide +kernel
theorem dX11_digest_117 : decode cX11_digest 117 = .ok (.getfield 7, 3) := by decide +kernel
theorem dX11_digest_120 : decode cX11_digest 120 = .ok (.iconst 2, 1) := by decide +kernel
theorem dX11_digest_121 : decode cX11_digest 121 = .ok (.iaload, 1) := by decide +kernel
theorem dX11_digest_122 : decode cX11_digest 122 = .ok (.if_icmp .ge 35, 3) := by decide +kernel
theorem dX11_digest_125 : decode cX11_digest 125 = .ok (.aload_n 0, 1) := by decide +kernel
theorem dX11_digest_126 : decode cX11_digest 126 = .ok (.lload_n 1, 1) := by decide +kernel
theorem dX11_digest_127 : decode cX11_digest 127 = .ok (.sipush 282, 3) := by decide +kernel
theorem dX11_digest_130 : decode cX11_digest 130 = .ok (.bipush 11, 2) := by decide +kernel
theorem dX11_digest_132 : decode cX11_digest 132 = .ok (.iload_n 3, 1) := by decide +kernel
theorem dX11_digest_133 : decode cX11_digest 133 = .ok (.imul, 1) := by decide +kernel
theorem dX11_digest_134 : decode cX11_digest 134 = .ok (.iadd, 1) := by decide +kernel
theorem dX11_digest_135 : decode cX11_digest 135 = .ok (.bipush 7, 2) := by decide +kernel
theorem dX11_digest_137 : decode cX11_digest 137 = .ok (.iconst 2, 1) := by decide +kernel
theorem dX11_digest_138 : decode cX11_digest 138 = .ok (.aload_n 0, 1) := by decide +kernel
theorem dX11_digest_139 : decode cX11_digest 139 = .ok (.iload_n 3, 1) := by decide +kernel
theorem dX11_digest_140 : decode cX11_digest 140 = .ok (.bipush 6, 2) := by decide +kernel
theorem dX11_digest_142 : decode cX11_digest 142 = .ok (.invokevirtual 62, 3) := by decide +kernel
theorem dX11_digest_145 : decode cX11_digest 145 = .ok (.imul, 1) := by decide +kernel
theorem dX11_digest_146 : decode cX11_digest 146 = .ok (.iadd, 1) := by decide +kernel
theorem dX11_digest_147 : decode cX11_digest 147 = .ok (.invokevirtual 137, 3) := by decide +kernel
theorem dX11_digest_150 : decode cX11_digest 150 = .ok (.lstore_n 1, 1) := by decide +kernel
theorem dX11_digest_151 : decode cX11_digest 151 = .ok (.iinc 3 1, 3) := by decide +kernel
theorem dX11_digest_154 : decode cX11_digest 154 = .ok (.goto (-39), 3) := by decide +kernel
theorem dX11_digest_157 : decode cX11_digest 157 = .ok (.aload_n 0, 1) := by decide +kernel
theorem dX11_digest_158 : decode cX11_digest 158 = .ok (.aload_n 0, 1) := by decide +kernel
theorem dX11_digest_159 : decode cX11_digest 159 = .ok (.aload_n 0, 1) := by decide +kernel
theorem dX11_digest_160 : decode cX11_digest 160 = .ok (.lload_n 1, 1) := by decide +kernel
theorem dX11_digest_161 : decode cX11_digest 161 = .ok (.sipush 942, 3) := by decide +kernel
theorem dX11_digest_164 : decode cX11_digest 164 = .ok (.bipush 12, 2) := by decide +kernel
theorem dX11_digest_166 : decode cX11_digest 166 = .ok (.invokevirtual 137, 3) := by decide +kernel
theorem dX11_digest_169 : decode cX11_digest 169 = .ok (.sipush 954, 3) := by decide +kernel
theorem dX11_digest_172 : decode cX11_digest 172 = .ok (.iconst 4, 1) := by decide +kernel
theorem dX11_digest_173 : decode cX11_digest 173 = .ok (.invokevirtual 137, 3) := by decide +kernel
theorem dX11_digest_176 : decode cX11_digest 176 = .ok (.sipush 958, 3) := by decide +kernel
theorem dX11_digest_179 : decode cX11_digest 179 = .ok (.iconst 3, 1) := by decide +kernel
theorem dX11_digest_180 : decode cX11_digest 180 = .ok (.aload_n 0, 1) := by decide +kernel
theorem dX11_digest_181 : decode cX11_digest 181 = .ok (.getfield 7, 3) := by decide +kernel
theorem dX11_digest_184 : decode cX11_digest 184 = .ok (.iconst 3, 1) := by decide +kernel
theorem dX11_digest_185 : decode cX11_digest 185 = .ok (.iaload, 1) := by decide +kernel
theorem dX11_digest_186 : decode cX11_digest 186 = .ok (.imul, 1) := by decide +kernel
theorem dX11_digest_187 : decode cX11_digest 187 = .ok (.invokevirtual 137, 3) := by decide +kernel
theorem dX11_digest_190 : decode cX11_digest 190 = .ok (.lstore_n 1, 1) := by decide +kernel
theorem dX11_digest_191 : decode cX11_digest 191 = .ok (.aload_n 0, 1) := by decide +kernel
theorem dX11_digest_192 : decode cX11_digest 192 = .ok (.lload_n 1, 1) := by decide +kernel
theorem dX11_digest_193 : decode cX11_digest 193 = .ok (.sipush 982, 3) := by decide +kernel
theorem dX11_digest_196 : decode cX11_digest 196 = .ok (.aload_n 0, 1) := by decide +kernel
theorem dX11_digest_197 : decode cX11_digest 197 = .ok (.getfield 7, 3) := by decide +kernel
theorem dX11_digest_200 : decode cX11_digest 200 = .ok (.iconst 4, 1) := by decide +kernel
theorem dX11_digest_201 : decode cX11_digest 201 = .ok (.iaload, 1) := by decide +kernel
theorem dX11_digest_202 : decode cX11_digest 202 = .ok (.invokevirtual 137, 3) := by decide +kernel
theorem dX11_digest_205 : decode cX11_digest 205 = .ok (.lreturn, 1) := by decide +kernel
theorem dJ6_bitCount_0f7a4_0 : decode cJ6_bitCount_0f7a4 0 = .ok (.iload_n 0, 1) := by decide +kernel
theorem dJ6_bitCount_0f7a4_1 : decode cJ6_bitCount_0f7a4 1 = .ok (.iload_n 0, 1) := by decide +kernel
theorem dJ6_bitCount_0f7a4_2 : decode cJ6_bitCount_0f7a4 2 = .ok (.iconst 1, 1) := by decide +kernel
theorem dJ6_bitCount_0f7a4_3 : decode cJ6_bitCount_0f7a4 3 = .ok (.iushr, 1) := by decide +kernel
theorem dJ6_bitCount_0f7a4_4 : decode cJ6_bitCount_0f7a4 4 = .ok (.ldc_w 265, 3) := by decide +kernel
theorem dJ6_bitCount_0f7a4_7 : decode cJ6_bitCount_0f7a4 7 = .ok (.iand, 1) := by decide +kernel
theorem dJ6_bitCount_0f7a4_8 : decode cJ6_bitCount_0f7a4 8 = .ok (.isub, 1) := by decide +kernel
theorem dJ6_bitCount_0f7a4_9 : decode cJ6_bitCount_0f7a4 9 = .ok (.istore_n 0, 1) := by decide +kernel
theorem dJ6_bitCount_0f7a4_10 : decode cJ6_bitCount_0f7a4 10 = .ok (.iload_n 0, 1) := by decide +kernel
theorem dJ6_bitCount_0f7a4_11 : decode cJ6_bitCount_0f7a4 11 = .ok (.ldc_w 266, 3) := by decide +kernel
theorem dJ6_bitCount_0f7a4_14 : decode cJ6_bitCount_0f7a4 14 = .ok (.iand, 1) := by decide +kernel
theorem dJ6_bitCount_0f7a4_15 : decode cJ6_bitCount_0f7a4 15 = .ok (.iload_n 0, 1) := by decide +kernel
theorem dJ6_bitCount_0f7a4_16 : decode cJ6_bitCount_0f7a4 16 = .ok (.iconst 2, 1) := by decide +kernel
theorem dJ6_bitCount_0f7a4_17 : decode cJ6_bitCount_0f7a4 17 = .ok (.iushr, 1) := by decide +kernel
theorem dJ6_bitCount_0f7a4_18 : decode cJ6_bitCount_0f7a4 18 = .ok (.ldc_w 266, 3) := by decide +kernel
theorem dJ6_bitCount_0f7a4_21 : decode cJ6_bitCount_0f7a4 21 = .ok (.iand, 1) := by decide +kernel
theorem dJ6_bitCount_0f7a4_22 : decode cJ6_bitCount_0f7a4 22 = .ok (.iadd, 1) := by decide +kernel
theorem dJ6_bitCount_0f7a4_23 : decode cJ6_bitCount_0f7a4 23 = .ok (.istore_n 0, 1) := by decide +kernel
theorem dJ6_bitCount_0f7a4_24 : decode cJ6_bitCount_0f7a4 24 = .ok (.iload_n 0, 1) := by decide +kernel
theorem dJ6_bitCount_0f7a4_25 : decode cJ6_bitCount_0f7a4 25 = .ok (.iload_n 0, 1) := by decide +kernel
theorem dJ6_bitCount_0f7a4_26 : decode cJ6_bitCount_0f7a4 26 = .ok (.iconst 4, 1) := by decide +kernel
theorem dJ6_bitCount_0f7a4_27 : decode cJ6_bitCount_0f7a4 27 = .ok (.iushr, 1) := by decide +kernel
theorem dJ6_bitCount_0f7a4_28 : decode cJ6_bitCount_0f7a4 28 = .ok (.iadd, 1) := by decide +kernel
theorem dJ6_bitCount_0f7a4_29 : decode cJ6_bitCount_0f7a4 29 = .ok (.ldc_w 267, 3) := by decide +kernel
theorem dJ6_bitCount_0f7a4_32 : decode cJ6_bitCount_0f7a4 32 = .ok (.iand, 1) := by decide +kernel
theorem dJ6_bitCount_0f7a4_33 : decode cJ6_bitCount_0f7a4 33 = .ok (.istore_n 0, 1) := by decide +kernel
theorem dJ6_bitCount_0f7a4_34 : decode cJ6_bitCount_0f7a4 34 = .ok (.iload_n 0, 1) := by decide +kernel
theorem dJ6_bitCount_0f7a4_35 : decode cJ6_bitCount_0f7a4 35 = .ok (.iload_n 0, 1) := by decide +kernel
theorem dJ6_bitCount_0f7a4_36 : decode cJ6_bitCount_0f7a4 36 = .ok (.bipush 8, 2) := by decide +kernel
theorem dJ6_bitCount_0f7a4_38 : decode cJ6_bitCount_0f7a4 38 = .ok (.iushr, 1) := by decide +kernel
theorem dJ6_bitCount_0f7a4_39 : decode cJ6_bitCount_0f7a4 39 = .ok (.iadd, 1) := by decide +kernel
theorem dJ6_bitCount_0f7a4_40 : decode cJ6_bitCount_0f7a4 40 = .ok (.istore_n 0, 1) := by decide +kernel
theorem dJ6_bitCount_0f7a4_41 : decode cJ6_bitCount_0f7a4 41 = .ok (.iload_n 0, 1) := by decide +kernel
theorem dJ6_bitCount_0f7a4_42 : decode cJ6_bitCount_0f7a4 42 = .ok (.iload_n 0, 1) := by decide +kernel
theorem dJ6_bitCount_0f7a4_43 : decode cJ6_bitCount_0f7a4 43 = .ok (.bipush 16, 2) := by decide +kernel
theorem dJ6_bitCount_0f7a4_45 : decode cJ6_bitCount_0f7a4 45 = .ok (.iushr, 1) := by decide +kernel
theorem dJ6_bitCount_0f7a4_46 : decode cJ6_bitCount_0f7a4 46 = .ok (.iadd, 1) := by decide +kernel
theorem dJ6_bitCount_0f7a4_47 : decode cJ6_bitCount_0f7a4 47 = .ok (.istore_n 0, 1) := by decide +kernel
theorem dJ6_bitCount_0f7a4_48 : decode cJ6_bitCount_0f7a4 48 = .ok (.iload_n 0, 1) := by decide +kernel
theorem dJ6_bitCount_0f7a4_49 : decode cJ6_bitCount_0f7a4 49 = .ok (.bipush 63, 2) := by decide +kernel
theorem dJ6_bitCount_0f7a4_51 : decode cJ6_bitCount_0f7a4 51 = .ok (.iand, 1) := by decide +kernel
theorem dJ6_bitCount_0f7a4_52 : decode cJ6_bitCount_0f7a4 52 = .ok (.ireturn, 1) := by decide +kernel
theorem dJ13_bitCount_95d88_0 : decode cJ13_bitCount_95d88 0 = .ok (.lload_n 0, 1) := by decide +kernel
theorem dJ13_bitCount_95d88_1 : decode cJ13_bitCount_95d88 1 = .ok (.lload_n 0, 1) := by decide +kernel
theorem dJ13_bitCount_95d88_2 : decode cJ13_bitCount_95d88 2 = .ok (.iconst 1, 1) := by decide +kernel
theorem dJ13_bitCount_95d88_3 : decode cJ13_bitCount_95d88 3 = .ok (.lushr, 1) := by decide +kernel
theorem dJ13_bitCount_95d88_4 : decode cJ13_bitCount_95d88 4 = .ok (.ldc2_w 314, 3) := by decide +kernel
theorem dJ13_bitCount_95d88_7 : decode cJ13_bitCount_95d88 7 = .ok (.land, 1) := by decide +kernel
theorem dJ13_bitCount_95d88_8 : decode cJ13_bitCount_95d88 8 = .ok (.lsub, 1) := by decide +kernel
theorem dJ13_bitCount_95d88_9 : decode cJ13_bitCount_95d88 9 = .ok (.lstore_n 0, 1) := by decide +kernel
theorem dJ13_bitCount_95d88_10 : decode cJ13_bitCount_95d88 10 = .ok (.lload_n 0, 1) := by decide +kernel
theorem dJ13_bitCount_95d88_11 : decode cJ13_bitCount_95d88 11 = .ok (.ldc2_w 316, 3) := by decide +kernel
theorem dJ13_bitCount_95d88_14 : decode cJ13_bitCount_95d88 14 = .ok (.land, 1) := by decide +kernel
theorem dJ13_bitCount_95d88_15 : decode cJ13_bitCount_95d88 15 = .ok (.lload_n 0, 1) := by decide +kernel
theorem dJ13_bitCount_95d88_16 : decode cJ13_bitCount_95d88 16 = .ok (.iconst 2, 1) := by decide +kernel
theorem dJ13_bitCount_95d88_17 : decode cJ13_bitCount_95d88 17 = .ok (.lushr, 1) := by decide +kernel
theorem dJ13_bitCount_95d88_18 : decode cJ13_bitCount_95d88 18 = .ok (.ldc2_w 316, 3) := by decide +kernel
theorem dJ13_bitCount_95d88_21 : decode cJ13_bitCount_95d88 21 = .ok (.land, 1) := by decide +kernel
theorem dJ13_bitCount_95d88_22 : decode cJ13_bitCount_95d88 22 = .ok (.ladd, 1) := by decide +kernel
theorem dJ13_bitCount_95d88_23 : decode cJ13_bitCount_95d88 23 = .ok (.lstore_n 0, 1) := by decide +kernel
theorem dJ13_bitCount_95d88_24 : decode cJ13_bitCount_95d88 24 = .ok (.lload_n 0, 1) := by decide +kernel
theorem dJ13_bitCount_95d88_25 : decode cJ13_bitCount_95d88 25 = .ok (.lload_n 0, 1) := by decide +kernel
theorem dJ13_bitCount_95d88_26 : decode cJ13_bitCount_95d88 26 = .ok (.iconst 4, 1) := by decide +kernel
theorem dJ13_bitCount_95d88_27 : decode cJ13_bitCount_95d88 27 = .ok (.lushr, 1) := by decide +kernel
theorem dJ13_bitCount_95d88_28 : decode cJ13_bitCount_95d88 28 = .ok (.ladd, 1) := by decide +kernel
theorem dJ13_bitCount_95d88_29 : decode cJ13_bitCount_95d88 29 = .ok (.ldc2_w 318, 3) := by decide +kernel
theorem dJ13_bitCount_95d88_32 : decode cJ13_bitCount_95d88 32 = .ok (.land, 1) := by decide +kernel
theorem dJ13_bitCount_95d88_33 : decode cJ13_bitCount_95d88 33 = .ok (.lstore_n 0, 1) := by decide +kernel
theorem dJ13_bitCount_95d88_34 : decode cJ13_bitCount_95d88 34 = .ok (.lload_n 0, 1) := by decide +kernel
theorem dJ13_bitCount_95d88_35 : decode cJ13_bitCount_95d88 35 = .ok (.lload_n 0, 1) := by decide +kernel
theorem dJ13_bitCount_95d88_36 : decode cJ13_bitCount_95d88 36 = .ok (.bipush 8, 2) := by decide +kernel
theorem dJ13_bitCount_95d88_38 : decode cJ13_bitCount_95d88 38 = .ok (.lushr, 1) := by decide +kernel
theorem dJ13_bitCount_95d88_39 : decode cJ13_bitCount_95d88 39 = .ok (.ladd, 1) := by decide +kernel
theorem dJ13_bitCount_95d88_40 : decode cJ13_bitCount_95d88 40 = .ok (.lstore_n 0, 1) := by decide +kernel
theorem dJ13_bitCount_95d88_41 : decode cJ13_bitCount_95d88 41 = .ok (.lload_n 0, 1) := by decide +kernel
theorem dJ13_bitCount_95d88_42 : decode cJ13_bitCount_95d88 42 = .ok (.lload_n 0, 1) := by decide +kernel
theorem dJ13_bitCount_95d88_43 : decode cJ13_bitCount_95d88 43 = .ok (.bipush 16, 2) := by decide +kernel
theorem dJ13_bitCount_95d88_45 : decode cJ13_bitCount_95d88 45 = .ok (.lushr, 1) := by decide +kernel
theorem dJ13_bitCount_95d88_46 : decode cJ13_bitCount_95d88 46 = .ok (.ladd, 1) := by decide +kernel
theorem dJ13_bitCount_95d88_47 : decode cJ13_bitCount_95d88 47 = .ok (.lstore_n 0, 1) := by decide +kernel
theorem dJ13_bitCount_95d88_48 : decode cJ13_bitCount_95d88 48 = .ok (.lload_n 0, 1) := by decide +kernel
theorem dJ13_bitCount_95d88_49 : decode cJ13_bitCount_95d88 49 = .ok (.lload_n 0, 1) := by decide +kernel
theorem dJ13_bitCount_95d88_50 : decode cJ13_bitCount_95d88 50 = .ok (.bipush 32, 2) := by decide +kernel
theorem dJ13_bitCount_95d88_52 : decode cJ13_bitCount_95d88 52 = .ok (.lushr, 1) := by decide +kernel
theorem dJ13_bitCount_95d88_53 : decode cJ13_bitCount_95d88 53 = .ok (.ladd, 1) := by decide +kernel
theorem dJ13_bitCount_95d88_54 : decode cJ13_bitCount_95d88 54 = .ok (.lstore_n 0, 1) := by decide +kernel
theorem dJ13_bitCount_95d88_55 : decode cJ13_bitCount_95d88 55 = .ok (.lload_n 0, 1) := by decide +kernel
theorem dJ13_bitCount_95d88_56 : decode cJ13_bitCount_95d88 56 = .ok (.l2i, 1) := by decide +kernel
theorem dJ13_bitCount_95d88_57 : decode cJ13_bitCount_95d88 57 = .ok (.bipush 127, 2) := by decide +kernel
theorem dJ13_bitCount_95d88_59 : decode cJ13_bitCount_95d88 59 = .ok (.iand, 1) := by decide +kernel
theorem dJ13_bitCount_95d88_60 : decode cJ13_bitCount_95d88 60 = .ok (.ireturn, 1) := by decide +kernel
theorem dJ9_max_7cf53_0 : decode cJ9_max_7cf53 0 = .ok (.iload_n 0, 1) := by decide +kernel
theorem dJ9_max_7cf53_1 : decode cJ9_max_7cf53 1 = .ok (.iload_n 1, 1) := by decide +kernel
theorem dJ9_max_7cf53_2 : decode cJ9_max_7cf53 2 = .ok (.if_icmp .lt 7, 3) := by decide +kernel
theorem dJ9_max_7cf53_5 : decode cJ9_max_7cf53 5 = .ok (.iload_n 0, 1) := by decide +kernel
theorem dJ9_max_7cf53_6 : decode cJ9_max_7cf53 6 = .ok (.goto 4, 3) := by decide +kernel
theorem dJ9_max_7cf53_9 : decode cJ9_max_7cf53 9 = .ok (.iload_n 1, 1) := by decide +kernel
theorem dJ9_max_7cf53_10 : decode cJ9_max_7cf53 10 = .ok (.ireturn, 1) := by decide +kernel
theorem dJ9_min_7cf53_0 : decode cJ9_min_7cf53 0 = .ok (.iload_n 0, 1) := by decide +kernel
theorem dJ9_min_7cf53_1 : decode cJ9_min_7cf53 1 = .ok (.iload_n 1, 1) := by decide +kernel
theorem dJ9_min_7cf53_2 : decode cJ9_min_7cf53 2 = .ok (.if_icmp .gt 7, 3) := by decide +kernel
theorem dJ9_min_7cf53_5 : decode cJ9_min_7cf53 5 = .ok (.iload_n 0, 1) := by decide +kernel
theorem dJ9_min_7cf53_6 : decode cJ9_min_7cf53 6 = .ok (.goto 4, 3) := by decide +kernel
theorem dJ9_min_7cf53_9 : decode cJ9_min_7cf53 9 = .ok (.iload_n 1, 1) := by decide +kernel
theorem dJ9_min_7cf53_10 : decode cJ9_min_7cf53 10 = .ok (.ireturn, 1) := by decide +kernel
theorem dJ7_fill_53178_0 : decode cJ7_fill_53178 0 = .ok (.iconst 0, 1) := by decide +kernel
theorem dJ7_fill_53178_1 : decode cJ7_fill_53178 1 = .ok (.istore_n 2, 1) := by decide +kernel
theorem dJ7_fill_53178_2 : decode cJ7_fill_53178 2 = .ok (.aload_n 0, 1) := by decide +kernel
theorem dJ7_fill_53178_3 : decode cJ7_fill_53178 3 = .ok (.arraylength, 1) := by decide +kernel
theorem dJ7_fill_53178_4 : decode cJ7_fill_53178 4 = .ok (.istore_n 3, 1) := by decide +kernel
theorem dJ7_fill_53178_5 : decode cJ7_fill_53178 5 = .ok (.iload_n 2, 1) := by decide +kernel
theorem dJ7_fill_53178_6 : decode cJ7_fill_53178 6 = .ok (.iload_n 3, 1) := by decide +kernel
theorem dJ7_fill_53178_7 : decode cJ7_fill_53178 7 = .ok (.if_icmp .ge 13, 3) := by decide +kernel
theorem dJ7_fill_53178_10 : decode cJ7_fill_53178 10 = .ok (.aload_n 0, 1) := by decide +kernel
theorem dJ7_fill_53178_11 : decode cJ7_fill_53178 11 = .ok (.iload_n 2, 1) := by decide +kernel
theorem dJ7_fill_53178_12 : decode cJ7_fill_53178 12 = .ok (.iload_n 1, 1) := by decide +kernel
theorem dJ7_fill_53178_13 : decode cJ7_fill_53178 13 = .ok (.iastore, 1) := by decide +kernel
theorem dJ7_fill_53178_14 : decode cJ7_fill_53178 14 = .ok (.iinc 2 1, 3) := by decide +kernel
theorem dJ7_fill_53178_17 : decode cJ7_fill_53178 17 = .ok (.goto (-12), 3) := by decide +kernel
theorem dJ7_fill_53178_20 : decode cJ7_fill_53178 20 = .ok (.return_, 1) := by decide +kernel
abbrev vwCl : List vw_C := [(RX0, TX0, 3), (RX1, TX1, 5), (RX2, TX2, 6), (RX3, TX3, 4), (RX4, TX4, 9), (RX5, TX5, 2), (RX6, TX6, 13), (RX7, TX7, 4), (RX8, TX8, 4), (RX9, TX9, 2), (RX10, TX10, 11), (RX11, TX11, 8)]
