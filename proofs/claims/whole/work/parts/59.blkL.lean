set_option maxRecDepth 100000 in
theorem f_205_0 : xfind (xnth xTs 205) 0 = some (0, .new 7, 3, (8, 11, 0, 0), .null, [], 68, 0, []) := rfl
set_option maxRecDepth 100000 in
theorem f_205_7 : xfind (xnth xTs 205) 7 = some (7, .astore_n 1, 1, (0, 0, 0, 0), .null, [], 0, 0, []) := rfl
set_option maxRecDepth 100000 in
theorem f_205_8 : xfind (xnth xTs 205) 8 = some (8, .new 10, 3, (9, 26, 0, 0), .null, [], 886, 0, []) := rfl
set_option maxRecDepth 100000 in
theorem f_205_15 : xfind (xnth xTs 205) 15 = some (15, .astore_n 2, 1, (0, 0, 0, 0), .null, [], 0, 0, []) := rfl
set_option maxRecDepth 100000 in
theorem f_205_16 : xfind (xnth xTs 205) 16 = some (16, .iconst 0, 1, (0, 0, 0, 0), (.int 0), [], 0, 0, []) := rfl
set_option maxRecDepth 100000 in
theorem f_205_17 : xfind (xnth xTs 205) 17 = some (17, .istore_n 3, 1, (0, 0, 0, 0), .null, [], 0, 0, []) := rfl
set_option maxRecDepth 100000 in
theorem f_205_18 : xfind (xnth xTs 205) 18 = some (18, .iload_n 3, 1, (0, 0, 0, 0), .null, [], 0, 1, []) := rfl
set_option maxRecDepth 100000 in
theorem f_205_19 : xfind (xnth xTs 205) 19 = some (19, .aload_n 0, 1, (0, 0, 0, 0), .null, [], 0, 0, []) := rfl
set_option maxRecDepth 100000 in
theorem f_205_20 : xfind (xnth xTs 205) 20 = some (20, .arraylength, 1, (0, 0, 0, 0), .null, [], 0, 0, []) := rfl
set_option maxRecDepth 100000 in
theorem f_205_21 : xfind (xnth xTs 205) 21 = some (21, .iconst 4, 1, (0, 0, 0, 0), (.int 4), [], 0, 0, []) := rfl
set_option maxRecDepth 100000 in
theorem f_205_22 : xfind (xnth xTs 205) 22 = some (22, .isub, 1, (0, 0, 0, 0), .null, [], 0, 0, []) := rfl
set_option maxRecDepth 100000 in
theorem f_205_23 : xfind (xnth xTs 205) 23 = some (23, .if_icmp .gt 894, 3, (0, 0, 0, 0), .null, [], 0, 0, []) := rfl
set_option maxRecDepth 100000 in
theorem f_205_26 : xfind (xnth xTs 205) 26 = some (26, .aload_n 0, 1, (0, 0, 0, 0), .null, [], 0, 0, []) := rfl
set_option maxRecDepth 100000 in
theorem f_205_27 : xfind (xnth xTs 205) 27 = some (27, .iload_n 3, 1, (0, 0, 0, 0), .null, [], 0, 0, []) := rfl
set_option maxRecDepth 100000 in
theorem f_205_28 : xfind (xnth xTs 205) 28 = some (28, .iaload, 1, (0, 0, 0, 0), .null, [], 0, 0, []) := rfl
set_option maxRecDepth 100000 in
theorem f_205_29 : xfind (xnth xTs 205) 29 = some (29, .bipush 31, 2, (0, 0, 0, 0), (.int 31), [], 0, 0, []) := rfl
set_option maxRecDepth 100000 in
theorem f_205_31 : xfind (xnth xTs 205) 31 = some (31, .iand, 1, (0, 0, 0, 0), .null, [], 0, 0, []) := rfl
set_option maxRecDepth 100000 in
theorem f_205_32 : xfind (xnth xTs 205) 32 = some (32, .tableswitch 879 0 30 #[140, 163, 176, 189, 212, 245, 278, 311, 334, 357, 390, 433, 456, 469, 492, 505, 548, 561, 574, 597, 630, 643, 676, 725, 738, 751, 784, 797, 810, 833, 856], 140, (0, 0, 0, 911), .null, [(0, 172), (1, 195), (2, 208), (3, 221), (4, 244), (5, 277), (6, 310), (7, 343), (8, 366), (9, 389), (10, 422), (11, 465), (12, 488), (13, 501), (14, 524), (15, 537), (16, 580), (17, 593), (18, 606), (19, 629), (20, 662), (21, 675), (22, 708), (23, 757), (24, 770), (25, 783), (26, 816), (27, 829), (28, 842), (29, 865), (30, 888)], 0, 0, []) := rfl
set_option maxRecDepth 100000 in
theorem f_205_172 : xfind (xnth xTs 205) 172 = some (172, .aload_n 1, 1, (0, 0, 0, 0), .null, [], 0, 0, []) := rfl
set_option maxRecDepth 100000 in
theorem f_205_173 : xfind (xnth xTs 205) 173 = some (173, .aload_n 0, 1, (0, 0, 0, 0), .null, [], 0, 0, []) := rfl
set_option maxRecDepth 100000 in
theorem f_205_174 : xfind (xnth xTs 205) 174 = some (174, .iload_n 3, 1, (0, 0, 0, 0), .null, [], 0, 0, []) := rfl
set_option maxRecDepth 100000 in
theorem f_205_175 : xfind (xnth xTs 205) 175 = some (175, .iconst 1, 1, (0, 0, 0, 0), (.int 1), [], 0, 0, []) := rfl
set_option maxRecDepth 100000 in
theorem f_205_176 : xfind (xnth xTs 205) 176 = some (176, .iadd, 1, (0, 0, 0, 0), .null, [], 0, 0, []) := rfl
set_option maxRecDepth 100000 in
theorem f_205_177 : xfind (xnth xTs 205) 177 = some (177, .iaload, 1, (0, 0, 0, 0), .null, [], 0, 0, []) := rfl
set_option maxRecDepth 100000 in
theorem f_205_178 : xfind (xnth xTs 205) 178 = some (178, .invokevirtual 13, 3, (90, 1, 8, 2), .null, [], 325, 0, []) := rfl
set_option maxRecDepth 100000 in
theorem f_205_181 : xfind (xnth xTs 205) 181 = some (181, .aload_n 2, 1, (0, 0, 0, 0), .null, [], 0, 0, []) := rfl
set_option maxRecDepth 100000 in
theorem f_205_182 : xfind (xnth xTs 205) 182 = some (182, .aload_n 0, 1, (0, 0, 0, 0), .null, [], 0, 0, []) := rfl
set_option maxRecDepth 100000 in
theorem f_205_183 : xfind (xnth xTs 205) 183 = some (183, .iload_n 3, 1, (0, 0, 0, 0), .null, [], 0, 0, []) := rfl
set_option maxRecDepth 100000 in
theorem f_205_184 : xfind (xnth xTs 205) 184 = some (184, .iconst 1, 1, (0, 0, 0, 0), (.int 1), [], 0, 0, []) := rfl
set_option maxRecDepth 100000 in
theorem f_205_185 : xfind (xnth xTs 205) 185 = some (185, .iadd, 1, (0, 0, 0, 0), .null, [], 0, 0, []) := rfl
set_option maxRecDepth 100000 in
theorem f_205_186 : xfind (xnth xTs 205) 186 = some (186, .iaload, 1, (0, 0, 0, 0), .null, [], 0, 0, []) := rfl
set_option maxRecDepth 100000 in
theorem f_205_187 : xfind (xnth xTs 205) 187 = some (187, .invokevirtual 17, 3, (138, 1, 9, 2), .null, [], 989, 0, []) := rfl
set_option maxRecDepth 100000 in
theorem f_205_190 : xfind (xnth xTs 205) 190 = some (190, .if_icmp .eq 721, 3, (0, 0, 0, 0), .null, [], 0, 0, []) := rfl
set_option maxRecDepth 100000 in
theorem f_205_193 : xfind (xnth xTs 205) 193 = some (193, .iconst 0, 1, (0, 0, 0, 0), (.int 0), [], 0, 0, []) := rfl
set_option maxRecDepth 100000 in
theorem f_205_194 : xfind (xnth xTs 205) 194 = some (194, .ireturn, 1, (1, 0, 0, 0), .null, [], 0, 0, []) := rfl
set_option maxRecDepth 100000 in
theorem f_205_195 : xfind (xnth xTs 205) 195 = some (195, .aload_n 1, 1, (0, 0, 0, 0), .null, [], 0, 0, []) := rfl
set_option maxRecDepth 100000 in
theorem f_205_196 : xfind (xnth xTs 205) 196 = some (196, .invokevirtual 18, 3, (91, 0, 8, 2), .null, [], 336, 0, []) := rfl
set_option maxRecDepth 100000 in
theorem f_205_199 : xfind (xnth xTs 205) 199 = some (199, .aload_n 2, 1, (0, 0, 0, 0), .null, [], 0, 0, []) := rfl
set_option maxRecDepth 100000 in
theorem f_205_200 : xfind (xnth xTs 205) 200 = some (200, .invokevirtual 22, 3, (149, 0, 9, 2), .null, [], 996, 0, []) := rfl
set_option maxRecDepth 100000 in
theorem f_205_203 : xfind (xnth xTs 205) 203 = some (203, .if_icmp .eq 708, 3, (0, 0, 0, 0), .null, [], 0, 0, []) := rfl
set_option maxRecDepth 100000 in
theorem f_205_206 : xfind (xnth xTs 205) 206 = some (206, .iconst 0, 1, (0, 0, 0, 0), (.int 0), [], 0, 0, []) := rfl
set_option maxRecDepth 100000 in
theorem f_205_207 : xfind (xnth xTs 205) 207 = some (207, .ireturn, 1, (1, 0, 0, 0), .null, [], 0, 0, []) := rfl
set_option maxRecDepth 100000 in
theorem f_205_208 : xfind (xnth xTs 205) 208 = some (208, .aload_n 1, 1, (0, 0, 0, 0), .null, [], 0, 0, []) := rfl
set_option maxRecDepth 100000 in
theorem f_205_209 : xfind (xnth xTs 205) 209 = some (209, .invokevirtual 23, 3, (92, 0, 8, 1), .null, [], 473, 0, []) := rfl
set_option maxRecDepth 100000 in
theorem f_205_212 : xfind (xnth xTs 205) 212 = some (212, .aload_n 2, 1, (0, 0, 0, 0), .null, [], 0, 0, []) := rfl
set_option maxRecDepth 100000 in
theorem f_205_213 : xfind (xnth xTs 205) 213 = some (213, .invokevirtual 26, 3, (150, 0, 9, 1), .null, [], 1045, 0, []) := rfl
set_option maxRecDepth 100000 in
theorem f_205_216 : xfind (xnth xTs 205) 216 = some (216, .if_icmp .eq 695, 3, (0, 0, 0, 0), .null, [], 0, 0, []) := rfl
set_option maxRecDepth 100000 in
theorem f_205_219 : xfind (xnth xTs 205) 219 = some (219, .iconst 0, 1, (0, 0, 0, 0), (.int 0), [], 0, 0, []) := rfl
set_option maxRecDepth 100000 in
theorem f_205_220 : xfind (xnth xTs 205) 220 = some (220, .ireturn, 1, (1, 0, 0, 0), .null, [], 0, 0, []) := rfl
set_option maxRecDepth 100000 in
theorem f_205_221 : xfind (xnth xTs 205) 221 = some (221, .aload_n 1, 1, (0, 0, 0, 0), .null, [], 0, 0, []) := rfl
set_option maxRecDepth 100000 in
theorem f_205_222 : xfind (xnth xTs 205) 222 = some (222, .aload_n 0, 1, (0, 0, 0, 0), .null, [], 0, 0, []) := rfl
set_option maxRecDepth 100000 in
theorem f_205_223 : xfind (xnth xTs 205) 223 = some (223, .iload_n 3, 1, (0, 0, 0, 0), .null, [], 0, 0, []) := rfl
set_option maxRecDepth 100000 in
theorem f_205_224 : xfind (xnth xTs 205) 224 = some (224, .iconst 1, 1, (0, 0, 0, 0), (.int 1), [], 0, 0, []) := rfl
set_option maxRecDepth 100000 in
theorem f_205_225 : xfind (xnth xTs 205) 225 = some (225, .iadd, 1, (0, 0, 0, 0), .null, [], 0, 0, []) := rfl
set_option maxRecDepth 100000 in
theorem f_205_226 : xfind (xnth xTs 205) 226 = some (226, .iaload, 1, (0, 0, 0, 0), .null, [], 0, 0, []) := rfl
set_option maxRecDepth 100000 in
theorem f_205_227 : xfind (xnth xTs 205) 227 = some (227, .invokevirtual 27, 3, (93, 1, 8, 2), .null, [], 477, 0, []) := rfl
set_option maxRecDepth 100000 in
theorem f_205_230 : xfind (xnth xTs 205) 230 = some (230, .aload_n 2, 1, (0, 0, 0, 0), .null, [], 0, 0, []) := rfl
set_option maxRecDepth 100000 in
theorem f_205_231 : xfind (xnth xTs 205) 231 = some (231, .aload_n 0, 1, (0, 0, 0, 0), .null, [], 0, 0, []) := rfl
set_option maxRecDepth 100000 in
theorem f_205_232 : xfind (xnth xTs 205) 232 = some (232, .iload_n 3, 1, (0, 0, 0, 0), .null, [], 0, 0, []) := rfl
set_option maxRecDepth 100000 in
theorem f_205_233 : xfind (xnth xTs 205) 233 = some (233, .iconst 1, 1, (0, 0, 0, 0), (.int 1), [], 0, 0, []) := rfl
set_option maxRecDepth 100000 in
theorem f_205_234 : xfind (xnth xTs 205) 234 = some (234, .iadd, 1, (0, 0, 0, 0), .null, [], 0, 0, []) := rfl
set_option maxRecDepth 100000 in
theorem f_205_235 : xfind (xnth xTs 205) 235 = some (235, .iaload, 1, (0, 0, 0, 0), .null, [], 0, 0, []) := rfl
set_option maxRecDepth 100000 in
theorem f_205_236 : xfind (xnth xTs 205) 236 = some (236, .invokevirtual 30, 3, (164, 1, 9, 2), .null, [], 1049, 0, []) := rfl
set_option maxRecDepth 100000 in
theorem f_205_239 : xfind (xnth xTs 205) 239 = some (239, .if_icmp .eq 672, 3, (0, 0, 0, 0), .null, [], 0, 0, []) := rfl
set_option maxRecDepth 100000 in
theorem f_205_242 : xfind (xnth xTs 205) 242 = some (242, .iconst 0, 1, (0, 0, 0, 0), (.int 0), [], 0, 0, []) := rfl
set_option maxRecDepth 100000 in
theorem f_205_243 : xfind (xnth xTs 205) 243 = some (243, .ireturn, 1, (1, 0, 0, 0), .null, [], 0, 0, []) := rfl
set_option maxRecDepth 100000 in
theorem f_205_244 : xfind (xnth xTs 205) 244 = some (244, .aload_n 1, 1, (0, 0, 0, 0), .null, [], 0, 0, []) := rfl
set_option maxRecDepth 100000 in
theorem f_205_245 : xfind (xnth xTs 205) 245 = some (245, .aload_n 0, 1, (0, 0, 0, 0), .null, [], 0, 0, []) := rfl
set_option maxRecDepth 100000 in
theorem f_205_246 : xfind (xnth xTs 205) 246 = some (246, .iload_n 3, 1, (0, 0, 0, 0), .null, [], 0, 0, []) := rfl
set_option maxRecDepth 100000 in
theorem f_205_247 : xfind (xnth xTs 205) 247 = some (247, .iconst 1, 1, (0, 0, 0, 0), (.int 1), [], 0, 0, []) := rfl
set_option maxRecDepth 100000 in
theorem f_205_248 : xfind (xnth xTs 205) 248 = some (248, .iadd, 1, (0, 0, 0, 0), .null, [], 0, 0, []) := rfl
set_option maxRecDepth 100000 in
theorem f_205_249 : xfind (xnth xTs 205) 249 = some (249, .iaload, 1, (0, 0, 0, 0), .null, [], 0, 0, []) := rfl
set_option maxRecDepth 100000 in
theorem f_205_250 : xfind (xnth xTs 205) 250 = some (250, .aload_n 0, 1, (0, 0, 0, 0), .null, [], 0, 0, []) := rfl
set_option maxRecDepth 100000 in
theorem f_205_251 : xfind (xnth xTs 205) 251 = some (251, .iload_n 3, 1, (0, 0, 0, 0), .null, [], 0, 0, []) := rfl
set_option maxRecDepth 100000 in
theorem f_205_252 : xfind (xnth xTs 205) 252 = some (252, .iconst 2, 1, (0, 0, 0, 0), (.int 2), [], 0, 0, []) := rfl
set_option maxRecDepth 100000 in
theorem f_205_253 : xfind (xnth xTs 205) 253 = some (253, .iadd, 1, (0, 0, 0, 0), .null, [], 0, 0, []) := rfl
set_option maxRecDepth 100000 in
theorem f_205_254 : xfind (xnth xTs 205) 254 = some (254, .iaload, 1, (0, 0, 0, 0), .null, [], 0, 0, []) := rfl
set_option maxRecDepth 100000 in
theorem f_205_255 : xfind (xnth xTs 205) 255 = some (255, .invokevirtual 31, 3, (94, 2, 8, 3), .null, [], 546, 0, []) := rfl
set_option maxRecDepth 100000 in
theorem f_205_258 : xfind (xnth xTs 205) 258 = some (258, .aload_n 2, 1, (0, 0, 0, 0), .null, [], 0, 0, []) := rfl
set_option maxRecDepth 100000 in
theorem f_205_259 : xfind (xnth xTs 205) 259 = some (259, .aload_n 0, 1, (0, 0, 0, 0), .null, [], 0, 0, []) := rfl
set_option maxRecDepth 100000 in
theorem f_205_260 : xfind (xnth xTs 205) 260 = some (260, .iload_n 3, 1, (0, 0, 0, 0), .null, [], 0, 0, []) := rfl
set_option maxRecDepth 100000 in
theorem f_205_261 : xfind (xnth xTs 205) 261 = some (261, .iconst 1, 1, (0, 0, 0, 0), (.int 1), [], 0, 0, []) := rfl
set_option maxRecDepth 100000 in
theorem f_205_262 : xfind (xnth xTs 205) 262 = some (262, .iadd, 1, (0, 0, 0, 0), .null, [], 0, 0, []) := rfl
set_option maxRecDepth 100000 in
theorem f_205_263 : xfind (xnth xTs 205) 263 = some (263, .iaload, 1, (0, 0, 0, 0), .null, [], 0, 0, []) := rfl
set_option maxRecDepth 100000 in
theorem f_205_264 : xfind (xnth xTs 205) 264 = some (264, .aload_n 0, 1, (0, 0, 0, 0), .null, [], 0, 0, []) := rfl
set_option maxRecDepth 100000 in
theorem f_205_265 : xfind (xnth xTs 205) 265 = some (265, .iload_n 3, 1, (0, 0, 0, 0), .null, [], 0, 0, []) := rfl
set_option maxRecDepth 100000 in
theorem f_205_266 : xfind (xnth xTs 205) 266 = some (266, .iconst 2, 1, (0, 0, 0, 0), (.int 2), [], 0, 0, []) := rfl
set_option maxRecDepth 100000 in
theorem f_205_267 : xfind (xnth xTs 205) 267 = some (267, .iadd, 1, (0, 0, 0, 0), .null, [], 0, 0, []) := rfl
set_option maxRecDepth 100000 in
theorem f_205_268 : xfind (xnth xTs 205) 268 = some (268, .iaload, 1, (0, 0, 0, 0), .null, [], 0, 0, []) := rfl
set_option maxRecDepth 100000 in
theorem f_205_269 : xfind (xnth xTs 205) 269 = some (269, .invokevirtual 35, 3, (165, 2, 9, 3), .null, [], 1084, 0, []) := rfl
set_option maxRecDepth 100000 in
theorem f_205_272 : xfind (xnth xTs 205) 272 = some (272, .if_icmp .eq 639, 3, (0, 0, 0, 0), .null, [], 0, 0, []) := rfl
set_option maxRecDepth 100000 in
theorem f_205_275 : xfind (xnth xTs 205) 275 = some (275, .iconst 0, 1, (0, 0, 0, 0), (.int 0), [], 0, 0, []) := rfl
set_option maxRecDepth 100000 in
theorem f_205_276 : xfind (xnth xTs 205) 276 = some (276, .ireturn, 1, (1, 0, 0, 0), .null, [], 0, 0, []) := rfl
set_option maxRecDepth 100000 in
theorem f_205_277 : xfind (xnth xTs 205) 277 = some (277, .aload_n 1, 1, (0, 0, 0, 0), .null, [], 0, 0, []) := rfl
set_option maxRecDepth 100000 in
theorem f_205_278 : xfind (xnth xTs 205) 278 = some (278, .aload_n 0, 1, (0, 0, 0, 0), .null, [], 0, 0, []) := rfl
set_option maxRecDepth 100000 in
theorem f_205_279 : xfind (xnth xTs 205) 279 = some (279, .iload_n 3, 1, (0, 0, 0, 0), .null, [], 0, 0, []) := rfl
set_option maxRecDepth 100000 in
theorem f_205_280 : xfind (xnth xTs 205) 280 = some (280, .iconst 1, 1, (0, 0, 0, 0), (.int 1), [], 0, 0, []) := rfl
set_option maxRecDepth 100000 in
theorem f_205_281 : xfind (xnth xTs 205) 281 = some (281, .iadd, 1, (0, 0, 0, 0), .null, [], 0, 0, []) := rfl
set_option maxRecDepth 100000 in
theorem f_205_282 : xfind (xnth xTs 205) 282 = some (282, .iaload, 1, (0, 0, 0, 0), .null, [], 0, 0, []) := rfl
set_option maxRecDepth 100000 in
theorem f_205_283 : xfind (xnth xTs 205) 283 = some (283, .aload_n 0, 1, (0, 0, 0, 0), .null, [], 0, 0, []) := rfl
set_option maxRecDepth 100000 in
theorem f_205_284 : xfind (xnth xTs 205) 284 = some (284, .iload_n 3, 1, (0, 0, 0, 0), .null, [], 0, 0, []) := rfl
set_option maxRecDepth 100000 in
theorem f_205_285 : xfind (xnth xTs 205) 285 = some (285, .iconst 2, 1, (0, 0, 0, 0), (.int 2), [], 0, 0, []) := rfl
set_option maxRecDepth 100000 in
theorem f_205_286 : xfind (xnth xTs 205) 286 = some (286, .iadd, 1, (0, 0, 0, 0), .null, [], 0, 0, []) := rfl
set_option maxRecDepth 100000 in
theorem f_205_287 : xfind (xnth xTs 205) 287 = some (287, .iaload, 1, (0, 0, 0, 0), .null, [], 0, 0, []) := rfl
set_option maxRecDepth 100000 in
theorem f_205_288 : xfind (xnth xTs 205) 288 = some (288, .invokevirtual 36, 3, (95, 2, 8, 3), .null, [], 576, 0, []) := rfl
set_option maxRecDepth 100000 in
theorem f_205_291 : xfind (xnth xTs 205) 291 = some (291, .aload_n 2, 1, (0, 0, 0, 0), .null, [], 0, 0, []) := rfl
set_option maxRecDepth 100000 in
theorem f_205_292 : xfind (xnth xTs 205) 292 = some (292, .aload_n 0, 1, (0, 0, 0, 0), .null, [], 0, 0, []) := rfl
set_option maxRecDepth 100000 in
theorem f_205_293 : xfind (xnth xTs 205) 293 = some (293, .iload_n 3, 1, (0, 0, 0, 0), .null, [], 0, 0, []) := rfl
set_option maxRecDepth 100000 in
theorem f_205_294 : xfind (xnth xTs 205) 294 = some (294, .iconst 1, 1, (0, 0, 0, 0), (.int 1), [], 0, 0, []) := rfl
set_option maxRecDepth 100000 in
theorem f_205_295 : xfind (xnth xTs 205) 295 = some (295, .iadd, 1, (0, 0, 0, 0), .null, [], 0, 0, []) := rfl
set_option maxRecDepth 100000 in
theorem f_205_296 : xfind (xnth xTs 205) 296 = some (296, .iaload, 1, (0, 0, 0, 0), .null, [], 0, 0, []) := rfl
set_option maxRecDepth 100000 in
theorem f_205_297 : xfind (xnth xTs 205) 297 = some (297, .aload_n 0, 1, (0, 0, 0, 0), .null, [], 0, 0, []) := rfl
set_option maxRecDepth 100000 in
theorem f_205_298 : xfind (xnth xTs 205) 298 = some (298, .iload_n 3, 1, (0, 0, 0, 0), .null, [], 0, 0, []) := rfl
set_option maxRecDepth 100000 in
theorem f_205_299 : xfind (xnth xTs 205) 299 = some (299, .iconst 2, 1, (0, 0, 0, 0), (.int 2), [], 0, 0, []) := rfl
set_option maxRecDepth 100000 in
theorem f_205_300 : xfind (xnth xTs 205) 300 = some (300, .iadd, 1, (0, 0, 0, 0), .null, [], 0, 0, []) := rfl
set_option maxRecDepth 100000 in
theorem f_205_301 : xfind (xnth xTs 205) 301 = some (301, .iaload, 1, (0, 0, 0, 0), .null, [], 0, 0, []) := rfl
set_option maxRecDepth 100000 in
theorem f_205_302 : xfind (xnth xTs 205) 302 = some (302, .invokevirtual 39, 3, (166, 2, 9, 3), .null, [], 1093, 0, []) := rfl
set_option maxRecDepth 100000 in
theorem f_205_305 : xfind (xnth xTs 205) 305 = some (305, .if_icmp .eq 606, 3, (0, 0, 0, 0), .null, [], 0, 0, []) := rfl
set_option maxRecDepth 100000 in
theorem f_205_308 : xfind (xnth xTs 205) 308 = some (308, .iconst 0, 1, (0, 0, 0, 0), (.int 0), [], 0, 0, []) := rfl
set_option maxRecDepth 100000 in
theorem f_205_309 : xfind (xnth xTs 205) 309 = some (309, .ireturn, 1, (1, 0, 0, 0), .null, [], 0, 0, []) := rfl
set_option maxRecDepth 100000 in
theorem f_205_310 : xfind (xnth xTs 205) 310 = some (310, .aload_n 1, 1, (0, 0, 0, 0), .null, [], 0, 0, []) := rfl
set_option maxRecDepth 100000 in
theorem f_205_311 : xfind (xnth xTs 205) 311 = some (311, .aload_n 0, 1, (0, 0, 0, 0), .null, [], 0, 0, []) := rfl
set_option maxRecDepth 100000 in
theorem f_205_312 : xfind (xnth xTs 205) 312 = some (312, .iload_n 3, 1, (0, 0, 0, 0), .null, [], 0, 0, []) := rfl
set_option maxRecDepth 100000 in
theorem f_205_313 : xfind (xnth xTs 205) 313 = some (313, .iconst 1, 1, (0, 0, 0, 0), (.int 1), [], 0, 0, []) := rfl
set_option maxRecDepth 100000 in
theorem f_205_314 : xfind (xnth xTs 205) 314 = some (314, .iadd, 1, (0, 0, 0, 0), .null, [], 0, 0, []) := rfl
set_option maxRecDepth 100000 in
theorem f_205_315 : xfind (xnth xTs 205) 315 = some (315, .iaload, 1, (0, 0, 0, 0), .null, [], 0, 0, []) := rfl
set_option maxRecDepth 100000 in
theorem f_205_316 : xfind (xnth xTs 205) 316 = some (316, .aload_n 0, 1, (0, 0, 0, 0), .null, [], 0, 0, []) := rfl
set_option maxRecDepth 100000 in
theorem f_205_317 : xfind (xnth xTs 205) 317 = some (317, .iload_n 3, 1, (0, 0, 0, 0), .null, [], 0, 0, []) := rfl
set_option maxRecDepth 100000 in
theorem f_205_318 : xfind (xnth xTs 205) 318 = some (318, .iconst 2, 1, (0, 0, 0, 0), (.int 2), [], 0, 0, []) := rfl
set_option maxRecDepth 100000 in
theorem f_205_319 : xfind (xnth xTs 205) 319 = some (319, .iadd, 1, (0, 0, 0, 0), .null, [], 0, 0, []) := rfl
set_option maxRecDepth 100000 in
theorem f_205_320 : xfind (xnth xTs 205) 320 = some (320, .iaload, 1, (0, 0, 0, 0), .null, [], 0, 0, []) := rfl
set_option maxRecDepth 100000 in
theorem f_205_321 : xfind (xnth xTs 205) 321 = some (321, .invokevirtual 40, 3, (96, 2, 8, 3), .null, [], 586, 0, []) := rfl
set_option maxRecDepth 100000 in
theorem f_205_324 : xfind (xnth xTs 205) 324 = some (324, .aload_n 2, 1, (0, 0, 0, 0), .null, [], 0, 0, []) := rfl
set_option maxRecDepth 100000 in
theorem f_205_325 : xfind (xnth xTs 205) 325 = some (325, .aload_n 0, 1, (0, 0, 0, 0), .null, [], 0, 0, []) := rfl
set_option maxRecDepth 100000 in
theorem f_205_326 : xfind (xnth xTs 205) 326 = some (326, .iload_n 3, 1, (0, 0, 0, 0), .null, [], 0, 0, []) := rfl
set_option maxRecDepth 100000 in
theorem f_205_327 : xfind (xnth xTs 205) 327 = some (327, .iconst 1, 1, (0, 0, 0, 0), (.int 1), [], 0, 0, []) := rfl
set_option maxRecDepth 100000 in
theorem f_205_328 : xfind (xnth xTs 205) 328 = some (328, .iadd, 1, (0, 0, 0, 0), .null, [], 0, 0, []) := rfl
set_option maxRecDepth 100000 in
theorem f_205_329 : xfind (xnth xTs 205) 329 = some (329, .iaload, 1, (0, 0, 0, 0), .null, [], 0, 0, []) := rfl
set_option maxRecDepth 100000 in
theorem f_205_330 : xfind (xnth xTs 205) 330 = some (330, .aload_n 0, 1, (0, 0, 0, 0), .null, [], 0, 0, []) := rfl
set_option maxRecDepth 100000 in
theorem f_205_331 : xfind (xnth xTs 205) 331 = some (331, .iload_n 3, 1, (0, 0, 0, 0), .null, [], 0, 0, []) := rfl
set_option maxRecDepth 100000 in
theorem f_205_332 : xfind (xnth xTs 205) 332 = some (332, .iconst 2, 1, (0, 0, 0, 0), (.int 2), [], 0, 0, []) := rfl
set_option maxRecDepth 100000 in
theorem f_205_333 : xfind (xnth xTs 205) 333 = some (333, .iadd, 1, (0, 0, 0, 0), .null, [], 0, 0, []) := rfl
set_option maxRecDepth 100000 in
theorem f_205_334 : xfind (xnth xTs 205) 334 = some (334, .iaload, 1, (0, 0, 0, 0), .null, [], 0, 0, []) := rfl
set_option maxRecDepth 100000 in
theorem f_205_335 : xfind (xnth xTs 205) 335 = some (335, .invokevirtual 43, 3, (167, 2, 9, 3), .null, [], 1102, 0, []) := rfl
set_option maxRecDepth 100000 in
theorem f_205_338 : xfind (xnth xTs 205) 338 = some (338, .if_icmp .eq 573, 3, (0, 0, 0, 0), .null, [], 0, 0, []) := rfl
set_option maxRecDepth 100000 in
theorem f_205_341 : xfind (xnth xTs 205) 341 = some (341, .iconst 0, 1, (0, 0, 0, 0), (.int 0), [], 0, 0, []) := rfl
set_option maxRecDepth 100000 in
theorem f_205_342 : xfind (xnth xTs 205) 342 = some (342, .ireturn, 1, (1, 0, 0, 0), .null, [], 0, 0, []) := rfl
set_option maxRecDepth 100000 in
theorem f_205_343 : xfind (xnth xTs 205) 343 = some (343, .aload_n 1, 1, (0, 0, 0, 0), .null, [], 0, 0, []) := rfl
set_option maxRecDepth 100000 in
theorem f_205_344 : xfind (xnth xTs 205) 344 = some (344, .aload_n 0, 1, (0, 0, 0, 0), .null, [], 0, 0, []) := rfl
set_option maxRecDepth 100000 in
theorem f_205_345 : xfind (xnth xTs 205) 345 = some (345, .iload_n 3, 1, (0, 0, 0, 0), .null, [], 0, 0, []) := rfl
set_option maxRecDepth 100000 in
theorem f_205_346 : xfind (xnth xTs 205) 346 = some (346, .iconst 1, 1, (0, 0, 0, 0), (.int 1), [], 0, 0, []) := rfl
set_option maxRecDepth 100000 in
theorem f_205_347 : xfind (xnth xTs 205) 347 = some (347, .iadd, 1, (0, 0, 0, 0), .null, [], 0, 0, []) := rfl
set_option maxRecDepth 100000 in
theorem f_205_348 : xfind (xnth xTs 205) 348 = some (348, .iaload, 1, (0, 0, 0, 0), .null, [], 0, 0, []) := rfl
set_option maxRecDepth 100000 in
theorem f_205_349 : xfind (xnth xTs 205) 349 = some (349, .invokevirtual 44, 3, (97, 1, 8, 5), .null, [], 605, 0, []) := rfl
set_option maxRecDepth 100000 in
theorem f_205_352 : xfind (xnth xTs 205) 352 = some (352, .aload_n 2, 1, (0, 0, 0, 0), .null, [], 0, 0, []) := rfl
set_option maxRecDepth 100000 in
theorem f_205_353 : xfind (xnth xTs 205) 353 = some (353, .aload_n 0, 1, (0, 0, 0, 0), .null, [], 0, 0, []) := rfl
set_option maxRecDepth 100000 in
theorem f_205_354 : xfind (xnth xTs 205) 354 = some (354, .iload_n 3, 1, (0, 0, 0, 0), .null, [], 0, 0, []) := rfl
set_option maxRecDepth 100000 in
theorem f_205_355 : xfind (xnth xTs 205) 355 = some (355, .iconst 1, 1, (0, 0, 0, 0), (.int 1), [], 0, 0, []) := rfl
set_option maxRecDepth 100000 in
theorem f_205_356 : xfind (xnth xTs 205) 356 = some (356, .iadd, 1, (0, 0, 0, 0), .null, [], 0, 0, []) := rfl
set_option maxRecDepth 100000 in
theorem f_205_357 : xfind (xnth xTs 205) 357 = some (357, .iaload, 1, (0, 0, 0, 0), .null, [], 0, 0, []) := rfl
set_option maxRecDepth 100000 in
theorem f_205_358 : xfind (xnth xTs 205) 358 = some (358, .invokevirtual 47, 3, (170, 1, 9, 5), .null, [], 1110, 0, []) := rfl
set_option maxRecDepth 100000 in
theorem f_205_361 : xfind (xnth xTs 205) 361 = some (361, .if_icmp .eq 550, 3, (0, 0, 0, 0), .null, [], 0, 0, []) := rfl
set_option maxRecDepth 100000 in
theorem f_205_364 : xfind (xnth xTs 205) 364 = some (364, .iconst 0, 1, (0, 0, 0, 0), (.int 0), [], 0, 0, []) := rfl
set_option maxRecDepth 100000 in
theorem f_205_365 : xfind (xnth xTs 205) 365 = some (365, .ireturn, 1, (1, 0, 0, 0), .null, [], 0, 0, []) := rfl
set_option maxRecDepth 100000 in
theorem f_205_366 : xfind (xnth xTs 205) 366 = some (366, .aload_n 1, 1, (0, 0, 0, 0), .null, [], 0, 0, []) := rfl
set_option maxRecDepth 100000 in
theorem f_205_367 : xfind (xnth xTs 205) 367 = some (367, .aload_n 0, 1, (0, 0, 0, 0), .null, [], 0, 0, []) := rfl
set_option maxRecDepth 100000 in
theorem f_205_368 : xfind (xnth xTs 205) 368 = some (368, .iload_n 3, 1, (0, 0, 0, 0), .null, [], 0, 0, []) := rfl
set_option maxRecDepth 100000 in
theorem f_205_369 : xfind (xnth xTs 205) 369 = some (369, .iconst 1, 1, (0, 0, 0, 0), (.int 1), [], 0, 0, []) := rfl
set_option maxRecDepth 100000 in
theorem f_205_370 : xfind (xnth xTs 205) 370 = some (370, .iadd, 1, (0, 0, 0, 0), .null, [], 0, 0, []) := rfl
set_option maxRecDepth 100000 in
theorem f_205_371 : xfind (xnth xTs 205) 371 = some (371, .iaload, 1, (0, 0, 0, 0), .null, [], 0, 0, []) := rfl
set_option maxRecDepth 100000 in
theorem f_205_372 : xfind (xnth xTs 205) 372 = some (372, .invokevirtual 48, 3, (98, 1, 8, 2), .null, [], 641, 0, []) := rfl
set_option maxRecDepth 100000 in
theorem f_205_375 : xfind (xnth xTs 205) 375 = some (375, .aload_n 2, 1, (0, 0, 0, 0), .null, [], 0, 0, []) := rfl
set_option maxRecDepth 100000 in
theorem f_205_376 : xfind (xnth xTs 205) 376 = some (376, .aload_n 0, 1, (0, 0, 0, 0), .null, [], 0, 0, []) := rfl
set_option maxRecDepth 100000 in
theorem f_205_377 : xfind (xnth xTs 205) 377 = some (377, .iload_n 3, 1, (0, 0, 0, 0), .null, [], 0, 0, []) := rfl
set_option maxRecDepth 100000 in
theorem f_205_378 : xfind (xnth xTs 205) 378 = some (378, .iconst 1, 1, (0, 0, 0, 0), (.int 1), [], 0, 0, []) := rfl
set_option maxRecDepth 100000 in
theorem f_205_379 : xfind (xnth xTs 205) 379 = some (379, .iadd, 1, (0, 0, 0, 0), .null, [], 0, 0, []) := rfl
set_option maxRecDepth 100000 in
theorem f_205_380 : xfind (xnth xTs 205) 380 = some (380, .iaload, 1, (0, 0, 0, 0), .null, [], 0, 0, []) := rfl
set_option maxRecDepth 100000 in
theorem f_205_381 : xfind (xnth xTs 205) 381 = some (381, .invokevirtual 51, 3, (171, 1, 9, 2), .null, [], 1132, 0, []) := rfl
set_option maxRecDepth 100000 in
theorem f_205_384 : xfind (xnth xTs 205) 384 = some (384, .if_icmp .eq 527, 3, (0, 0, 0, 0), .null, [], 0, 0, []) := rfl
set_option maxRecDepth 100000 in
theorem f_205_387 : xfind (xnth xTs 205) 387 = some (387, .iconst 0, 1, (0, 0, 0, 0), (.int 0), [], 0, 0, []) := rfl
set_option maxRecDepth 100000 in
theorem f_205_388 : xfind (xnth xTs 205) 388 = some (388, .ireturn, 1, (1, 0, 0, 0), .null, [], 0, 0, []) := rfl
set_option maxRecDepth 100000 in
theorem f_205_389 : xfind (xnth xTs 205) 389 = some (389, .aload_n 1, 1, (0, 0, 0, 0), .null, [], 0, 0, []) := rfl
set_option maxRecDepth 100000 in
theorem f_205_390 : xfind (xnth xTs 205) 390 = some (390, .aload_n 0, 1, (0, 0, 0, 0), .null, [], 0, 0, []) := rfl
set_option maxRecDepth 100000 in
theorem f_205_391 : xfind (xnth xTs 205) 391 = some (391, .iload_n 3, 1, (0, 0, 0, 0), .null, [], 0, 0, []) := rfl
set_option maxRecDepth 100000 in
theorem f_205_392 : xfind (xnth xTs 205) 392 = some (392, .iconst 1, 1, (0, 0, 0, 0), (.int 1), [], 0, 0, []) := rfl
set_option maxRecDepth 100000 in
theorem f_205_393 : xfind (xnth xTs 205) 393 = some (393, .iadd, 1, (0, 0, 0, 0), .null, [], 0, 0, []) := rfl
set_option maxRecDepth 100000 in
theorem f_205_394 : xfind (xnth xTs 205) 394 = some (394, .iaload, 1, (0, 0, 0, 0), .null, [], 0, 0, []) := rfl
set_option maxRecDepth 100000 in
theorem f_205_395 : xfind (xnth xTs 205) 395 = some (395, .aload_n 0, 1, (0, 0, 0, 0), .null, [], 0, 0, []) := rfl
set_option maxRecDepth 100000 in
theorem f_205_396 : xfind (xnth xTs 205) 396 = some (396, .iload_n 3, 1, (0, 0, 0, 0), .null, [], 0, 0, []) := rfl
set_option maxRecDepth 100000 in
theorem f_205_397 : xfind (xnth xTs 205) 397 = some (397, .iconst 2, 1, (0, 0, 0, 0), (.int 2), [], 0, 0, []) := rfl
set_option maxRecDepth 100000 in
theorem f_205_398 : xfind (xnth xTs 205) 398 = some (398, .iadd, 1, (0, 0, 0, 0), .null, [], 0, 0, []) := rfl
set_option maxRecDepth 100000 in
theorem f_205_399 : xfind (xnth xTs 205) 399 = some (399, .iaload, 1, (0, 0, 0, 0), .null, [], 0, 0, []) := rfl
set_option maxRecDepth 100000 in
theorem f_205_400 : xfind (xnth xTs 205) 400 = some (400, .invokevirtual 52, 3, (99, 2, 8, 4), .null, [], 652, 0, []) := rfl
set_option maxRecDepth 100000 in
theorem f_205_403 : xfind (xnth xTs 205) 403 = some (403, .aload_n 2, 1, (0, 0, 0, 0), .null, [], 0, 0, []) := rfl
set_option maxRecDepth 100000 in
theorem f_205_404 : xfind (xnth xTs 205) 404 = some (404, .aload_n 0, 1, (0, 0, 0, 0), .null, [], 0, 0, []) := rfl
set_option maxRecDepth 100000 in
theorem f_205_405 : xfind (xnth xTs 205) 405 = some (405, .iload_n 3, 1, (0, 0, 0, 0), .null, [], 0, 0, []) := rfl
set_option maxRecDepth 100000 in
theorem f_205_406 : xfind (xnth xTs 205) 406 = some (406, .iconst 1, 1, (0, 0, 0, 0), (.int 1), [], 0, 0, []) := rfl
set_option maxRecDepth 100000 in
theorem f_205_407 : xfind (xnth xTs 205) 407 = some (407, .iadd, 1, (0, 0, 0, 0), .null, [], 0, 0, []) := rfl
set_option maxRecDepth 100000 in
theorem f_205_408 : xfind (xnth xTs 205) 408 = some (408, .iaload, 1, (0, 0, 0, 0), .null, [], 0, 0, []) := rfl
set_option maxRecDepth 100000 in
theorem f_205_409 : xfind (xnth xTs 205) 409 = some (409, .aload_n 0, 1, (0, 0, 0, 0), .null, [], 0, 0, []) := rfl
set_option maxRecDepth 100000 in
theorem f_205_410 : xfind (xnth xTs 205) 410 = some (410, .iload_n 3, 1, (0, 0, 0, 0), .null, [], 0, 0, []) := rfl
set_option maxRecDepth 100000 in
theorem f_205_411 : xfind (xnth xTs 205) 411 = some (411, .iconst 2, 1, (0, 0, 0, 0), (.int 2), [], 0, 0, []) := rfl
set_option maxRecDepth 100000 in
theorem f_205_412 : xfind (xnth xTs 205) 412 = some (412, .iadd, 1, (0, 0, 0, 0), .null, [], 0, 0, []) := rfl
set_option maxRecDepth 100000 in
theorem f_205_413 : xfind (xnth xTs 205) 413 = some (413, .iaload, 1, (0, 0, 0, 0), .null, [], 0, 0, []) := rfl
set_option maxRecDepth 100000 in
theorem f_205_414 : xfind (xnth xTs 205) 414 = some (414, .invokevirtual 55, 3, (172, 2, 9, 4), .null, [], 1139, 0, []) := rfl
set_option maxRecDepth 100000 in
theorem f_205_417 : xfind (xnth xTs 205) 417 = some (417, .if_icmp .eq 494, 3, (0, 0, 0, 0), .null, [], 0, 0, []) := rfl
set_option maxRecDepth 100000 in
theorem f_205_420 : xfind (xnth xTs 205) 420 = some (420, .iconst 0, 1, (0, 0, 0, 0), (.int 0), [], 0, 0, []) := rfl
set_option maxRecDepth 100000 in
theorem f_205_421 : xfind (xnth xTs 205) 421 = some (421, .ireturn, 1, (1, 0, 0, 0), .null, [], 0, 0, []) := rfl
set_option maxRecDepth 100000 in
theorem f_205_422 : xfind (xnth xTs 205) 422 = some (422, .aload_n 1, 1, (0, 0, 0, 0), .null, [], 0, 0, []) := rfl
set_option maxRecDepth 100000 in
theorem f_205_423 : xfind (xnth xTs 205) 423 = some (423, .aload_n 0, 1, (0, 0, 0, 0), .null, [], 0, 0, []) := rfl
set_option maxRecDepth 100000 in
theorem f_205_424 : xfind (xnth xTs 205) 424 = some (424, .iload_n 3, 1, (0, 0, 0, 0), .null, [], 0, 0, []) := rfl
set_option maxRecDepth 100000 in
theorem f_205_425 : xfind (xnth xTs 205) 425 = some (425, .iconst 1, 1, (0, 0, 0, 0), (.int 1), [], 0, 0, []) := rfl
set_option maxRecDepth 100000 in
theorem f_205_426 : xfind (xnth xTs 205) 426 = some (426, .iadd, 1, (0, 0, 0, 0), .null, [], 0, 0, []) := rfl
set_option maxRecDepth 100000 in
theorem f_205_427 : xfind (xnth xTs 205) 427 = some (427, .iaload, 1, (0, 0, 0, 0), .null, [], 0, 0, []) := rfl
set_option maxRecDepth 100000 in
theorem f_205_428 : xfind (xnth xTs 205) 428 = some (428, .aload_n 0, 1, (0, 0, 0, 0), .null, [], 0, 0, []) := rfl
set_option maxRecDepth 100000 in
theorem f_205_429 : xfind (xnth xTs 205) 429 = some (429, .iload_n 3, 1, (0, 0, 0, 0), .null, [], 0, 0, []) := rfl
set_option maxRecDepth 100000 in
theorem f_205_430 : xfind (xnth xTs 205) 430 = some (430, .iconst 2, 1, (0, 0, 0, 0), (.int 2), [], 0, 0, []) := rfl
set_option maxRecDepth 100000 in
theorem f_205_431 : xfind (xnth xTs 205) 431 = some (431, .iadd, 1, (0, 0, 0, 0), .null, [], 0, 0, []) := rfl
set_option maxRecDepth 100000 in
theorem f_205_432 : xfind (xnth xTs 205) 432 = some (432, .iaload, 1, (0, 0, 0, 0), .null, [], 0, 0, []) := rfl
set_option maxRecDepth 100000 in
theorem f_205_433 : xfind (xnth xTs 205) 433 = some (433, .aload_n 0, 1, (0, 0, 0, 0), .null, [], 0, 0, []) := rfl
set_option maxRecDepth 100000 in
theorem f_205_434 : xfind (xnth xTs 205) 434 = some (434, .iload_n 3, 1, (0, 0, 0, 0), .null, [], 0, 0, []) := rfl
set_option maxRecDepth 100000 in
theorem f_205_435 : xfind (xnth xTs 205) 435 = some (435, .iconst 3, 1, (0, 0, 0, 0), (.int 3), [], 0, 0, []) := rfl
set_option maxRecDepth 100000 in
theorem f_205_436 : xfind (xnth xTs 205) 436 = some (436, .iadd, 1, (0, 0, 0, 0), .null, [], 0, 0, []) := rfl
set_option maxRecDepth 100000 in
theorem f_205_437 : xfind (xnth xTs 205) 437 = some (437, .iaload, 1, (0, 0, 0, 0), .null, [], 0, 0, []) := rfl
set_option maxRecDepth 100000 in
theorem f_205_438 : xfind (xnth xTs 205) 438 = some (438, .invokevirtual 56, 3, (100, 3, 8, 5), .null, [], 661, 0, []) := rfl
set_option maxRecDepth 100000 in
theorem f_205_441 : xfind (xnth xTs 205) 441 = some (441, .aload_n 2, 1, (0, 0, 0, 0), .null, [], 0, 0, []) := rfl
set_option maxRecDepth 100000 in
theorem f_205_442 : xfind (xnth xTs 205) 442 = some (442, .aload_n 0, 1, (0, 0, 0, 0), .null, [], 0, 0, []) := rfl
set_option maxRecDepth 100000 in
theorem f_205_443 : xfind (xnth xTs 205) 443 = some (443, .iload_n 3, 1, (0, 0, 0, 0), .null, [], 0, 0, []) := rfl
set_option maxRecDepth 100000 in
theorem f_205_444 : xfind (xnth xTs 205) 444 = some (444, .iconst 1, 1, (0, 0, 0, 0), (.int 1), [], 0, 0, []) := rfl
set_option maxRecDepth 100000 in
theorem f_205_445 : xfind (xnth xTs 205) 445 = some (445, .iadd, 1, (0, 0, 0, 0), .null, [], 0, 0, []) := rfl
set_option maxRecDepth 100000 in
theorem f_205_446 : xfind (xnth xTs 205) 446 = some (446, .iaload, 1, (0, 0, 0, 0), .null, [], 0, 0, []) := rfl
set_option maxRecDepth 100000 in
theorem f_205_447 : xfind (xnth xTs 205) 447 = some (447, .aload_n 0, 1, (0, 0, 0, 0), .null, [], 0, 0, []) := rfl
set_option maxRecDepth 100000 in
theorem f_205_448 : xfind (xnth xTs 205) 448 = some (448, .iload_n 3, 1, (0, 0, 0, 0), .null, [], 0, 0, []) := rfl
set_option maxRecDepth 100000 in
theorem f_205_449 : xfind (xnth xTs 205) 449 = some (449, .iconst 2, 1, (0, 0, 0, 0), (.int 2), [], 0, 0, []) := rfl
set_option maxRecDepth 100000 in
theorem f_205_450 : xfind (xnth xTs 205) 450 = some (450, .iadd, 1, (0, 0, 0, 0), .null, [], 0, 0, []) := rfl
set_option maxRecDepth 100000 in
theorem f_205_451 : xfind (xnth xTs 205) 451 = some (451, .iaload, 1, (0, 0, 0, 0), .null, [], 0, 0, []) := rfl
set_option maxRecDepth 100000 in
theorem f_205_452 : xfind (xnth xTs 205) 452 = some (452, .aload_n 0, 1, (0, 0, 0, 0), .null, [], 0, 0, []) := rfl
set_option maxRecDepth 100000 in
theorem f_205_453 : xfind (xnth xTs 205) 453 = some (453, .iload_n 3, 1, (0, 0, 0, 0), .null, [], 0, 0, []) := rfl
set_option maxRecDepth 100000 in
theorem f_205_454 : xfind (xnth xTs 205) 454 = some (454, .iconst 3, 1, (0, 0, 0, 0), (.int 3), [], 0, 0, []) := rfl
set_option maxRecDepth 100000 in
theorem f_205_455 : xfind (xnth xTs 205) 455 = some (455, .iadd, 1, (0, 0, 0, 0), .null, [], 0, 0, []) := rfl
set_option maxRecDepth 100000 in
theorem f_205_456 : xfind (xnth xTs 205) 456 = some (456, .iaload, 1, (0, 0, 0, 0), .null, [], 0, 0, []) := rfl
set_option maxRecDepth 100000 in
theorem f_205_457 : xfind (xnth xTs 205) 457 = some (457, .invokevirtual 60, 3, (173, 3, 9, 5), .null, [], 1143, 0, []) := rfl
set_option maxRecDepth 100000 in
theorem f_205_460 : xfind (xnth xTs 205) 460 = some (460, .if_icmp .eq 451, 3, (0, 0, 0, 0), .null, [], 0, 0, []) := rfl
set_option maxRecDepth 100000 in
theorem f_205_463 : xfind (xnth xTs 205) 463 = some (463, .iconst 0, 1, (0, 0, 0, 0), (.int 0), [], 0, 0, []) := rfl
set_option maxRecDepth 100000 in
theorem f_205_464 : xfind (xnth xTs 205) 464 = some (464, .ireturn, 1, (1, 0, 0, 0), .null, [], 0, 0, []) := rfl
set_option maxRecDepth 100000 in
theorem f_205_465 : xfind (xnth xTs 205) 465 = some (465, .aload_n 1, 1, (0, 0, 0, 0), .null, [], 0, 0, []) := rfl
set_option maxRecDepth 100000 in
theorem f_205_466 : xfind (xnth xTs 205) 466 = some (466, .aload_n 0, 1, (0, 0, 0, 0), .null, [], 0, 0, []) := rfl
set_option maxRecDepth 100000 in
theorem f_205_467 : xfind (xnth xTs 205) 467 = some (467, .iload_n 3, 1, (0, 0, 0, 0), .null, [], 0, 0, []) := rfl
set_option maxRecDepth 100000 in
theorem f_205_468 : xfind (xnth xTs 205) 468 = some (468, .iconst 1, 1, (0, 0, 0, 0), (.int 1), [], 0, 0, []) := rfl
set_option maxRecDepth 100000 in
theorem f_205_469 : xfind (xnth xTs 205) 469 = some (469, .iadd, 1, (0, 0, 0, 0), .null, [], 0, 0, []) := rfl
set_option maxRecDepth 100000 in
theorem f_205_470 : xfind (xnth xTs 205) 470 = some (470, .iaload, 1, (0, 0, 0, 0), .null, [], 0, 0, []) := rfl
set_option maxRecDepth 100000 in
theorem f_205_471 : xfind (xnth xTs 205) 471 = some (471, .invokevirtual 61, 3, (101, 1, 8, 4), .null, [], 666, 0, []) := rfl
set_option maxRecDepth 100000 in
theorem f_205_474 : xfind (xnth xTs 205) 474 = some (474, .aload_n 2, 1, (0, 0, 0, 0), .null, [], 0, 0, []) := rfl
set_option maxRecDepth 100000 in
theorem f_205_475 : xfind (xnth xTs 205) 475 = some (475, .aload_n 0, 1, (0, 0, 0, 0), .null, [], 0, 0, []) := rfl
set_option maxRecDepth 100000 in
theorem f_205_476 : xfind (xnth xTs 205) 476 = some (476, .iload_n 3, 1, (0, 0, 0, 0), .null, [], 0, 0, []) := rfl
set_option maxRecDepth 100000 in
theorem f_205_477 : xfind (xnth xTs 205) 477 = some (477, .iconst 1, 1, (0, 0, 0, 0), (.int 1), [], 0, 0, []) := rfl
set_option maxRecDepth 100000 in
theorem f_205_478 : xfind (xnth xTs 205) 478 = some (478, .iadd, 1, (0, 0, 0, 0), .null, [], 0, 0, []) := rfl
set_option maxRecDepth 100000 in
theorem f_205_479 : xfind (xnth xTs 205) 479 = some (479, .iaload, 1, (0, 0, 0, 0), .null, [], 0, 0, []) := rfl
set_option maxRecDepth 100000 in
theorem f_205_480 : xfind (xnth xTs 205) 480 = some (480, .invokevirtual 64, 3, (175, 1, 9, 7), .null, [], 1147, 0, []) := rfl
set_option maxRecDepth 100000 in
theorem f_205_483 : xfind (xnth xTs 205) 483 = some (483, .if_icmp .eq 428, 3, (0, 0, 0, 0), .null, [], 0, 0, []) := rfl
set_option maxRecDepth 100000 in
theorem f_205_486 : xfind (xnth xTs 205) 486 = some (486, .iconst 0, 1, (0, 0, 0, 0), (.int 0), [], 0, 0, []) := rfl
set_option maxRecDepth 100000 in
theorem f_205_487 : xfind (xnth xTs 205) 487 = some (487, .ireturn, 1, (1, 0, 0, 0), .null, [], 0, 0, []) := rfl
set_option maxRecDepth 100000 in
theorem f_205_488 : xfind (xnth xTs 205) 488 = some (488, .aload_n 1, 1, (0, 0, 0, 0), .null, [], 0, 0, []) := rfl
set_option maxRecDepth 100000 in
theorem f_205_489 : xfind (xnth xTs 205) 489 = some (489, .invokevirtual 65, 3, (102, 0, 8, 1), .null, [], 682, 0, []) := rfl
set_option maxRecDepth 100000 in
theorem f_205_492 : xfind (xnth xTs 205) 492 = some (492, .aload_n 2, 1, (0, 0, 0, 0), .null, [], 0, 0, []) := rfl
set_option maxRecDepth 100000 in
theorem f_205_493 : xfind (xnth xTs 205) 493 = some (493, .invokevirtual 68, 3, (176, 0, 9, 1), .null, [], 1159, 0, []) := rfl
set_option maxRecDepth 100000 in
theorem f_205_496 : xfind (xnth xTs 205) 496 = some (496, .if_icmp .eq 415, 3, (0, 0, 0, 0), .null, [], 0, 0, []) := rfl
set_option maxRecDepth 100000 in
theorem f_205_499 : xfind (xnth xTs 205) 499 = some (499, .iconst 0, 1, (0, 0, 0, 0), (.int 0), [], 0, 0, []) := rfl
set_option maxRecDepth 100000 in
theorem f_205_500 : xfind (xnth xTs 205) 500 = some (500, .ireturn, 1, (1, 0, 0, 0), .null, [], 0, 0, []) := rfl
set_option maxRecDepth 100000 in
theorem f_205_501 : xfind (xnth xTs 205) 501 = some (501, .aload_n 1, 1, (0, 0, 0, 0), .null, [], 0, 0, []) := rfl
set_option maxRecDepth 100000 in
theorem f_205_502 : xfind (xnth xTs 205) 502 = some (502, .aload_n 0, 1, (0, 0, 0, 0), .null, [], 0, 0, []) := rfl
set_option maxRecDepth 100000 in
theorem f_205_503 : xfind (xnth xTs 205) 503 = some (503, .iload_n 3, 1, (0, 0, 0, 0), .null, [], 0, 0, []) := rfl
set_option maxRecDepth 100000 in
theorem f_205_504 : xfind (xnth xTs 205) 504 = some (504, .iconst 1, 1, (0, 0, 0, 0), (.int 1), [], 0, 0, []) := rfl
set_option maxRecDepth 100000 in
theorem f_205_505 : xfind (xnth xTs 205) 505 = some (505, .iadd, 1, (0, 0, 0, 0), .null, [], 0, 0, []) := rfl
set_option maxRecDepth 100000 in
theorem f_205_506 : xfind (xnth xTs 205) 506 = some (506, .iaload, 1, (0, 0, 0, 0), .null, [], 0, 0, []) := rfl
set_option maxRecDepth 100000 in
theorem f_205_507 : xfind (xnth xTs 205) 507 = some (507, .invokevirtual 69, 3, (103, 1, 8, 3), .null, [], 690, 0, []) := rfl
set_option maxRecDepth 100000 in
theorem f_205_510 : xfind (xnth xTs 205) 510 = some (510, .aload_n 2, 1, (0, 0, 0, 0), .null, [], 0, 0, []) := rfl
set_option maxRecDepth 100000 in
theorem f_205_511 : xfind (xnth xTs 205) 511 = some (511, .aload_n 0, 1, (0, 0, 0, 0), .null, [], 0, 0, []) := rfl
set_option maxRecDepth 100000 in
theorem f_205_512 : xfind (xnth xTs 205) 512 = some (512, .iload_n 3, 1, (0, 0, 0, 0), .null, [], 0, 0, []) := rfl
set_option maxRecDepth 100000 in
theorem f_205_513 : xfind (xnth xTs 205) 513 = some (513, .iconst 1, 1, (0, 0, 0, 0), (.int 1), [], 0, 0, []) := rfl
set_option maxRecDepth 100000 in
theorem f_205_514 : xfind (xnth xTs 205) 514 = some (514, .iadd, 1, (0, 0, 0, 0), .null, [], 0, 0, []) := rfl
set_option maxRecDepth 100000 in
theorem f_205_515 : xfind (xnth xTs 205) 515 = some (515, .iaload, 1, (0, 0, 0, 0), .null, [], 0, 0, []) := rfl
set_option maxRecDepth 100000 in
theorem f_205_516 : xfind (xnth xTs 205) 516 = some (516, .invokevirtual 72, 3, (178, 1, 9, 4), .null, [], 1163, 0, []) := rfl
set_option maxRecDepth 100000 in
theorem f_205_519 : xfind (xnth xTs 205) 519 = some (519, .if_icmp .eq 392, 3, (0, 0, 0, 0), .null, [], 0, 0, []) := rfl
set_option maxRecDepth 100000 in
theorem f_205_522 : xfind (xnth xTs 205) 522 = some (522, .iconst 0, 1, (0, 0, 0, 0), (.int 0), [], 0, 0, []) := rfl
set_option maxRecDepth 100000 in
theorem f_205_523 : xfind (xnth xTs 205) 523 = some (523, .ireturn, 1, (1, 0, 0, 0), .null, [], 0, 0, []) := rfl
set_option maxRecDepth 100000 in
theorem f_205_524 : xfind (xnth xTs 205) 524 = some (524, .aload_n 1, 1, (0, 0, 0, 0), .null, [], 0, 0, []) := rfl
set_option maxRecDepth 100000 in
theorem f_205_525 : xfind (xnth xTs 205) 525 = some (525, .invokevirtual 73, 3, (104, 0, 8, 2), .null, [], 694, 0, []) := rfl
set_option maxRecDepth 100000 in
theorem f_205_528 : xfind (xnth xTs 205) 528 = some (528, .aload_n 2, 1, (0, 0, 0, 0), .null, [], 0, 0, []) := rfl
set_option maxRecDepth 100000 in
theorem f_205_529 : xfind (xnth xTs 205) 529 = some (529, .invokevirtual 76, 3, (179, 0, 9, 3), .null, [], 1171, 0, []) := rfl
set_option maxRecDepth 100000 in
theorem f_205_532 : xfind (xnth xTs 205) 532 = some (532, .if_icmp .eq 379, 3, (0, 0, 0, 0), .null, [], 0, 0, []) := rfl
set_option maxRecDepth 100000 in
theorem f_205_535 : xfind (xnth xTs 205) 535 = some (535, .iconst 0, 1, (0, 0, 0, 0), (.int 0), [], 0, 0, []) := rfl
set_option maxRecDepth 100000 in
theorem f_205_536 : xfind (xnth xTs 205) 536 = some (536, .ireturn, 1, (1, 0, 0, 0), .null, [], 0, 0, []) := rfl
set_option maxRecDepth 100000 in
theorem f_205_537 : xfind (xnth xTs 205) 537 = some (537, .aload_n 1, 1, (0, 0, 0, 0), .null, [], 0, 0, []) := rfl
set_option maxRecDepth 100000 in
theorem f_205_538 : xfind (xnth xTs 205) 538 = some (538, .aload_n 0, 1, (0, 0, 0, 0), .null, [], 0, 0, []) := rfl
set_option maxRecDepth 100000 in
theorem f_205_539 : xfind (xnth xTs 205) 539 = some (539, .iload_n 3, 1, (0, 0, 0, 0), .null, [], 0, 0, []) := rfl
set_option maxRecDepth 100000 in
theorem f_205_540 : xfind (xnth xTs 205) 540 = some (540, .iconst 1, 1, (0, 0, 0, 0), (.int 1), [], 0, 0, []) := rfl
set_option maxRecDepth 100000 in
theorem f_205_541 : xfind (xnth xTs 205) 541 = some (541, .iadd, 1, (0, 0, 0, 0), .null, [], 0, 0, []) := rfl
set_option maxRecDepth 100000 in
theorem f_205_542 : xfind (xnth xTs 205) 542 = some (542, .iaload, 1, (0, 0, 0, 0), .null, [], 0, 0, []) := rfl
set_option maxRecDepth 100000 in
theorem f_205_543 : xfind (xnth xTs 205) 543 = some (543, .aload_n 0, 1, (0, 0, 0, 0), .null, [], 0, 0, []) := rfl
set_option maxRecDepth 100000 in
theorem f_205_544 : xfind (xnth xTs 205) 544 = some (544, .iload_n 3, 1, (0, 0, 0, 0), .null, [], 0, 0, []) := rfl
set_option maxRecDepth 100000 in
theorem f_205_545 : xfind (xnth xTs 205) 545 = some (545, .iconst 2, 1, (0, 0, 0, 0), (.int 2), [], 0, 0, []) := rfl
set_option maxRecDepth 100000 in
theorem f_205_546 : xfind (xnth xTs 205) 546 = some (546, .iadd, 1, (0, 0, 0, 0), .null, [], 0, 0, []) := rfl
set_option maxRecDepth 100000 in
theorem f_205_547 : xfind (xnth xTs 205) 547 = some (547, .iaload, 1, (0, 0, 0, 0), .null, [], 0, 0, []) := rfl
set_option maxRecDepth 100000 in
theorem f_205_548 : xfind (xnth xTs 205) 548 = some (548, .aload_n 0, 1, (0, 0, 0, 0), .null, [], 0, 0, []) := rfl
set_option maxRecDepth 100000 in
theorem f_205_549 : xfind (xnth xTs 205) 549 = some (549, .iload_n 3, 1, (0, 0, 0, 0), .null, [], 0, 0, []) := rfl
set_option maxRecDepth 100000 in
theorem f_205_550 : xfind (xnth xTs 205) 550 = some (550, .iconst 3, 1, (0, 0, 0, 0), (.int 3), [], 0, 0, []) := rfl
set_option maxRecDepth 100000 in
theorem f_205_551 : xfind (xnth xTs 205) 551 = some (551, .iadd, 1, (0, 0, 0, 0), .null, [], 0, 0, []) := rfl
set_option maxRecDepth 100000 in
theorem f_205_552 : xfind (xnth xTs 205) 552 = some (552, .iaload, 1, (0, 0, 0, 0), .null, [], 0, 0, []) := rfl
set_option maxRecDepth 100000 in
theorem f_205_553 : xfind (xnth xTs 205) 553 = some (553, .invokevirtual 77, 3, (105, 3, 8, 4), .null, [], 698, 0, []) := rfl
set_option maxRecDepth 100000 in
theorem f_205_556 : xfind (xnth xTs 205) 556 = some (556, .aload_n 2, 1, (0, 0, 0, 0), .null, [], 0, 0, []) := rfl
set_option maxRecDepth 100000 in
theorem f_205_557 : xfind (xnth xTs 205) 557 = some (557, .aload_n 0, 1, (0, 0, 0, 0), .null, [], 0, 0, []) := rfl
set_option maxRecDepth 100000 in
theorem f_205_558 : xfind (xnth xTs 205) 558 = some (558, .iload_n 3, 1, (0, 0, 0, 0), .null, [], 0, 0, []) := rfl
set_option maxRecDepth 100000 in
theorem f_205_559 : xfind (xnth xTs 205) 559 = some (559, .iconst 1, 1, (0, 0, 0, 0), (.int 1), [], 0, 0, []) := rfl
set_option maxRecDepth 100000 in
theorem f_205_560 : xfind (xnth xTs 205) 560 = some (560, .iadd, 1, (0, 0, 0, 0), .null, [], 0, 0, []) := rfl
set_option maxRecDepth 100000 in
theorem f_205_561 : xfind (xnth xTs 205) 561 = some (561, .iaload, 1, (0, 0, 0, 0), .null, [], 0, 0, []) := rfl
set_option maxRecDepth 100000 in
theorem f_205_562 : xfind (xnth xTs 205) 562 = some (562, .aload_n 0, 1, (0, 0, 0, 0), .null, [], 0, 0, []) := rfl
set_option maxRecDepth 100000 in
theorem f_205_563 : xfind (xnth xTs 205) 563 = some (563, .iload_n 3, 1, (0, 0, 0, 0), .null, [], 0, 0, []) := rfl
set_option maxRecDepth 100000 in
theorem f_205_564 : xfind (xnth xTs 205) 564 = some (564, .iconst 2, 1, (0, 0, 0, 0), (.int 2), [], 0, 0, []) := rfl
set_option maxRecDepth 100000 in
theorem f_205_565 : xfind (xnth xTs 205) 565 = some (565, .iadd, 1, (0, 0, 0, 0), .null, [], 0, 0, []) := rfl
set_option maxRecDepth 100000 in
theorem f_205_566 : xfind (xnth xTs 205) 566 = some (566, .iaload, 1, (0, 0, 0, 0), .null, [], 0, 0, []) := rfl
set_option maxRecDepth 100000 in
theorem f_205_567 : xfind (xnth xTs 205) 567 = some (567, .aload_n 0, 1, (0, 0, 0, 0), .null, [], 0, 0, []) := rfl
set_option maxRecDepth 100000 in
theorem f_205_568 : xfind (xnth xTs 205) 568 = some (568, .iload_n 3, 1, (0, 0, 0, 0), .null, [], 0, 0, []) := rfl
set_option maxRecDepth 100000 in
theorem f_205_569 : xfind (xnth xTs 205) 569 = some (569, .iconst 3, 1, (0, 0, 0, 0), (.int 3), [], 0, 0, []) := rfl
set_option maxRecDepth 100000 in
theorem f_205_570 : xfind (xnth xTs 205) 570 = some (570, .iadd, 1, (0, 0, 0, 0), .null, [], 0, 0, []) := rfl
set_option maxRecDepth 100000 in
theorem f_205_571 : xfind (xnth xTs 205) 571 = some (571, .iaload, 1, (0, 0, 0, 0), .null, [], 0, 0, []) := rfl
set_option maxRecDepth 100000 in
theorem f_205_572 : xfind (xnth xTs 205) 572 = some (572, .invokevirtual 80, 3, (182, 3, 9, 8), .null, [], 1175, 0, []) := rfl
set_option maxRecDepth 100000 in
theorem f_205_575 : xfind (xnth xTs 205) 575 = some (575, .if_icmp .eq 336, 3, (0, 0, 0, 0), .null, [], 0, 0, []) := rfl
set_option maxRecDepth 100000 in
theorem f_205_578 : xfind (xnth xTs 205) 578 = some (578, .iconst 0, 1, (0, 0, 0, 0), (.int 0), [], 0, 0, []) := rfl
set_option maxRecDepth 100000 in
theorem f_205_579 : xfind (xnth xTs 205) 579 = some (579, .ireturn, 1, (1, 0, 0, 0), .null, [], 0, 0, []) := rfl
set_option maxRecDepth 100000 in
theorem f_205_580 : xfind (xnth xTs 205) 580 = some (580, .aload_n 1, 1, (0, 0, 0, 0), .null, [], 0, 0, []) := rfl
set_option maxRecDepth 100000 in
theorem f_205_581 : xfind (xnth xTs 205) 581 = some (581, .invokevirtual 81, 3, (106, 0, 8, 4), .null, [], 739, 0, []) := rfl
set_option maxRecDepth 100000 in
theorem f_205_584 : xfind (xnth xTs 205) 584 = some (584, .aload_n 2, 1, (0, 0, 0, 0), .null, [], 0, 0, []) := rfl
set_option maxRecDepth 100000 in
theorem f_205_585 : xfind (xnth xTs 205) 585 = some (585, .invokevirtual 84, 3, (183, 0, 9, 4), .null, [], 1188, 0, []) := rfl
set_option maxRecDepth 100000 in
theorem f_205_588 : xfind (xnth xTs 205) 588 = some (588, .if_icmp .eq 323, 3, (0, 0, 0, 0), .null, [], 0, 0, []) := rfl
set_option maxRecDepth 100000 in
theorem f_205_591 : xfind (xnth xTs 205) 591 = some (591, .iconst 0, 1, (0, 0, 0, 0), (.int 0), [], 0, 0, []) := rfl
set_option maxRecDepth 100000 in
theorem f_205_592 : xfind (xnth xTs 205) 592 = some (592, .ireturn, 1, (1, 0, 0, 0), .null, [], 0, 0, []) := rfl
set_option maxRecDepth 100000 in
theorem f_205_593 : xfind (xnth xTs 205) 593 = some (593, .aload_n 1, 1, (0, 0, 0, 0), .null, [], 0, 0, []) := rfl
set_option maxRecDepth 100000 in
theorem f_205_594 : xfind (xnth xTs 205) 594 = some (594, .invokevirtual 85, 3, (107, 0, 8, 3), .null, [], 743, 0, []) := rfl
set_option maxRecDepth 100000 in
theorem f_205_597 : xfind (xnth xTs 205) 597 = some (597, .aload_n 2, 1, (0, 0, 0, 0), .null, [], 0, 0, []) := rfl
set_option maxRecDepth 100000 in
theorem f_205_598 : xfind (xnth xTs 205) 598 = some (598, .invokevirtual 88, 3, (184, 0, 9, 5), .null, [], 1193, 0, []) := rfl
set_option maxRecDepth 100000 in
theorem f_205_601 : xfind (xnth xTs 205) 601 = some (601, .if_icmp .eq 310, 3, (0, 0, 0, 0), .null, [], 0, 0, []) := rfl
set_option maxRecDepth 100000 in
theorem f_205_604 : xfind (xnth xTs 205) 604 = some (604, .iconst 0, 1, (0, 0, 0, 0), (.int 0), [], 0, 0, []) := rfl
set_option maxRecDepth 100000 in
theorem f_205_605 : xfind (xnth xTs 205) 605 = some (605, .ireturn, 1, (1, 0, 0, 0), .null, [], 0, 0, []) := rfl
set_option maxRecDepth 100000 in
theorem f_205_606 : xfind (xnth xTs 205) 606 = some (606, .aload_n 1, 1, (0, 0, 0, 0), .null, [], 0, 0, []) := rfl
set_option maxRecDepth 100000 in
theorem f_205_607 : xfind (xnth xTs 205) 607 = some (607, .aload_n 0, 1, (0, 0, 0, 0), .null, [], 0, 0, []) := rfl
set_option maxRecDepth 100000 in
theorem f_205_608 : xfind (xnth xTs 205) 608 = some (608, .iload_n 3, 1, (0, 0, 0, 0), .null, [], 0, 0, []) := rfl
set_option maxRecDepth 100000 in
theorem f_205_609 : xfind (xnth xTs 205) 609 = some (609, .iconst 1, 1, (0, 0, 0, 0), (.int 1), [], 0, 0, []) := rfl
set_option maxRecDepth 100000 in
theorem f_205_610 : xfind (xnth xTs 205) 610 = some (610, .iadd, 1, (0, 0, 0, 0), .null, [], 0, 0, []) := rfl
set_option maxRecDepth 100000 in
theorem f_205_611 : xfind (xnth xTs 205) 611 = some (611, .iaload, 1, (0, 0, 0, 0), .null, [], 0, 0, []) := rfl
set_option maxRecDepth 100000 in
theorem f_205_612 : xfind (xnth xTs 205) 612 = some (612, .invokevirtual 89, 3, (108, 1, 8, 2), .null, [], 752, 0, []) := rfl
set_option maxRecDepth 100000 in
theorem f_205_615 : xfind (xnth xTs 205) 615 = some (615, .aload_n 2, 1, (0, 0, 0, 0), .null, [], 0, 0, []) := rfl
set_option maxRecDepth 100000 in
theorem f_205_616 : xfind (xnth xTs 205) 616 = some (616, .aload_n 0, 1, (0, 0, 0, 0), .null, [], 0, 0, []) := rfl
set_option maxRecDepth 100000 in
theorem f_205_617 : xfind (xnth xTs 205) 617 = some (617, .iload_n 3, 1, (0, 0, 0, 0), .null, [], 0, 0, []) := rfl
set_option maxRecDepth 100000 in
theorem f_205_618 : xfind (xnth xTs 205) 618 = some (618, .iconst 1, 1, (0, 0, 0, 0), (.int 1), [], 0, 0, []) := rfl
set_option maxRecDepth 100000 in
theorem f_205_619 : xfind (xnth xTs 205) 619 = some (619, .iadd, 1, (0, 0, 0, 0), .null, [], 0, 0, []) := rfl
set_option maxRecDepth 100000 in
theorem f_205_620 : xfind (xnth xTs 205) 620 = some (620, .iaload, 1, (0, 0, 0, 0), .null, [], 0, 0, []) := rfl
set_option maxRecDepth 100000 in
theorem f_205_621 : xfind (xnth xTs 205) 621 = some (621, .invokevirtual 92, 3, (186, 1, 9, 7), .null, [], 1197, 0, []) := rfl
set_option maxRecDepth 100000 in
theorem f_205_624 : xfind (xnth xTs 205) 624 = some (624, .if_icmp .eq 287, 3, (0, 0, 0, 0), .null, [], 0, 0, []) := rfl
set_option maxRecDepth 100000 in
theorem f_205_627 : xfind (xnth xTs 205) 627 = some (627, .iconst 0, 1, (0, 0, 0, 0), (.int 0), [], 0, 0, []) := rfl
set_option maxRecDepth 100000 in
theorem f_205_628 : xfind (xnth xTs 205) 628 = some (628, .ireturn, 1, (1, 0, 0, 0), .null, [], 0, 0, []) := rfl
set_option maxRecDepth 100000 in
theorem f_205_629 : xfind (xnth xTs 205) 629 = some (629, .aload_n 1, 1, (0, 0, 0, 0), .null, [], 0, 0, []) := rfl
set_option maxRecDepth 100000 in
theorem f_205_630 : xfind (xnth xTs 205) 630 = some (630, .aload_n 0, 1, (0, 0, 0, 0), .null, [], 0, 0, []) := rfl
set_option maxRecDepth 100000 in
theorem f_205_631 : xfind (xnth xTs 205) 631 = some (631, .iload_n 3, 1, (0, 0, 0, 0), .null, [], 0, 0, []) := rfl
set_option maxRecDepth 100000 in
theorem f_205_632 : xfind (xnth xTs 205) 632 = some (632, .iconst 1, 1, (0, 0, 0, 0), (.int 1), [], 0, 0, []) := rfl
set_option maxRecDepth 100000 in
theorem f_205_633 : xfind (xnth xTs 205) 633 = some (633, .iadd, 1, (0, 0, 0, 0), .null, [], 0, 0, []) := rfl
set_option maxRecDepth 100000 in
theorem f_205_634 : xfind (xnth xTs 205) 634 = some (634, .iaload, 1, (0, 0, 0, 0), .null, [], 0, 0, []) := rfl
set_option maxRecDepth 100000 in
theorem f_205_635 : xfind (xnth xTs 205) 635 = some (635, .aload_n 0, 1, (0, 0, 0, 0), .null, [], 0, 0, []) := rfl
set_option maxRecDepth 100000 in
theorem f_205_636 : xfind (xnth xTs 205) 636 = some (636, .iload_n 3, 1, (0, 0, 0, 0), .null, [], 0, 0, []) := rfl
set_option maxRecDepth 100000 in
theorem f_205_637 : xfind (xnth xTs 205) 637 = some (637, .iconst 2, 1, (0, 0, 0, 0), (.int 2), [], 0, 0, []) := rfl
set_option maxRecDepth 100000 in
theorem f_205_638 : xfind (xnth xTs 205) 638 = some (638, .iadd, 1, (0, 0, 0, 0), .null, [], 0, 0, []) := rfl
set_option maxRecDepth 100000 in
theorem f_205_639 : xfind (xnth xTs 205) 639 = some (639, .iaload, 1, (0, 0, 0, 0), .null, [], 0, 0, []) := rfl
set_option maxRecDepth 100000 in
theorem f_205_640 : xfind (xnth xTs 205) 640 = some (640, .invokevirtual 93, 3, (109, 2, 8, 6), .null, [], 783, 0, []) := rfl
set_option maxRecDepth 100000 in
theorem f_205_643 : xfind (xnth xTs 205) 643 = some (643, .aload_n 2, 1, (0, 0, 0, 0), .null, [], 0, 0, []) := rfl
set_option maxRecDepth 100000 in
theorem f_205_644 : xfind (xnth xTs 205) 644 = some (644, .aload_n 0, 1, (0, 0, 0, 0), .null, [], 0, 0, []) := rfl
set_option maxRecDepth 100000 in
theorem f_205_645 : xfind (xnth xTs 205) 645 = some (645, .iload_n 3, 1, (0, 0, 0, 0), .null, [], 0, 0, []) := rfl
set_option maxRecDepth 100000 in
theorem f_205_646 : xfind (xnth xTs 205) 646 = some (646, .iconst 1, 1, (0, 0, 0, 0), (.int 1), [], 0, 0, []) := rfl
set_option maxRecDepth 100000 in
theorem f_205_647 : xfind (xnth xTs 205) 647 = some (647, .iadd, 1, (0, 0, 0, 0), .null, [], 0, 0, []) := rfl
set_option maxRecDepth 100000 in
theorem f_205_648 : xfind (xnth xTs 205) 648 = some (648, .iaload, 1, (0, 0, 0, 0), .null, [], 0, 0, []) := rfl
set_option maxRecDepth 100000 in
theorem f_205_649 : xfind (xnth xTs 205) 649 = some (649, .aload_n 0, 1, (0, 0, 0, 0), .null, [], 0, 0, []) := rfl
set_option maxRecDepth 100000 in
theorem f_205_650 : xfind (xnth xTs 205) 650 = some (650, .iload_n 3, 1, (0, 0, 0, 0), .null, [], 0, 0, []) := rfl
set_option maxRecDepth 100000 in
theorem f_205_651 : xfind (xnth xTs 205) 651 = some (651, .iconst 2, 1, (0, 0, 0, 0), (.int 2), [], 0, 0, []) := rfl
set_option maxRecDepth 100000 in
theorem f_205_652 : xfind (xnth xTs 205) 652 = some (652, .iadd, 1, (0, 0, 0, 0), .null, [], 0, 0, []) := rfl
set_option maxRecDepth 100000 in
theorem f_205_653 : xfind (xnth xTs 205) 653 = some (653, .iaload, 1, (0, 0, 0, 0), .null, [], 0, 0, []) := rfl
set_option maxRecDepth 100000 in
theorem f_205_654 : xfind (xnth xTs 205) 654 = some (654, .invokevirtual 96, 3, (187, 2, 9, 5), .null, [], 1205, 0, []) := rfl
set_option maxRecDepth 100000 in
theorem f_205_657 : xfind (xnth xTs 205) 657 = some (657, .if_icmp .eq 254, 3, (0, 0, 0, 0), .null, [], 0, 0, []) := rfl
set_option maxRecDepth 100000 in
theorem f_205_660 : xfind (xnth xTs 205) 660 = some (660, .iconst 0, 1, (0, 0, 0, 0), (.int 0), [], 0, 0, []) := rfl
set_option maxRecDepth 100000 in
theorem f_205_661 : xfind (xnth xTs 205) 661 = some (661, .ireturn, 1, (1, 0, 0, 0), .null, [], 0, 0, []) := rfl
set_option maxRecDepth 100000 in
theorem f_205_662 : xfind (xnth xTs 205) 662 = some (662, .aload_n 1, 1, (0, 0, 0, 0), .null, [], 0, 0, []) := rfl
set_option maxRecDepth 100000 in
theorem f_205_663 : xfind (xnth xTs 205) 663 = some (663, .invokevirtual 97, 3, (110, 0, 8, 5), .null, [], 789, 0, []) := rfl
set_option maxRecDepth 100000 in
theorem f_205_666 : xfind (xnth xTs 205) 666 = some (666, .aload_n 2, 1, (0, 0, 0, 0), .null, [], 0, 0, []) := rfl
set_option maxRecDepth 100000 in
theorem f_205_667 : xfind (xnth xTs 205) 667 = some (667, .invokevirtual 100, 3, (188, 0, 9, 5), .null, [], 1210, 0, []) := rfl
set_option maxRecDepth 100000 in
theorem f_205_670 : xfind (xnth xTs 205) 670 = some (670, .if_icmp .eq 241, 3, (0, 0, 0, 0), .null, [], 0, 0, []) := rfl
set_option maxRecDepth 100000 in
theorem f_205_673 : xfind (xnth xTs 205) 673 = some (673, .iconst 0, 1, (0, 0, 0, 0), (.int 0), [], 0, 0, []) := rfl
set_option maxRecDepth 100000 in
theorem f_205_674 : xfind (xnth xTs 205) 674 = some (674, .ireturn, 1, (1, 0, 0, 0), .null, [], 0, 0, []) := rfl
set_option maxRecDepth 100000 in
theorem f_205_675 : xfind (xnth xTs 205) 675 = some (675, .aload_n 1, 1, (0, 0, 0, 0), .null, [], 0, 0, []) := rfl
set_option maxRecDepth 100000 in
theorem f_205_676 : xfind (xnth xTs 205) 676 = some (676, .aload_n 0, 1, (0, 0, 0, 0), .null, [], 0, 0, []) := rfl
set_option maxRecDepth 100000 in
theorem f_205_677 : xfind (xnth xTs 205) 677 = some (677, .iload_n 3, 1, (0, 0, 0, 0), .null, [], 0, 0, []) := rfl
set_option maxRecDepth 100000 in
theorem f_205_678 : xfind (xnth xTs 205) 678 = some (678, .iconst 1, 1, (0, 0, 0, 0), (.int 1), [], 0, 0, []) := rfl
set_option maxRecDepth 100000 in
theorem f_205_679 : xfind (xnth xTs 205) 679 = some (679, .iadd, 1, (0, 0, 0, 0), .null, [], 0, 0, []) := rfl
set_option maxRecDepth 100000 in
theorem f_205_680 : xfind (xnth xTs 205) 680 = some (680, .iaload, 1, (0, 0, 0, 0), .null, [], 0, 0, []) := rfl
set_option maxRecDepth 100000 in
theorem f_205_681 : xfind (xnth xTs 205) 681 = some (681, .aload_n 0, 1, (0, 0, 0, 0), .null, [], 0, 0, []) := rfl
set_option maxRecDepth 100000 in
theorem f_205_682 : xfind (xnth xTs 205) 682 = some (682, .iload_n 3, 1, (0, 0, 0, 0), .null, [], 0, 0, []) := rfl
set_option maxRecDepth 100000 in
theorem f_205_683 : xfind (xnth xTs 205) 683 = some (683, .iconst 2, 1, (0, 0, 0, 0), (.int 2), [], 0, 0, []) := rfl
set_option maxRecDepth 100000 in
theorem f_205_684 : xfind (xnth xTs 205) 684 = some (684, .iadd, 1, (0, 0, 0, 0), .null, [], 0, 0, []) := rfl
set_option maxRecDepth 100000 in
theorem f_205_685 : xfind (xnth xTs 205) 685 = some (685, .iaload, 1, (0, 0, 0, 0), .null, [], 0, 0, []) := rfl
set_option maxRecDepth 100000 in
theorem f_205_686 : xfind (xnth xTs 205) 686 = some (686, .invokevirtual 101, 3, (111, 2, 8, 6), .null, [], 793, 0, []) := rfl
set_option maxRecDepth 100000 in
theorem f_205_689 : xfind (xnth xTs 205) 689 = some (689, .aload_n 2, 1, (0, 0, 0, 0), .null, [], 0, 0, []) := rfl
set_option maxRecDepth 100000 in
theorem f_205_690 : xfind (xnth xTs 205) 690 = some (690, .aload_n 0, 1, (0, 0, 0, 0), .null, [], 0, 0, []) := rfl
set_option maxRecDepth 100000 in
theorem f_205_691 : xfind (xnth xTs 205) 691 = some (691, .iload_n 3, 1, (0, 0, 0, 0), .null, [], 0, 0, []) := rfl
set_option maxRecDepth 100000 in
theorem f_205_692 : xfind (xnth xTs 205) 692 = some (692, .iconst 1, 1, (0, 0, 0, 0), (.int 1), [], 0, 0, []) := rfl
set_option maxRecDepth 100000 in
theorem f_205_693 : xfind (xnth xTs 205) 693 = some (693, .iadd, 1, (0, 0, 0, 0), .null, [], 0, 0, []) := rfl
set_option maxRecDepth 100000 in
theorem f_205_694 : xfind (xnth xTs 205) 694 = some (694, .iaload, 1, (0, 0, 0, 0), .null, [], 0, 0, []) := rfl
set_option maxRecDepth 100000 in
theorem f_205_695 : xfind (xnth xTs 205) 695 = some (695, .aload_n 0, 1, (0, 0, 0, 0), .null, [], 0, 0, []) := rfl
set_option maxRecDepth 100000 in
theorem f_205_696 : xfind (xnth xTs 205) 696 = some (696, .iload_n 3, 1, (0, 0, 0, 0), .null, [], 0, 0, []) := rfl
set_option maxRecDepth 100000 in
theorem f_205_697 : xfind (xnth xTs 205) 697 = some (697, .iconst 2, 1, (0, 0, 0, 0), (.int 2), [], 0, 0, []) := rfl
set_option maxRecDepth 100000 in
theorem f_205_698 : xfind (xnth xTs 205) 698 = some (698, .iadd, 1, (0, 0, 0, 0), .null, [], 0, 0, []) := rfl
set_option maxRecDepth 100000 in
theorem f_205_699 : xfind (xnth xTs 205) 699 = some (699, .iaload, 1, (0, 0, 0, 0), .null, [], 0, 0, []) := rfl
set_option maxRecDepth 100000 in
theorem f_205_700 : xfind (xnth xTs 205) 700 = some (700, .invokevirtual 104, 3, (189, 2, 9, 6), .null, [], 1214, 0, []) := rfl
set_option maxRecDepth 100000 in
theorem f_205_703 : xfind (xnth xTs 205) 703 = some (703, .if_icmp .eq 208, 3, (0, 0, 0, 0), .null, [], 0, 0, []) := rfl
set_option maxRecDepth 100000 in
theorem f_205_706 : xfind (xnth xTs 205) 706 = some (706, .iconst 0, 1, (0, 0, 0, 0), (.int 0), [], 0, 0, []) := rfl
set_option maxRecDepth 100000 in
theorem f_205_707 : xfind (xnth xTs 205) 707 = some (707, .ireturn, 1, (1, 0, 0, 0), .null, [], 0, 0, []) := rfl
set_option maxRecDepth 100000 in
theorem f_205_708 : xfind (xnth xTs 205) 708 = some (708, .aload_n 1, 1, (0, 0, 0, 0), .null, [], 0, 0, []) := rfl
set_option maxRecDepth 100000 in
theorem f_205_709 : xfind (xnth xTs 205) 709 = some (709, .aload_n 0, 1, (0, 0, 0, 0), .null, [], 0, 0, []) := rfl
set_option maxRecDepth 100000 in
theorem f_205_710 : xfind (xnth xTs 205) 710 = some (710, .iload_n 3, 1, (0, 0, 0, 0), .null, [], 0, 0, []) := rfl
set_option maxRecDepth 100000 in
theorem f_205_711 : xfind (xnth xTs 205) 711 = some (711, .iconst 1, 1, (0, 0, 0, 0), (.int 1), [], 0, 0, []) := rfl
set_option maxRecDepth 100000 in
theorem f_205_712 : xfind (xnth xTs 205) 712 = some (712, .iadd, 1, (0, 0, 0, 0), .null, [], 0, 0, []) := rfl
set_option maxRecDepth 100000 in
theorem f_205_713 : xfind (xnth xTs 205) 713 = some (713, .iaload, 1, (0, 0, 0, 0), .null, [], 0, 0, []) := rfl
set_option maxRecDepth 100000 in
theorem f_205_714 : xfind (xnth xTs 205) 714 = some (714, .aload_n 0, 1, (0, 0, 0, 0), .null, [], 0, 0, []) := rfl
set_option maxRecDepth 100000 in
theorem f_205_715 : xfind (xnth xTs 205) 715 = some (715, .iload_n 3, 1, (0, 0, 0, 0), .null, [], 0, 0, []) := rfl
set_option maxRecDepth 100000 in
theorem f_205_716 : xfind (xnth xTs 205) 716 = some (716, .iconst 2, 1, (0, 0, 0, 0), (.int 2), [], 0, 0, []) := rfl
set_option maxRecDepth 100000 in
theorem f_205_717 : xfind (xnth xTs 205) 717 = some (717, .iadd, 1, (0, 0, 0, 0), .null, [], 0, 0, []) := rfl
set_option maxRecDepth 100000 in
theorem f_205_718 : xfind (xnth xTs 205) 718 = some (718, .iaload, 1, (0, 0, 0, 0), .null, [], 0, 0, []) := rfl
set_option maxRecDepth 100000 in
theorem f_205_719 : xfind (xnth xTs 205) 719 = some (719, .ifCond .eq 7, 3, (0, 0, 0, 0), .null, [], 0, 0, []) := rfl
set_option maxRecDepth 100000 in
theorem f_205_722 : xfind (xnth xTs 205) 722 = some (722, .iconst 1, 1, (0, 0, 0, 0), (.int 1), [], 0, 0, []) := rfl
set_option maxRecDepth 100000 in
theorem f_205_723 : xfind (xnth xTs 205) 723 = some (723, .goto 4, 3, (0, 0, 0, 0), .null, [], 0, 0, []) := rfl
set_option maxRecDepth 100000 in
theorem f_205_726 : xfind (xnth xTs 205) 726 = some (726, .iconst 0, 1, (0, 0, 0, 0), (.int 0), [], 0, 0, []) := rfl
set_option maxRecDepth 100000 in
theorem f_205_727 : xfind (xnth xTs 205) 727 = some (727, .invokevirtual 105, 3, (112, 2, 8, 3), .null, [], 799, 0, []) := rfl
set_option maxRecDepth 100000 in
theorem f_205_730 : xfind (xnth xTs 205) 730 = some (730, .aload_n 2, 1, (0, 0, 0, 0), .null, [], 0, 0, []) := rfl
set_option maxRecDepth 100000 in
theorem f_205_731 : xfind (xnth xTs 205) 731 = some (731, .aload_n 0, 1, (0, 0, 0, 0), .null, [], 0, 0, []) := rfl
set_option maxRecDepth 100000 in
theorem f_205_732 : xfind (xnth xTs 205) 732 = some (732, .iload_n 3, 1, (0, 0, 0, 0), .null, [], 0, 0, []) := rfl
set_option maxRecDepth 100000 in
theorem f_205_733 : xfind (xnth xTs 205) 733 = some (733, .iconst 1, 1, (0, 0, 0, 0), (.int 1), [], 0, 0, []) := rfl
set_option maxRecDepth 100000 in
theorem f_205_734 : xfind (xnth xTs 205) 734 = some (734, .iadd, 1, (0, 0, 0, 0), .null, [], 0, 0, []) := rfl
set_option maxRecDepth 100000 in
theorem f_205_735 : xfind (xnth xTs 205) 735 = some (735, .iaload, 1, (0, 0, 0, 0), .null, [], 0, 0, []) := rfl
set_option maxRecDepth 100000 in
theorem f_205_736 : xfind (xnth xTs 205) 736 = some (736, .aload_n 0, 1, (0, 0, 0, 0), .null, [], 0, 0, []) := rfl
set_option maxRecDepth 100000 in
theorem f_205_737 : xfind (xnth xTs 205) 737 = some (737, .iload_n 3, 1, (0, 0, 0, 0), .null, [], 0, 0, []) := rfl
set_option maxRecDepth 100000 in
theorem f_205_738 : xfind (xnth xTs 205) 738 = some (738, .iconst 2, 1, (0, 0, 0, 0), (.int 2), [], 0, 0, []) := rfl
set_option maxRecDepth 100000 in
theorem f_205_739 : xfind (xnth xTs 205) 739 = some (739, .iadd, 1, (0, 0, 0, 0), .null, [], 0, 0, []) := rfl
set_option maxRecDepth 100000 in
theorem f_205_740 : xfind (xnth xTs 205) 740 = some (740, .iaload, 1, (0, 0, 0, 0), .null, [], 0, 0, []) := rfl
set_option maxRecDepth 100000 in
theorem f_205_741 : xfind (xnth xTs 205) 741 = some (741, .ifCond .eq 7, 3, (0, 0, 0, 0), .null, [], 0, 0, []) := rfl
set_option maxRecDepth 100000 in
theorem f_205_744 : xfind (xnth xTs 205) 744 = some (744, .iconst 1, 1, (0, 0, 0, 0), (.int 1), [], 0, 0, []) := rfl
set_option maxRecDepth 100000 in
theorem f_205_745 : xfind (xnth xTs 205) 745 = some (745, .goto 4, 3, (0, 0, 0, 0), .null, [], 0, 0, []) := rfl
set_option maxRecDepth 100000 in
theorem f_205_748 : xfind (xnth xTs 205) 748 = some (748, .iconst 0, 1, (0, 0, 0, 0), (.int 0), [], 0, 0, []) := rfl
set_option maxRecDepth 100000 in
theorem f_205_749 : xfind (xnth xTs 205) 749 = some (749, .invokevirtual 109, 3, (190, 2, 9, 3), .null, [], 1221, 0, []) := rfl
set_option maxRecDepth 100000 in
theorem f_205_752 : xfind (xnth xTs 205) 752 = some (752, .if_icmp .eq 159, 3, (0, 0, 0, 0), .null, [], 0, 0, []) := rfl
set_option maxRecDepth 100000 in
theorem f_205_755 : xfind (xnth xTs 205) 755 = some (755, .iconst 0, 1, (0, 0, 0, 0), (.int 0), [], 0, 0, []) := rfl
set_option maxRecDepth 100000 in
theorem f_205_756 : xfind (xnth xTs 205) 756 = some (756, .ireturn, 1, (1, 0, 0, 0), .null, [], 0, 0, []) := rfl
set_option maxRecDepth 100000 in
theorem f_205_757 : xfind (xnth xTs 205) 757 = some (757, .aload_n 1, 1, (0, 0, 0, 0), .null, [], 0, 0, []) := rfl
set_option maxRecDepth 100000 in
theorem f_205_758 : xfind (xnth xTs 205) 758 = some (758, .invokevirtual 110, 3, (113, 0, 8, 3), .null, [], 808, 0, []) := rfl
set_option maxRecDepth 100000 in
theorem f_205_761 : xfind (xnth xTs 205) 761 = some (761, .aload_n 2, 1, (0, 0, 0, 0), .null, [], 0, 0, []) := rfl
set_option maxRecDepth 100000 in
theorem f_205_762 : xfind (xnth xTs 205) 762 = some (762, .invokevirtual 113, 3, (193, 0, 9, 1), .null, [], 1225, 0, []) := rfl
set_option maxRecDepth 100000 in
theorem f_205_765 : xfind (xnth xTs 205) 765 = some (765, .if_icmp .eq 146, 3, (0, 0, 0, 0), .null, [], 0, 0, []) := rfl
set_option maxRecDepth 100000 in
theorem f_205_768 : xfind (xnth xTs 205) 768 = some (768, .iconst 0, 1, (0, 0, 0, 0), (.int 0), [], 0, 0, []) := rfl
set_option maxRecDepth 100000 in
theorem f_205_769 : xfind (xnth xTs 205) 769 = some (769, .ireturn, 1, (1, 0, 0, 0), .null, [], 0, 0, []) := rfl
set_option maxRecDepth 100000 in
theorem f_205_770 : xfind (xnth xTs 205) 770 = some (770, .aload_n 1, 1, (0, 0, 0, 0), .null, [], 0, 0, []) := rfl
set_option maxRecDepth 100000 in
theorem f_205_771 : xfind (xnth xTs 205) 771 = some (771, .invokevirtual 114, 3, (114, 0, 8, 6), .null, [], 821, 0, []) := rfl
set_option maxRecDepth 100000 in
theorem f_205_774 : xfind (xnth xTs 205) 774 = some (774, .aload_n 2, 1, (0, 0, 0, 0), .null, [], 0, 0, []) := rfl
set_option maxRecDepth 100000 in
theorem f_205_775 : xfind (xnth xTs 205) 775 = some (775, .invokevirtual 117, 3, (194, 0, 9, 8), .null, [], 1237, 0, []) := rfl
set_option maxRecDepth 100000 in
theorem f_205_778 : xfind (xnth xTs 205) 778 = some (778, .if_icmp .eq 133, 3, (0, 0, 0, 0), .null, [], 0, 0, []) := rfl
set_option maxRecDepth 100000 in
theorem f_205_781 : xfind (xnth xTs 205) 781 = some (781, .iconst 0, 1, (0, 0, 0, 0), (.int 0), [], 0, 0, []) := rfl
set_option maxRecDepth 100000 in
theorem f_205_782 : xfind (xnth xTs 205) 782 = some (782, .ireturn, 1, (1, 0, 0, 0), .null, [], 0, 0, []) := rfl
set_option maxRecDepth 100000 in
theorem f_205_783 : xfind (xnth xTs 205) 783 = some (783, .aload_n 1, 1, (0, 0, 0, 0), .null, [], 0, 0, []) := rfl
set_option maxRecDepth 100000 in
theorem f_205_784 : xfind (xnth xTs 205) 784 = some (784, .aload_n 0, 1, (0, 0, 0, 0), .null, [], 0, 0, []) := rfl
set_option maxRecDepth 100000 in
theorem f_205_785 : xfind (xnth xTs 205) 785 = some (785, .iload_n 3, 1, (0, 0, 0, 0), .null, [], 0, 0, []) := rfl
set_option maxRecDepth 100000 in
theorem f_205_786 : xfind (xnth xTs 205) 786 = some (786, .iconst 1, 1, (0, 0, 0, 0), (.int 1), [], 0, 0, []) := rfl
set_option maxRecDepth 100000 in
theorem f_205_787 : xfind (xnth xTs 205) 787 = some (787, .iadd, 1, (0, 0, 0, 0), .null, [], 0, 0, []) := rfl
set_option maxRecDepth 100000 in
theorem f_205_788 : xfind (xnth xTs 205) 788 = some (788, .iaload, 1, (0, 0, 0, 0), .null, [], 0, 0, []) := rfl
set_option maxRecDepth 100000 in
theorem f_205_789 : xfind (xnth xTs 205) 789 = some (789, .aload_n 0, 1, (0, 0, 0, 0), .null, [], 0, 0, []) := rfl
set_option maxRecDepth 100000 in
theorem f_205_790 : xfind (xnth xTs 205) 790 = some (790, .iload_n 3, 1, (0, 0, 0, 0), .null, [], 0, 0, []) := rfl
set_option maxRecDepth 100000 in
theorem f_205_791 : xfind (xnth xTs 205) 791 = some (791, .iconst 2, 1, (0, 0, 0, 0), (.int 2), [], 0, 0, []) := rfl
set_option maxRecDepth 100000 in
theorem f_205_792 : xfind (xnth xTs 205) 792 = some (792, .iadd, 1, (0, 0, 0, 0), .null, [], 0, 0, []) := rfl
set_option maxRecDepth 100000 in
theorem f_205_793 : xfind (xnth xTs 205) 793 = some (793, .iaload, 1, (0, 0, 0, 0), .null, [], 0, 0, []) := rfl
set_option maxRecDepth 100000 in
theorem f_205_794 : xfind (xnth xTs 205) 794 = some (794, .invokevirtual 118, 3, (115, 2, 8, 3), .null, [], 832, 0, []) := rfl
set_option maxRecDepth 100000 in
theorem f_205_797 : xfind (xnth xTs 205) 797 = some (797, .aload_n 2, 1, (0, 0, 0, 0), .null, [], 0, 0, []) := rfl
set_option maxRecDepth 100000 in
theorem f_205_798 : xfind (xnth xTs 205) 798 = some (798, .aload_n 0, 1, (0, 0, 0, 0), .null, [], 0, 0, []) := rfl
set_option maxRecDepth 100000 in
theorem f_205_799 : xfind (xnth xTs 205) 799 = some (799, .iload_n 3, 1, (0, 0, 0, 0), .null, [], 0, 0, []) := rfl
set_option maxRecDepth 100000 in
theorem f_205_800 : xfind (xnth xTs 205) 800 = some (800, .iconst 1, 1, (0, 0, 0, 0), (.int 1), [], 0, 0, []) := rfl
set_option maxRecDepth 100000 in
theorem f_205_801 : xfind (xnth xTs 205) 801 = some (801, .iadd, 1, (0, 0, 0, 0), .null, [], 0, 0, []) := rfl
set_option maxRecDepth 100000 in
theorem f_205_802 : xfind (xnth xTs 205) 802 = some (802, .iaload, 1, (0, 0, 0, 0), .null, [], 0, 0, []) := rfl
set_option maxRecDepth 100000 in
theorem f_205_803 : xfind (xnth xTs 205) 803 = some (803, .aload_n 0, 1, (0, 0, 0, 0), .null, [], 0, 0, []) := rfl
set_option maxRecDepth 100000 in
theorem f_205_804 : xfind (xnth xTs 205) 804 = some (804, .iload_n 3, 1, (0, 0, 0, 0), .null, [], 0, 0, []) := rfl
set_option maxRecDepth 100000 in
theorem f_205_805 : xfind (xnth xTs 205) 805 = some (805, .iconst 2, 1, (0, 0, 0, 0), (.int 2), [], 0, 0, []) := rfl
set_option maxRecDepth 100000 in
theorem f_205_806 : xfind (xnth xTs 205) 806 = some (806, .iadd, 1, (0, 0, 0, 0), .null, [], 0, 0, []) := rfl
set_option maxRecDepth 100000 in
theorem f_205_807 : xfind (xnth xTs 205) 807 = some (807, .iaload, 1, (0, 0, 0, 0), .null, [], 0, 0, []) := rfl
set_option maxRecDepth 100000 in
theorem f_205_808 : xfind (xnth xTs 205) 808 = some (808, .invokevirtual 121, 3, (195, 2, 9, 3), .null, [], 1241, 0, []) := rfl
set_option maxRecDepth 100000 in
theorem f_205_811 : xfind (xnth xTs 205) 811 = some (811, .if_icmp .eq 100, 3, (0, 0, 0, 0), .null, [], 0, 0, []) := rfl
set_option maxRecDepth 100000 in
theorem f_205_814 : xfind (xnth xTs 205) 814 = some (814, .iconst 0, 1, (0, 0, 0, 0), (.int 0), [], 0, 0, []) := rfl
set_option maxRecDepth 100000 in
theorem f_205_815 : xfind (xnth xTs 205) 815 = some (815, .ireturn, 1, (1, 0, 0, 0), .null, [], 0, 0, []) := rfl
set_option maxRecDepth 100000 in
theorem f_205_816 : xfind (xnth xTs 205) 816 = some (816, .aload_n 1, 1, (0, 0, 0, 0), .null, [], 0, 0, []) := rfl
set_option maxRecDepth 100000 in
theorem f_205_817 : xfind (xnth xTs 205) 817 = some (817, .invokevirtual 122, 3, (116, 0, 8, 2), .null, [], 840, 0, []) := rfl
set_option maxRecDepth 100000 in
theorem f_205_820 : xfind (xnth xTs 205) 820 = some (820, .aload_n 2, 1, (0, 0, 0, 0), .null, [], 0, 0, []) := rfl
set_option maxRecDepth 100000 in
theorem f_205_821 : xfind (xnth xTs 205) 821 = some (821, .invokevirtual 125, 3, (196, 0, 9, 2), .null, [], 1245, 0, []) := rfl
set_option maxRecDepth 100000 in
theorem f_205_824 : xfind (xnth xTs 205) 824 = some (824, .if_icmp .eq 87, 3, (0, 0, 0, 0), .null, [], 0, 0, []) := rfl
set_option maxRecDepth 100000 in
theorem f_205_827 : xfind (xnth xTs 205) 827 = some (827, .iconst 0, 1, (0, 0, 0, 0), (.int 0), [], 0, 0, []) := rfl
set_option maxRecDepth 100000 in
theorem f_205_828 : xfind (xnth xTs 205) 828 = some (828, .ireturn, 1, (1, 0, 0, 0), .null, [], 0, 0, []) := rfl
set_option maxRecDepth 100000 in
theorem f_205_829 : xfind (xnth xTs 205) 829 = some (829, .aload_n 1, 1, (0, 0, 0, 0), .null, [], 0, 0, []) := rfl
set_option maxRecDepth 100000 in
theorem f_205_830 : xfind (xnth xTs 205) 830 = some (830, .invokevirtual 126, 3, (117, 0, 8, 1), .null, [], 844, 0, []) := rfl
set_option maxRecDepth 100000 in
theorem f_205_833 : xfind (xnth xTs 205) 833 = some (833, .aload_n 2, 1, (0, 0, 0, 0), .null, [], 0, 0, []) := rfl
set_option maxRecDepth 100000 in
theorem f_205_834 : xfind (xnth xTs 205) 834 = some (834, .invokevirtual 129, 3, (197, 0, 9, 2), .null, [], 1249, 0, []) := rfl
set_option maxRecDepth 100000 in
theorem f_205_837 : xfind (xnth xTs 205) 837 = some (837, .if_icmp .eq 74, 3, (0, 0, 0, 0), .null, [], 0, 0, []) := rfl
set_option maxRecDepth 100000 in
theorem f_205_840 : xfind (xnth xTs 205) 840 = some (840, .iconst 0, 1, (0, 0, 0, 0), (.int 0), [], 0, 0, []) := rfl
set_option maxRecDepth 100000 in
theorem f_205_841 : xfind (xnth xTs 205) 841 = some (841, .ireturn, 1, (1, 0, 0, 0), .null, [], 0, 0, []) := rfl
set_option maxRecDepth 100000 in
theorem f_205_842 : xfind (xnth xTs 205) 842 = some (842, .aload_n 1, 1, (0, 0, 0, 0), .null, [], 0, 0, []) := rfl
set_option maxRecDepth 100000 in
theorem f_205_843 : xfind (xnth xTs 205) 843 = some (843, .aload_n 0, 1, (0, 0, 0, 0), .null, [], 0, 0, []) := rfl
set_option maxRecDepth 100000 in
theorem f_205_844 : xfind (xnth xTs 205) 844 = some (844, .iload_n 3, 1, (0, 0, 0, 0), .null, [], 0, 0, []) := rfl
set_option maxRecDepth 100000 in
theorem f_205_845 : xfind (xnth xTs 205) 845 = some (845, .iconst 1, 1, (0, 0, 0, 0), (.int 1), [], 0, 0, []) := rfl
set_option maxRecDepth 100000 in
theorem f_205_846 : xfind (xnth xTs 205) 846 = some (846, .iadd, 1, (0, 0, 0, 0), .null, [], 0, 0, []) := rfl
set_option maxRecDepth 100000 in
theorem f_205_847 : xfind (xnth xTs 205) 847 = some (847, .iaload, 1, (0, 0, 0, 0), .null, [], 0, 0, []) := rfl
set_option maxRecDepth 100000 in
theorem f_205_848 : xfind (xnth xTs 205) 848 = some (848, .invokevirtual 130, 3, (118, 1, 8, 3), .null, [], 853, 0, []) := rfl
set_option maxRecDepth 100000 in
theorem f_205_851 : xfind (xnth xTs 205) 851 = some (851, .aload_n 2, 1, (0, 0, 0, 0), .null, [], 0, 0, []) := rfl
set_option maxRecDepth 100000 in
theorem f_205_852 : xfind (xnth xTs 205) 852 = some (852, .aload_n 0, 1, (0, 0, 0, 0), .null, [], 0, 0, []) := rfl
set_option maxRecDepth 100000 in
theorem f_205_853 : xfind (xnth xTs 205) 853 = some (853, .iload_n 3, 1, (0, 0, 0, 0), .null, [], 0, 0, []) := rfl
set_option maxRecDepth 100000 in
theorem f_205_854 : xfind (xnth xTs 205) 854 = some (854, .iconst 1, 1, (0, 0, 0, 0), (.int 1), [], 0, 0, []) := rfl
set_option maxRecDepth 100000 in
theorem f_205_855 : xfind (xnth xTs 205) 855 = some (855, .iadd, 1, (0, 0, 0, 0), .null, [], 0, 0, []) := rfl
set_option maxRecDepth 100000 in
theorem f_205_856 : xfind (xnth xTs 205) 856 = some (856, .iaload, 1, (0, 0, 0, 0), .null, [], 0, 0, []) := rfl
set_option maxRecDepth 100000 in
theorem f_205_857 : xfind (xnth xTs 205) 857 = some (857, .invokevirtual 133, 3, (198, 1, 9, 3), .null, [], 1253, 0, []) := rfl
set_option maxRecDepth 100000 in
theorem f_205_860 : xfind (xnth xTs 205) 860 = some (860, .if_icmp .eq 51, 3, (0, 0, 0, 0), .null, [], 0, 0, []) := rfl
set_option maxRecDepth 100000 in
theorem f_205_863 : xfind (xnth xTs 205) 863 = some (863, .iconst 0, 1, (0, 0, 0, 0), (.int 0), [], 0, 0, []) := rfl
set_option maxRecDepth 100000 in
theorem f_205_864 : xfind (xnth xTs 205) 864 = some (864, .ireturn, 1, (1, 0, 0, 0), .null, [], 0, 0, []) := rfl
set_option maxRecDepth 100000 in
theorem f_205_865 : xfind (xnth xTs 205) 865 = some (865, .aload_n 1, 1, (0, 0, 0, 0), .null, [], 0, 0, []) := rfl
set_option maxRecDepth 100000 in
theorem f_205_866 : xfind (xnth xTs 205) 866 = some (866, .aload_n 0, 1, (0, 0, 0, 0), .null, [], 0, 0, []) := rfl
set_option maxRecDepth 100000 in
theorem f_205_867 : xfind (xnth xTs 205) 867 = some (867, .iload_n 3, 1, (0, 0, 0, 0), .null, [], 0, 0, []) := rfl
set_option maxRecDepth 100000 in
theorem f_205_868 : xfind (xnth xTs 205) 868 = some (868, .iconst 1, 1, (0, 0, 0, 0), (.int 1), [], 0, 0, []) := rfl
set_option maxRecDepth 100000 in
theorem f_205_869 : xfind (xnth xTs 205) 869 = some (869, .iadd, 1, (0, 0, 0, 0), .null, [], 0, 0, []) := rfl
set_option maxRecDepth 100000 in
theorem f_205_870 : xfind (xnth xTs 205) 870 = some (870, .iaload, 1, (0, 0, 0, 0), .null, [], 0, 0, []) := rfl
set_option maxRecDepth 100000 in
theorem f_205_871 : xfind (xnth xTs 205) 871 = some (871, .invokevirtual 134, 3, (119, 1, 8, 2), .null, [], 857, 0, []) := rfl
set_option maxRecDepth 100000 in
theorem f_205_874 : xfind (xnth xTs 205) 874 = some (874, .aload_n 2, 1, (0, 0, 0, 0), .null, [], 0, 0, []) := rfl
set_option maxRecDepth 100000 in
theorem f_205_875 : xfind (xnth xTs 205) 875 = some (875, .aload_n 0, 1, (0, 0, 0, 0), .null, [], 0, 0, []) := rfl
set_option maxRecDepth 100000 in
theorem f_205_876 : xfind (xnth xTs 205) 876 = some (876, .iload_n 3, 1, (0, 0, 0, 0), .null, [], 0, 0, []) := rfl
set_option maxRecDepth 100000 in
theorem f_205_877 : xfind (xnth xTs 205) 877 = some (877, .iconst 1, 1, (0, 0, 0, 0), (.int 1), [], 0, 0, []) := rfl
set_option maxRecDepth 100000 in
theorem f_205_878 : xfind (xnth xTs 205) 878 = some (878, .iadd, 1, (0, 0, 0, 0), .null, [], 0, 0, []) := rfl
set_option maxRecDepth 100000 in
theorem f_205_879 : xfind (xnth xTs 205) 879 = some (879, .iaload, 1, (0, 0, 0, 0), .null, [], 0, 0, []) := rfl
set_option maxRecDepth 100000 in
theorem f_205_880 : xfind (xnth xTs 205) 880 = some (880, .invokevirtual 137, 3, (199, 1, 9, 2), .null, [], 1257, 0, []) := rfl
set_option maxRecDepth 100000 in
theorem f_205_883 : xfind (xnth xTs 205) 883 = some (883, .if_icmp .eq 28, 3, (0, 0, 0, 0), .null, [], 0, 0, []) := rfl
set_option maxRecDepth 100000 in
theorem f_205_886 : xfind (xnth xTs 205) 886 = some (886, .iconst 0, 1, (0, 0, 0, 0), (.int 0), [], 0, 0, []) := rfl
set_option maxRecDepth 100000 in
theorem f_205_887 : xfind (xnth xTs 205) 887 = some (887, .ireturn, 1, (1, 0, 0, 0), .null, [], 0, 0, []) := rfl
set_option maxRecDepth 100000 in
theorem f_205_888 : xfind (xnth xTs 205) 888 = some (888, .aload_n 1, 1, (0, 0, 0, 0), .null, [], 0, 0, []) := rfl
set_option maxRecDepth 100000 in
theorem f_205_889 : xfind (xnth xTs 205) 889 = some (889, .aload_n 0, 1, (0, 0, 0, 0), .null, [], 0, 0, []) := rfl
set_option maxRecDepth 100000 in
theorem f_205_890 : xfind (xnth xTs 205) 890 = some (890, .iload_n 3, 1, (0, 0, 0, 0), .null, [], 0, 0, []) := rfl
set_option maxRecDepth 100000 in
theorem f_205_891 : xfind (xnth xTs 205) 891 = some (891, .iconst 1, 1, (0, 0, 0, 0), (.int 1), [], 0, 0, []) := rfl
set_option maxRecDepth 100000 in
theorem f_205_892 : xfind (xnth xTs 205) 892 = some (892, .iadd, 1, (0, 0, 0, 0), .null, [], 0, 0, []) := rfl
set_option maxRecDepth 100000 in
theorem f_205_893 : xfind (xnth xTs 205) 893 = some (893, .iaload, 1, (0, 0, 0, 0), .null, [], 0, 0, []) := rfl
set_option maxRecDepth 100000 in
theorem f_205_894 : xfind (xnth xTs 205) 894 = some (894, .invokevirtual 138, 3, (120, 1, 8, 2), .null, [], 868, 0, []) := rfl
set_option maxRecDepth 100000 in
theorem f_205_897 : xfind (xnth xTs 205) 897 = some (897, .aload_n 2, 1, (0, 0, 0, 0), .null, [], 0, 0, []) := rfl
set_option maxRecDepth 100000 in
theorem f_205_898 : xfind (xnth xTs 205) 898 = some (898, .aload_n 0, 1, (0, 0, 0, 0), .null, [], 0, 0, []) := rfl
set_option maxRecDepth 100000 in
theorem f_205_899 : xfind (xnth xTs 205) 899 = some (899, .iload_n 3, 1, (0, 0, 0, 0), .null, [], 0, 0, []) := rfl
set_option maxRecDepth 100000 in
theorem f_205_900 : xfind (xnth xTs 205) 900 = some (900, .iconst 1, 1, (0, 0, 0, 0), (.int 1), [], 0, 0, []) := rfl
set_option maxRecDepth 100000 in
theorem f_205_901 : xfind (xnth xTs 205) 901 = some (901, .iadd, 1, (0, 0, 0, 0), .null, [], 0, 0, []) := rfl
set_option maxRecDepth 100000 in
theorem f_205_902 : xfind (xnth xTs 205) 902 = some (902, .iaload, 1, (0, 0, 0, 0), .null, [], 0, 0, []) := rfl
set_option maxRecDepth 100000 in
theorem f_205_903 : xfind (xnth xTs 205) 903 = some (903, .invokevirtual 141, 3, (200, 1, 9, 2), .null, [], 1261, 0, []) := rfl
set_option maxRecDepth 100000 in
theorem f_205_906 : xfind (xnth xTs 205) 906 = some (906, .if_icmp .eq 5, 3, (0, 0, 0, 0), .null, [], 0, 0, []) := rfl
set_option maxRecDepth 100000 in
theorem f_205_909 : xfind (xnth xTs 205) 909 = some (909, .iconst 0, 1, (0, 0, 0, 0), (.int 0), [], 0, 0, []) := rfl
set_option maxRecDepth 100000 in
theorem f_205_910 : xfind (xnth xTs 205) 910 = some (910, .ireturn, 1, (1, 0, 0, 0), .null, [], 0, 0, []) := rfl
set_option maxRecDepth 100000 in
theorem f_205_911 : xfind (xnth xTs 205) 911 = some (911, .iinc 3 4, 3, (0, 0, 0, 0), .null, [], 0, 0, []) := rfl
set_option maxRecDepth 100000 in
theorem f_205_914 : xfind (xnth xTs 205) 914 = some (914, .goto (-896), 3, (0, 0, 0, 0), .null, [], 0, 0, []) := rfl
set_option maxRecDepth 100000 in
theorem f_205_917 : xfind (xnth xTs 205) 917 = some (917, .iconst 1, 1, (0, 0, 0, 0), (.int 1), [], 0, 0, []) := rfl
set_option maxRecDepth 100000 in
theorem f_205_918 : xfind (xnth xTs 205) 918 = some (918, .ireturn, 1, (1, 0, 0, 0), .null, [], 0, 0, []) := rfl
set_option maxRecDepth 100000 in
theorem hd_205_18 : xhead 205 18 = some [] := rfl
set_option maxRecDepth 100000 in
theorem b_law_15 (sh : xSh) (M : Nat → Nat → Int32) (J : Nat → Nat → Int64) (l1 : Nat) (k0 : Nat) : ev (205, 15, [.retAddr 0, .ref l1, .null, .null], [.ref k0], (sh, M, J)) = (ev (205, 18, [.retAddr 0, .ref l1, .ref k0, .int 0], [], (sh, M, J))) := by
  refine ev_nx (s1 := (205, 16, [.retAddr 0, .ref l1, .ref k0, .null], [], (sh, M, J))) f_205_15 rfl ?_
  refine ev_nx (s1 := (205, 17, [.retAddr 0, .ref l1, .ref k0, .null], [.int 0], (sh, M, J))) f_205_16 rfl ?_
  refine ev_nx (s1 := (205, 18, [.retAddr 0, .ref l1, .ref k0, .int 0], [], (sh, M, J))) f_205_17 rfl ?_
  exact rfl
set_option maxRecDepth 100000 in
theorem b_law_18 (sh : xSh) (M : Nat → Nat → Int32) (J : Nat → Nat → Int64) (l1 : Nat) (l2 : Nat) (l3 : Int32) : ev (205, 18, [.retAddr 0, .ref l1, .ref l2, .int l3], [], (sh, M, J)) = (bif decide ((sh.2.2.1 0).1 = 12) then bif decide (((Int32.ofNat (sh.2.2.1 0).2) - 4) < l3) then some (some (.int 1), (sh, M, J)) else bif (decide ((sh.2.2.1 0).1 = 12) && xin l3 (sh.2.2.1 0).2) then if ((M 0 (l3 : Int32).toNatClampNeg) &&& 31) = 0 then bif (decide ((sh.2.2.1 0).1 = 12) && xin (l3 + 1) (sh.2.2.1 0).2) then bif (decide ((sh.2.2.1 l1).1 = 8) && true) then (ev (90, 0, [.ref l1, .int (M 0 ((l3 + 1) : Int32).toNatClampNeg)], [], (sh, M, J))).bind (fun r => ev (205, 181, [.retAddr 0, .ref l1, .ref l2, .int l3], r.1.toList ++ [], r.2)) else none else none else if ((M 0 (l3 : Int32).toNatClampNeg) &&& 31) = 1 then bif (decide ((sh.2.2.1 l1).1 = 8) && true) then (ev (91, 0, [.ref l1, .null], [], (sh, M, J))).bind (fun r => ev (205, 199, [.retAddr 0, .ref l1, .ref l2, .int l3], r.1.toList ++ [], r.2)) else none else if ((M 0 (l3 : Int32).toNatClampNeg) &&& 31) = 2 then bif (decide ((sh.2.2.1 l1).1 = 8) && true) then (ev (92, 0, [.ref l1], [], (sh, M, J))).bind (fun r => ev (205, 212, [.retAddr 0, .ref l1, .ref l2, .int l3], r.1.toList ++ [], r.2)) else none else if ((M 0 (l3 : Int32).toNatClampNeg) &&& 31) = 3 then bif (decide ((sh.2.2.1 0).1 = 12) && xin (l3 + 1) (sh.2.2.1 0).2) then bif (decide ((sh.2.2.1 l1).1 = 8) && true) then (ev (93, 0, [.ref l1, .int (M 0 ((l3 + 1) : Int32).toNatClampNeg)], [], (sh, M, J))).bind (fun r => ev (205, 230, [.retAddr 0, .ref l1, .ref l2, .int l3], r.1.toList ++ [], r.2)) else none else none else if ((M 0 (l3 : Int32).toNatClampNeg) &&& 31) = 4 then bif (decide ((sh.2.2.1 0).1 = 12) && xin (l3 + 1) (sh.2.2.1 0).2) then bif (decide ((sh.2.2.1 0).1 = 12) && xin (l3 + 2) (sh.2.2.1 0).2) then bif (decide ((sh.2.2.1 l1).1 = 8) && true) then (ev (94, 0, [.ref l1, .int (M 0 ((l3 + 1) : Int32).toNatClampNeg), .int (M 0 ((l3 + 2) : Int32).toNatClampNeg)], [], (sh, M, J))).bind (fun r => ev (205, 258, [.retAddr 0, .ref l1, .ref l2, .int l3], r.1.toList ++ [], r.2)) else none else none else none else if ((M 0 (l3 : Int32).toNatClampNeg) &&& 31) = 5 then bif (decide ((sh.2.2.1 0).1 = 12) && xin (l3 + 1) (sh.2.2.1 0).2) then bif (decide ((sh.2.2.1 0).1 = 12) && xin (l3 + 2) (sh.2.2.1 0).2) then bif (decide ((sh.2.2.1 l1).1 = 8) && true) then (ev (95, 0, [.ref l1, .int (M 0 ((l3 + 1) : Int32).toNatClampNeg), .int (M 0 ((l3 + 2) : Int32).toNatClampNeg)], [], (sh, M, J))).bind (fun r => ev (205, 291, [.retAddr 0, .ref l1, .ref l2, .int l3], r.1.toList ++ [], r.2)) else none else none else none else if ((M 0 (l3 : Int32).toNatClampNeg) &&& 31) = 6 then bif (decide ((sh.2.2.1 0).1 = 12) && xin (l3 + 1) (sh.2.2.1 0).2) then bif (decide ((sh.2.2.1 0).1 = 12) && xin (l3 + 2) (sh.2.2.1 0).2) then bif (decide ((sh.2.2.1 l1).1 = 8) && true) then (ev (96, 0, [.ref l1, .int (M 0 ((l3 + 1) : Int32).toNatClampNeg), .int (M 0 ((l3 + 2) : Int32).toNatClampNeg)], [], (sh, M, J))).bind (fun r => ev (205, 324, [.retAddr 0, .ref l1, .ref l2, .int l3], r.1.toList ++ [], r.2)) else none else none else none else if ((M 0 (l3 : Int32).toNatClampNeg) &&& 31) = 7 then bif (decide ((sh.2.2.1 0).1 = 12) && xin (l3 + 1) (sh.2.2.1 0).2) then bif (decide ((sh.2.2.1 l1).1 = 8) && true) then (ev (97, 0, [.ref l1, .int (M 0 ((l3 + 1) : Int32).toNatClampNeg), .null, .null, .null], [], (sh, M, J))).bind (fun r => ev (205, 352, [.retAddr 0, .ref l1, .ref l2, .int l3], r.1.toList ++ [], r.2)) else none else none else if ((M 0 (l3 : Int32).toNatClampNeg) &&& 31) = 8 then bif (decide ((sh.2.2.1 0).1 = 12) && xin (l3 + 1) (sh.2.2.1 0).2) then bif (decide ((sh.2.2.1 l1).1 = 8) && true) then (ev (98, 0, [.ref l1, .int (M 0 ((l3 + 1) : Int32).toNatClampNeg)], [], (sh, M, J))).bind (fun r => ev (205, 375, [.retAddr 0, .ref l1, .ref l2, .int l3], r.1.toList ++ [], r.2)) else none else none else if ((M 0 (l3 : Int32).toNatClampNeg) &&& 31) = 9 then bif (decide ((sh.2.2.1 0).1 = 12) && xin (l3 + 1) (sh.2.2.1 0).2) then bif (decide ((sh.2.2.1 0).1 = 12) && xin (l3 + 2) (sh.2.2.1 0).2) then bif (decide ((sh.2.2.1 l1).1 = 8) && true) then (ev (99, 0, [.ref l1, .int (M 0 ((l3 + 1) : Int32).toNatClampNeg), .int (M 0 ((l3 + 2) : Int32).toNatClampNeg), .null], [], (sh, M, J))).bind (fun r => ev (205, 403, [.retAddr 0, .ref l1, .ref l2, .int l3], r.1.toList ++ [], r.2)) else none else none else none else if ((M 0 (l3 : Int32).toNatClampNeg) &&& 31) = 10 then bif (decide ((sh.2.2.1 0).1 = 12) && xin (l3 + 1) (sh.2.2.1 0).2) then bif (decide ((sh.2.2.1 0).1 = 12) && xin (l3 + 2) (sh.2.2.1 0).2) then bif (decide ((sh.2.2.1 0).1 = 12) && xin (l3 + 3) (sh.2.2.1 0).2) then bif (decide ((sh.2.2.1 l1).1 = 8) && true) then (ev (100, 0, [.ref l1, .int (M 0 ((l3 + 1) : Int32).toNatClampNeg), .int (M 0 ((l3 + 2) : Int32).toNatClampNeg), .int (M 0 ((l3 + 3) : Int32).toNatClampNeg), .null], [], (sh, M, J))).bind (fun r => ev (205, 441, [.retAddr 0, .ref l1, .ref l2, .int l3], r.1.toList ++ [], r.2)) else none else none else none else none else if ((M 0 (l3 : Int32).toNatClampNeg) &&& 31) = 11 then bif (decide ((sh.2.2.1 0).1 = 12) && xin (l3 + 1) (sh.2.2.1 0).2) then bif (decide ((sh.2.2.1 l1).1 = 8) && true) then (ev (101, 0, [.ref l1, .int (M 0 ((l3 + 1) : Int32).toNatClampNeg), .null, .null], [], (sh, M, J))).bind (fun r => ev (205, 474, [.retAddr 0, .ref l1, .ref l2, .int l3], r.1.toList ++ [], r.2)) else none else none else if ((M 0 (l3 : Int32).toNatClampNeg) &&& 31) = 12 then bif (decide ((sh.2.2.1 l1).1 = 8) && true) then (ev (102, 0, [.ref l1], [], (sh, M, J))).bind (fun r => ev (205, 492, [.retAddr 0, .ref l1, .ref l2, .int l3], r.1.toList ++ [], r.2)) else none else if ((M 0 (l3 : Int32).toNatClampNeg) &&& 31) = 13 then bif (decide ((sh.2.2.1 0).1 = 12) && xin (l3 + 1) (sh.2.2.1 0).2) then bif (decide ((sh.2.2.1 l1).1 = 8) && true) then (ev (103, 0, [.ref l1, .int (M 0 ((l3 + 1) : Int32).toNatClampNeg), .null], [], (sh, M, J))).bind (fun r => ev (205, 510, [.retAddr 0, .ref l1, .ref l2, .int l3], r.1.toList ++ [], r.2)) else none else none else if ((M 0 (l3 : Int32).toNatClampNeg) &&& 31) = 14 then bif (decide ((sh.2.2.1 l1).1 = 8) && true) then (ev (104, 0, [.ref l1, .null], [], (sh, M, J))).bind (fun r => ev (205, 528, [.retAddr 0, .ref l1, .ref l2, .int l3], r.1.toList ++ [], r.2)) else none else if ((M 0 (l3 : Int32).toNatClampNeg) &&& 31) = 15 then bif (decide ((sh.2.2.1 0).1 = 12) && xin (l3 + 1) (sh.2.2.1 0).2) then bif (decide ((sh.2.2.1 0).1 = 12) && xin (l3 + 2) (sh.2.2.1 0).2) then bif (decide ((sh.2.2.1 0).1 = 12) && xin (l3 + 3) (sh.2.2.1 0).2) then bif (decide ((sh.2.2.1 l1).1 = 8) && true) then (ev (105, 0, [.ref l1, .int (M 0 ((l3 + 1) : Int32).toNatClampNeg), .int (M 0 ((l3 + 2) : Int32).toNatClampNeg), .int (M 0 ((l3 + 3) : Int32).toNatClampNeg)], [], (sh, M, J))).bind (fun r => ev (205, 556, [.retAddr 0, .ref l1, .ref l2, .int l3], r.1.toList ++ [], r.2)) else none else none else none else none else if ((M 0 (l3 : Int32).toNatClampNeg) &&& 31) = 16 then bif (decide ((sh.2.2.1 l1).1 = 8) && true) then (ev (106, 0, [.ref l1, .null, .null, .null], [], (sh, M, J))).bind (fun r => ev (205, 584, [.retAddr 0, .ref l1, .ref l2, .int l3], r.1.toList ++ [], r.2)) else none else if ((M 0 (l3 : Int32).toNatClampNeg) &&& 31) = 17 then bif (decide ((sh.2.2.1 l1).1 = 8) && true) then (ev (107, 0, [.ref l1, .null, .null], [], (sh, M, J))).bind (fun r => ev (205, 597, [.retAddr 0, .ref l1, .ref l2, .int l3], r.1.toList ++ [], r.2)) else none else if ((M 0 (l3 : Int32).toNatClampNeg) &&& 31) = 18 then bif (decide ((sh.2.2.1 0).1 = 12) && xin (l3 + 1) (sh.2.2.1 0).2) then bif (decide ((sh.2.2.1 l1).1 = 8) && true) then (ev (108, 0, [.ref l1, .int (M 0 ((l3 + 1) : Int32).toNatClampNeg)], [], (sh, M, J))).bind (fun r => ev (205, 615, [.retAddr 0, .ref l1, .ref l2, .int l3], r.1.toList ++ [], r.2)) else none else none else if ((M 0 (l3 : Int32).toNatClampNeg) &&& 31) = 19 then bif (decide ((sh.2.2.1 0).1 = 12) && xin (l3 + 1) (sh.2.2.1 0).2) then bif (decide ((sh.2.2.1 0).1 = 12) && xin (l3 + 2) (sh.2.2.1 0).2) then bif (decide ((sh.2.2.1 l1).1 = 8) && true) then (ev (109, 0, [.ref l1, .int (M 0 ((l3 + 1) : Int32).toNatClampNeg), .int (M 0 ((l3 + 2) : Int32).toNatClampNeg), .null, .null, .null], [], (sh, M, J))).bind (fun r => ev (205, 643, [.retAddr 0, .ref l1, .ref l2, .int l3], r.1.toList ++ [], r.2)) else none else none else none else if ((M 0 (l3 : Int32).toNatClampNeg) &&& 31) = 20 then bif (decide ((sh.2.2.1 l1).1 = 8) && true) then (ev (110, 0, [.ref l1, .null, .null, .null, .null], [], (sh, M, J))).bind (fun r => ev (205, 666, [.retAddr 0, .ref l1, .ref l2, .int l3], r.1.toList ++ [], r.2)) else none else if ((M 0 (l3 : Int32).toNatClampNeg) &&& 31) = 21 then bif (decide ((sh.2.2.1 0).1 = 12) && xin (l3 + 1) (sh.2.2.1 0).2) then bif (decide ((sh.2.2.1 0).1 = 12) && xin (l3 + 2) (sh.2.2.1 0).2) then bif (decide ((sh.2.2.1 l1).1 = 8) && true) then (ev (111, 0, [.ref l1, .int (M 0 ((l3 + 1) : Int32).toNatClampNeg), .int (M 0 ((l3 + 2) : Int32).toNatClampNeg), .null, .null, .null], [], (sh, M, J))).bind (fun r => ev (205, 689, [.retAddr 0, .ref l1, .ref l2, .int l3], r.1.toList ++ [], r.2)) else none else none else none else if ((M 0 (l3 : Int32).toNatClampNeg) &&& 31) = 22 then bif (decide ((sh.2.2.1 0).1 = 12) && xin (l3 + 1) (sh.2.2.1 0).2) then bif (decide ((sh.2.2.1 0).1 = 12) && xin (l3 + 2) (sh.2.2.1 0).2) then bif decide ((M 0 ((l3 + 2) : Int32).toNatClampNeg) = 0) then bif (decide ((sh.2.2.1 l1).1 = 8) && true) then (ev (112, 0, [.ref l1, .int (M 0 ((l3 + 1) : Int32).toNatClampNeg), .int 0], [], (sh, M, J))).bind (fun r => ev (205, 730, [.retAddr 0, .ref l1, .ref l2, .int l3], r.1.toList ++ [], r.2)) else none else bif (decide ((sh.2.2.1 l1).1 = 8) && true) then (ev (112, 0, [.ref l1, .int (M 0 ((l3 + 1) : Int32).toNatClampNeg), .int 1], [], (sh, M, J))).bind (fun r => ev (205, 730, [.retAddr 0, .ref l1, .ref l2, .int l3], r.1.toList ++ [], r.2)) else none else none else none else if ((M 0 (l3 : Int32).toNatClampNeg) &&& 31) = 23 then bif (decide ((sh.2.2.1 l1).1 = 8) && true) then (ev (113, 0, [.ref l1, .null, .null], [], (sh, M, J))).bind (fun r => ev (205, 761, [.retAddr 0, .ref l1, .ref l2, .int l3], r.1.toList ++ [], r.2)) else none else if ((M 0 (l3 : Int32).toNatClampNeg) &&& 31) = 24 then bif (decide ((sh.2.2.1 l1).1 = 8) && true) then (ev (114, 0, [.ref l1, .null, .null, .null, .null, .null], [], (sh, M, J))).bind (fun r => ev (205, 774, [.retAddr 0, .ref l1, .ref l2, .int l3], r.1.toList ++ [], r.2)) else none else if ((M 0 (l3 : Int32).toNatClampNeg) &&& 31) = 25 then bif (decide ((sh.2.2.1 0).1 = 12) && xin (l3 + 1) (sh.2.2.1 0).2) then bif (decide ((sh.2.2.1 0).1 = 12) && xin (l3 + 2) (sh.2.2.1 0).2) then bif (decide ((sh.2.2.1 l1).1 = 8) && true) then (ev (115, 0, [.ref l1, .int (M 0 ((l3 + 1) : Int32).toNatClampNeg), .int (M 0 ((l3 + 2) : Int32).toNatClampNeg)], [], (sh, M, J))).bind (fun r => ev (205, 797, [.retAddr 0, .ref l1, .ref l2, .int l3], r.1.toList ++ [], r.2)) else none else none else none else if ((M 0 (l3 : Int32).toNatClampNeg) &&& 31) = 26 then bif (decide ((sh.2.2.1 l1).1 = 8) && true) then (ev (116, 0, [.ref l1, .null], [], (sh, M, J))).bind (fun r => ev (205, 820, [.retAddr 0, .ref l1, .ref l2, .int l3], r.1.toList ++ [], r.2)) else none else if ((M 0 (l3 : Int32).toNatClampNeg) &&& 31) = 27 then bif (decide ((sh.2.2.1 l1).1 = 8) && true) then (ev (117, 0, [.ref l1], [], (sh, M, J))).bind (fun r => ev (205, 833, [.retAddr 0, .ref l1, .ref l2, .int l3], r.1.toList ++ [], r.2)) else none else if ((M 0 (l3 : Int32).toNatClampNeg) &&& 31) = 28 then bif (decide ((sh.2.2.1 0).1 = 12) && xin (l3 + 1) (sh.2.2.1 0).2) then bif (decide ((sh.2.2.1 l1).1 = 8) && true) then (ev (118, 0, [.ref l1, .int (M 0 ((l3 + 1) : Int32).toNatClampNeg), .null], [], (sh, M, J))).bind (fun r => ev (205, 851, [.retAddr 0, .ref l1, .ref l2, .int l3], r.1.toList ++ [], r.2)) else none else none else if ((M 0 (l3 : Int32).toNatClampNeg) &&& 31) = 29 then bif (decide ((sh.2.2.1 0).1 = 12) && xin (l3 + 1) (sh.2.2.1 0).2) then bif (decide ((sh.2.2.1 l1).1 = 8) && true) then (ev (119, 0, [.ref l1, .int (M 0 ((l3 + 1) : Int32).toNatClampNeg)], [], (sh, M, J))).bind (fun r => ev (205, 874, [.retAddr 0, .ref l1, .ref l2, .int l3], r.1.toList ++ [], r.2)) else none else none else if ((M 0 (l3 : Int32).toNatClampNeg) &&& 31) = 30 then bif (decide ((sh.2.2.1 0).1 = 12) && xin (l3 + 1) (sh.2.2.1 0).2) then bif (decide ((sh.2.2.1 l1).1 = 8) && true) then (ev (120, 0, [.ref l1, .int (M 0 ((l3 + 1) : Int32).toNatClampNeg)], [], (sh, M, J))).bind (fun r => ev (205, 897, [.retAddr 0, .ref l1, .ref l2, .int l3], r.1.toList ++ [], r.2)) else none else none else ev (205, 18, [.retAddr 0, .ref l1, .ref l2, .int (l3 + 4)], [], (sh, M, J)) else none else none) := by
  refine ev_nx (s1 := (205, 19, [.retAddr 0, .ref l1, .ref l2, .int l3], [.int l3], (sh, M, J))) f_205_18 rfl ?_
  refine ev_nx (s1 := (205, 20, [.retAddr 0, .ref l1, .ref l2, .int l3], [.retAddr 0, .int l3], (sh, M, J))) f_205_19 rfl ?_
  refine ev_gd (s1 := (205, 21, [.retAddr 0, .ref l1, .ref l2, .int l3], [.int (Int32.ofNat (sh.2.2.1 0).2), .int l3], (sh, M, J))) f_205_20 rfl ?_
  refine ev_nx (s1 := (205, 22, [.retAddr 0, .ref l1, .ref l2, .int l3], [.int 4, .int (Int32.ofNat (sh.2.2.1 0).2), .int l3], (sh, M, J))) f_205_21 rfl ?_
  refine ev_nx (s1 := (205, 23, [.retAddr 0, .ref l1, .ref l2, .int l3], [.int ((Int32.ofNat (sh.2.2.1 0).2) - 4), .int l3], (sh, M, J))) f_205_22 rfl ?_
  refine ev_br (s1 := (205, 917, [.retAddr 0, .ref l1, .ref l2, .int l3], [], (sh, M, J))) (s2 := (205, 26, [.retAddr 0, .ref l1, .ref l2, .int l3], [], (sh, M, J))) f_205_23 rfl ?_ ?_
  · refine ev_nx (s1 := (205, 918, [.retAddr 0, .ref l1, .ref l2, .int l3], [.int 1], (sh, M, J))) f_205_917 rfl ?_
    exact ev_r1 f_205_918 rfl
  · refine ev_nx (s1 := (205, 27, [.retAddr 0, .ref l1, .ref l2, .int l3], [.retAddr 0], (sh, M, J))) f_205_26 rfl ?_
    refine ev_nx (s1 := (205, 28, [.retAddr 0, .ref l1, .ref l2, .int l3], [.int l3, .retAddr 0], (sh, M, J))) f_205_27 rfl ?_
    refine ev_gd (s1 := (205, 29, [.retAddr 0, .ref l1, .ref l2, .int l3], [.int (M 0 (l3 : Int32).toNatClampNeg)], (sh, M, J))) f_205_28 rfl ?_
    refine ev_nx (s1 := (205, 31, [.retAddr 0, .ref l1, .ref l2, .int l3], [.int 31, .int (M 0 (l3 : Int32).toNatClampNeg)], (sh, M, J))) f_205_29 rfl ?_
    refine ev_nx (s1 := (205, 32, [.retAddr 0, .ref l1, .ref l2, .int l3], [.int ((M 0 (l3 : Int32).toNatClampNeg) &&& 31)], (sh, M, J))) f_205_31 rfl ?_
    refine ev_sw f_205_32 rfl ?_
    refine ev_swc ?_ ?_
    · refine ev_nx (s1 := (205, 173, [.retAddr 0, .ref l1, .ref l2, .int l3], [.ref l1], (sh, M, J))) f_205_172 rfl ?_
      refine ev_nx (s1 := (205, 174, [.retAddr 0, .ref l1, .ref l2, .int l3], [.retAddr 0, .ref l1], (sh, M, J))) f_205_173 rfl ?_
      refine ev_nx (s1 := (205, 175, [.retAddr 0, .ref l1, .ref l2, .int l3], [.int l3, .retAddr 0, .ref l1], (sh, M, J))) f_205_174 rfl ?_
      refine ev_nx (s1 := (205, 176, [.retAddr 0, .ref l1, .ref l2, .int l3], [.int 1, .int l3, .retAddr 0, .ref l1], (sh, M, J))) f_205_175 rfl ?_
      refine ev_nx (s1 := (205, 177, [.retAddr 0, .ref l1, .ref l2, .int l3], [.int (l3 + 1), .retAddr 0, .ref l1], (sh, M, J))) f_205_176 rfl ?_
      refine ev_gd (s1 := (205, 178, [.retAddr 0, .ref l1, .ref l2, .int l3], [.int (M 0 ((l3 + 1) : Int32).toNatClampNeg), .ref l1], (sh, M, J))) f_205_177 rfl ?_
      exact ev_ca (cc := (decide ((sh.2.2.1 l1).1 = 8) && true)) (s1 := (90, 0, [.ref l1, .int (M 0 ((l3 + 1) : Int32).toNatClampNeg)], [], (sh, M, J))) (k := (205, 181, [.retAddr 0, .ref l1, .ref l2, .int l3], [])) f_205_178 rfl
    refine ev_swc ?_ ?_
    · refine ev_nx (s1 := (205, 196, [.retAddr 0, .ref l1, .ref l2, .int l3], [.ref l1], (sh, M, J))) f_205_195 rfl ?_
      exact ev_ca (cc := (decide ((sh.2.2.1 l1).1 = 8) && true)) (s1 := (91, 0, [.ref l1, .null], [], (sh, M, J))) (k := (205, 199, [.retAddr 0, .ref l1, .ref l2, .int l3], [])) f_205_196 rfl
    refine ev_swc ?_ ?_
    · refine ev_nx (s1 := (205, 209, [.retAddr 0, .ref l1, .ref l2, .int l3], [.ref l1], (sh, M, J))) f_205_208 rfl ?_
      exact ev_ca (cc := (decide ((sh.2.2.1 l1).1 = 8) && true)) (s1 := (92, 0, [.ref l1], [], (sh, M, J))) (k := (205, 212, [.retAddr 0, .ref l1, .ref l2, .int l3], [])) f_205_209 rfl
    refine ev_swc ?_ ?_
    · refine ev_nx (s1 := (205, 222, [.retAddr 0, .ref l1, .ref l2, .int l3], [.ref l1], (sh, M, J))) f_205_221 rfl ?_
      refine ev_nx (s1 := (205, 223, [.retAddr 0, .ref l1, .ref l2, .int l3], [.retAddr 0, .ref l1], (sh, M, J))) f_205_222 rfl ?_
      refine ev_nx (s1 := (205, 224, [.retAddr 0, .ref l1, .ref l2, .int l3], [.int l3, .retAddr 0, .ref l1], (sh, M, J))) f_205_223 rfl ?_
      refine ev_nx (s1 := (205, 225, [.retAddr 0, .ref l1, .ref l2, .int l3], [.int 1, .int l3, .retAddr 0, .ref l1], (sh, M, J))) f_205_224 rfl ?_
      refine ev_nx (s1 := (205, 226, [.retAddr 0, .ref l1, .ref l2, .int l3], [.int (l3 + 1), .retAddr 0, .ref l1], (sh, M, J))) f_205_225 rfl ?_
      refine ev_gd (s1 := (205, 227, [.retAddr 0, .ref l1, .ref l2, .int l3], [.int (M 0 ((l3 + 1) : Int32).toNatClampNeg), .ref l1], (sh, M, J))) f_205_226 rfl ?_
      exact ev_ca (cc := (decide ((sh.2.2.1 l1).1 = 8) && true)) (s1 := (93, 0, [.ref l1, .int (M 0 ((l3 + 1) : Int32).toNatClampNeg)], [], (sh, M, J))) (k := (205, 230, [.retAddr 0, .ref l1, .ref l2, .int l3], [])) f_205_227 rfl
    refine ev_swc ?_ ?_
    · refine ev_nx (s1 := (205, 245, [.retAddr 0, .ref l1, .ref l2, .int l3], [.ref l1], (sh, M, J))) f_205_244 rfl ?_
      refine ev_nx (s1 := (205, 246, [.retAddr 0, .ref l1, .ref l2, .int l3], [.retAddr 0, .ref l1], (sh, M, J))) f_205_245 rfl ?_
      refine ev_nx (s1 := (205, 247, [.retAddr 0, .ref l1, .ref l2, .int l3], [.int l3, .retAddr 0, .ref l1], (sh, M, J))) f_205_246 rfl ?_
      refine ev_nx (s1 := (205, 248, [.retAddr 0, .ref l1, .ref l2, .int l3], [.int 1, .int l3, .retAddr 0, .ref l1], (sh, M, J))) f_205_247 rfl ?_
      refine ev_nx (s1 := (205, 249, [.retAddr 0, .ref l1, .ref l2, .int l3], [.int (l3 + 1), .retAddr 0, .ref l1], (sh, M, J))) f_205_248 rfl ?_
      refine ev_gd (s1 := (205, 250, [.retAddr 0, .ref l1, .ref l2, .int l3], [.int (M 0 ((l3 + 1) : Int32).toNatClampNeg), .ref l1], (sh, M, J))) f_205_249 rfl ?_
      refine ev_nx (s1 := (205, 251, [.retAddr 0, .ref l1, .ref l2, .int l3], [.retAddr 0, .int (M 0 ((l3 + 1) : Int32).toNatClampNeg), .ref l1], (sh, M, J))) f_205_250 rfl ?_
      refine ev_nx (s1 := (205, 252, [.retAddr 0, .ref l1, .ref l2, .int l3], [.int l3, .retAddr 0, .int (M 0 ((l3 + 1) : Int32).toNatClampNeg), .ref l1], (sh, M, J))) f_205_251 rfl ?_
      refine ev_nx (s1 := (205, 253, [.retAddr 0, .ref l1, .ref l2, .int l3], [.int 2, .int l3, .retAddr 0, .int (M 0 ((l3 + 1) : Int32).toNatClampNeg), .ref l1], (sh, M, J))) f_205_252 rfl ?_
      refine ev_nx (s1 := (205, 254, [.retAddr 0, .ref l1, .ref l2, .int l3], [.int (l3 + 2), .retAddr 0, .int (M 0 ((l3 + 1) : Int32).toNatClampNeg), .ref l1], (sh, M, J))) f_205_253 rfl ?_
      refine ev_gd (s1 := (205, 255, [.retAddr 0, .ref l1, .ref l2, .int l3], [.int (M 0 ((l3 + 2) : Int32).toNatClampNeg), .int (M 0 ((l3 + 1) : Int32).toNatClampNeg), .ref l1], (sh, M, J))) f_205_254 rfl ?_
      exact ev_ca (cc := (decide ((sh.2.2.1 l1).1 = 8) && true)) (s1 := (94, 0, [.ref l1, .int (M 0 ((l3 + 1) : Int32).toNatClampNeg), .int (M 0 ((l3 + 2) : Int32).toNatClampNeg)], [], (sh, M, J))) (k := (205, 258, [.retAddr 0, .ref l1, .ref l2, .int l3], [])) f_205_255 rfl
    refine ev_swc ?_ ?_
    · refine ev_nx (s1 := (205, 278, [.retAddr 0, .ref l1, .ref l2, .int l3], [.ref l1], (sh, M, J))) f_205_277 rfl ?_
      refine ev_nx (s1 := (205, 279, [.retAddr 0, .ref l1, .ref l2, .int l3], [.retAddr 0, .ref l1], (sh, M, J))) f_205_278 rfl ?_
      refine ev_nx (s1 := (205, 280, [.retAddr 0, .ref l1, .ref l2, .int l3], [.int l3, .retAddr 0, .ref l1], (sh, M, J))) f_205_279 rfl ?_
      refine ev_nx (s1 := (205, 281, [.retAddr 0, .ref l1, .ref l2, .int l3], [.int 1, .int l3, .retAddr 0, .ref l1], (sh, M, J))) f_205_280 rfl ?_
      refine ev_nx (s1 := (205, 282, [.retAddr 0, .ref l1, .ref l2, .int l3], [.int (l3 + 1), .retAddr 0, .ref l1], (sh, M, J))) f_205_281 rfl ?_
      refine ev_gd (s1 := (205, 283, [.retAddr 0, .ref l1, .ref l2, .int l3], [.int (M 0 ((l3 + 1) : Int32).toNatClampNeg), .ref l1], (sh, M, J))) f_205_282 rfl ?_
      refine ev_nx (s1 := (205, 284, [.retAddr 0, .ref l1, .ref l2, .int l3], [.retAddr 0, .int (M 0 ((l3 + 1) : Int32).toNatClampNeg), .ref l1], (sh, M, J))) f_205_283 rfl ?_
      refine ev_nx (s1 := (205, 285, [.retAddr 0, .ref l1, .ref l2, .int l3], [.int l3, .retAddr 0, .int (M 0 ((l3 + 1) : Int32).toNatClampNeg), .ref l1], (sh, M, J))) f_205_284 rfl ?_
      refine ev_nx (s1 := (205, 286, [.retAddr 0, .ref l1, .ref l2, .int l3], [.int 2, .int l3, .retAddr 0, .int (M 0 ((l3 + 1) : Int32).toNatClampNeg), .ref l1], (sh, M, J))) f_205_285 rfl ?_
      refine ev_nx (s1 := (205, 287, [.retAddr 0, .ref l1, .ref l2, .int l3], [.int (l3 + 2), .retAddr 0, .int (M 0 ((l3 + 1) : Int32).toNatClampNeg), .ref l1], (sh, M, J))) f_205_286 rfl ?_
      refine ev_gd (s1 := (205, 288, [.retAddr 0, .ref l1, .ref l2, .int l3], [.int (M 0 ((l3 + 2) : Int32).toNatClampNeg), .int (M 0 ((l3 + 1) : Int32).toNatClampNeg), .ref l1], (sh, M, J))) f_205_287 rfl ?_
      exact ev_ca (cc := (decide ((sh.2.2.1 l1).1 = 8) && true)) (s1 := (95, 0, [.ref l1, .int (M 0 ((l3 + 1) : Int32).toNatClampNeg), .int (M 0 ((l3 + 2) : Int32).toNatClampNeg)], [], (sh, M, J))) (k := (205, 291, [.retAddr 0, .ref l1, .ref l2, .int l3], [])) f_205_288 rfl
    refine ev_swc ?_ ?_
    · refine ev_nx (s1 := (205, 311, [.retAddr 0, .ref l1, .ref l2, .int l3], [.ref l1], (sh, M, J))) f_205_310 rfl ?_
      refine ev_nx (s1 := (205, 312, [.retAddr 0, .ref l1, .ref l2, .int l3], [.retAddr 0, .ref l1], (sh, M, J))) f_205_311 rfl ?_
      refine ev_nx (s1 := (205, 313, [.retAddr 0, .ref l1, .ref l2, .int l3], [.int l3, .retAddr 0, .ref l1], (sh, M, J))) f_205_312 rfl ?_
      refine ev_nx (s1 := (205, 314, [.retAddr 0, .ref l1, .ref l2, .int l3], [.int 1, .int l3, .retAddr 0, .ref l1], (sh, M, J))) f_205_313 rfl ?_
      refine ev_nx (s1 := (205, 315, [.retAddr 0, .ref l1, .ref l2, .int l3], [.int (l3 + 1), .retAddr 0, .ref l1], (sh, M, J))) f_205_314 rfl ?_
      refine ev_gd (s1 := (205, 316, [.retAddr 0, .ref l1, .ref l2, .int l3], [.int (M 0 ((l3 + 1) : Int32).toNatClampNeg), .ref l1], (sh, M, J))) f_205_315 rfl ?_
      refine ev_nx (s1 := (205, 317, [.retAddr 0, .ref l1, .ref l2, .int l3], [.retAddr 0, .int (M 0 ((l3 + 1) : Int32).toNatClampNeg), .ref l1], (sh, M, J))) f_205_316 rfl ?_
      refine ev_nx (s1 := (205, 318, [.retAddr 0, .ref l1, .ref l2, .int l3], [.int l3, .retAddr 0, .int (M 0 ((l3 + 1) : Int32).toNatClampNeg), .ref l1], (sh, M, J))) f_205_317 rfl ?_
      refine ev_nx (s1 := (205, 319, [.retAddr 0, .ref l1, .ref l2, .int l3], [.int 2, .int l3, .retAddr 0, .int (M 0 ((l3 + 1) : Int32).toNatClampNeg), .ref l1], (sh, M, J))) f_205_318 rfl ?_
      refine ev_nx (s1 := (205, 320, [.retAddr 0, .ref l1, .ref l2, .int l3], [.int (l3 + 2), .retAddr 0, .int (M 0 ((l3 + 1) : Int32).toNatClampNeg), .ref l1], (sh, M, J))) f_205_319 rfl ?_
      refine ev_gd (s1 := (205, 321, [.retAddr 0, .ref l1, .ref l2, .int l3], [.int (M 0 ((l3 + 2) : Int32).toNatClampNeg), .int (M 0 ((l3 + 1) : Int32).toNatClampNeg), .ref l1], (sh, M, J))) f_205_320 rfl ?_
      exact ev_ca (cc := (decide ((sh.2.2.1 l1).1 = 8) && true)) (s1 := (96, 0, [.ref l1, .int (M 0 ((l3 + 1) : Int32).toNatClampNeg), .int (M 0 ((l3 + 2) : Int32).toNatClampNeg)], [], (sh, M, J))) (k := (205, 324, [.retAddr 0, .ref l1, .ref l2, .int l3], [])) f_205_321 rfl
    refine ev_swc ?_ ?_
    · refine ev_nx (s1 := (205, 344, [.retAddr 0, .ref l1, .ref l2, .int l3], [.ref l1], (sh, M, J))) f_205_343 rfl ?_
      refine ev_nx (s1 := (205, 345, [.retAddr 0, .ref l1, .ref l2, .int l3], [.retAddr 0, .ref l1], (sh, M, J))) f_205_344 rfl ?_
      refine ev_nx (s1 := (205, 346, [.retAddr 0, .ref l1, .ref l2, .int l3], [.int l3, .retAddr 0, .ref l1], (sh, M, J))) f_205_345 rfl ?_
      refine ev_nx (s1 := (205, 347, [.retAddr 0, .ref l1, .ref l2, .int l3], [.int 1, .int l3, .retAddr 0, .ref l1], (sh, M, J))) f_205_346 rfl ?_
      refine ev_nx (s1 := (205, 348, [.retAddr 0, .ref l1, .ref l2, .int l3], [.int (l3 + 1), .retAddr 0, .ref l1], (sh, M, J))) f_205_347 rfl ?_
      refine ev_gd (s1 := (205, 349, [.retAddr 0, .ref l1, .ref l2, .int l3], [.int (M 0 ((l3 + 1) : Int32).toNatClampNeg), .ref l1], (sh, M, J))) f_205_348 rfl ?_
      exact ev_ca (cc := (decide ((sh.2.2.1 l1).1 = 8) && true)) (s1 := (97, 0, [.ref l1, .int (M 0 ((l3 + 1) : Int32).toNatClampNeg), .null, .null, .null], [], (sh, M, J))) (k := (205, 352, [.retAddr 0, .ref l1, .ref l2, .int l3], [])) f_205_349 rfl
    refine ev_swc ?_ ?_
    · refine ev_nx (s1 := (205, 367, [.retAddr 0, .ref l1, .ref l2, .int l3], [.ref l1], (sh, M, J))) f_205_366 rfl ?_
      refine ev_nx (s1 := (205, 368, [.retAddr 0, .ref l1, .ref l2, .int l3], [.retAddr 0, .ref l1], (sh, M, J))) f_205_367 rfl ?_
      refine ev_nx (s1 := (205, 369, [.retAddr 0, .ref l1, .ref l2, .int l3], [.int l3, .retAddr 0, .ref l1], (sh, M, J))) f_205_368 rfl ?_
      refine ev_nx (s1 := (205, 370, [.retAddr 0, .ref l1, .ref l2, .int l3], [.int 1, .int l3, .retAddr 0, .ref l1], (sh, M, J))) f_205_369 rfl ?_
      refine ev_nx (s1 := (205, 371, [.retAddr 0, .ref l1, .ref l2, .int l3], [.int (l3 + 1), .retAddr 0, .ref l1], (sh, M, J))) f_205_370 rfl ?_
      refine ev_gd (s1 := (205, 372, [.retAddr 0, .ref l1, .ref l2, .int l3], [.int (M 0 ((l3 + 1) : Int32).toNatClampNeg), .ref l1], (sh, M, J))) f_205_371 rfl ?_
      exact ev_ca (cc := (decide ((sh.2.2.1 l1).1 = 8) && true)) (s1 := (98, 0, [.ref l1, .int (M 0 ((l3 + 1) : Int32).toNatClampNeg)], [], (sh, M, J))) (k := (205, 375, [.retAddr 0, .ref l1, .ref l2, .int l3], [])) f_205_372 rfl
    refine ev_swc ?_ ?_
    · refine ev_nx (s1 := (205, 390, [.retAddr 0, .ref l1, .ref l2, .int l3], [.ref l1], (sh, M, J))) f_205_389 rfl ?_
      refine ev_nx (s1 := (205, 391, [.retAddr 0, .ref l1, .ref l2, .int l3], [.retAddr 0, .ref l1], (sh, M, J))) f_205_390 rfl ?_
      refine ev_nx (s1 := (205, 392, [.retAddr 0, .ref l1, .ref l2, .int l3], [.int l3, .retAddr 0, .ref l1], (sh, M, J))) f_205_391 rfl ?_
      refine ev_nx (s1 := (205, 393, [.retAddr 0, .ref l1, .ref l2, .int l3], [.int 1, .int l3, .retAddr 0, .ref l1], (sh, M, J))) f_205_392 rfl ?_
      refine ev_nx (s1 := (205, 394, [.retAddr 0, .ref l1, .ref l2, .int l3], [.int (l3 + 1), .retAddr 0, .ref l1], (sh, M, J))) f_205_393 rfl ?_
      refine ev_gd (s1 := (205, 395, [.retAddr 0, .ref l1, .ref l2, .int l3], [.int (M 0 ((l3 + 1) : Int32).toNatClampNeg), .ref l1], (sh, M, J))) f_205_394 rfl ?_
      refine ev_nx (s1 := (205, 396, [.retAddr 0, .ref l1, .ref l2, .int l3], [.retAddr 0, .int (M 0 ((l3 + 1) : Int32).toNatClampNeg), .ref l1], (sh, M, J))) f_205_395 rfl ?_
      refine ev_nx (s1 := (205, 397, [.retAddr 0, .ref l1, .ref l2, .int l3], [.int l3, .retAddr 0, .int (M 0 ((l3 + 1) : Int32).toNatClampNeg), .ref l1], (sh, M, J))) f_205_396 rfl ?_
      refine ev_nx (s1 := (205, 398, [.retAddr 0, .ref l1, .ref l2, .int l3], [.int 2, .int l3, .retAddr 0, .int (M 0 ((l3 + 1) : Int32).toNatClampNeg), .ref l1], (sh, M, J))) f_205_397 rfl ?_
      refine ev_nx (s1 := (205, 399, [.retAddr 0, .ref l1, .ref l2, .int l3], [.int (l3 + 2), .retAddr 0, .int (M 0 ((l3 + 1) : Int32).toNatClampNeg), .ref l1], (sh, M, J))) f_205_398 rfl ?_
      refine ev_gd (s1 := (205, 400, [.retAddr 0, .ref l1, .ref l2, .int l3], [.int (M 0 ((l3 + 2) : Int32).toNatClampNeg), .int (M 0 ((l3 + 1) : Int32).toNatClampNeg), .ref l1], (sh, M, J))) f_205_399 rfl ?_
      exact ev_ca (cc := (decide ((sh.2.2.1 l1).1 = 8) && true)) (s1 := (99, 0, [.ref l1, .int (M 0 ((l3 + 1) : Int32).toNatClampNeg), .int (M 0 ((l3 + 2) : Int32).toNatClampNeg), .null], [], (sh, M, J))) (k := (205, 403, [.retAddr 0, .ref l1, .ref l2, .int l3], [])) f_205_400 rfl
    refine ev_swc ?_ ?_
    · refine ev_nx (s1 := (205, 423, [.retAddr 0, .ref l1, .ref l2, .int l3], [.ref l1], (sh, M, J))) f_205_422 rfl ?_
      refine ev_nx (s1 := (205, 424, [.retAddr 0, .ref l1, .ref l2, .int l3], [.retAddr 0, .ref l1], (sh, M, J))) f_205_423 rfl ?_
      refine ev_nx (s1 := (205, 425, [.retAddr 0, .ref l1, .ref l2, .int l3], [.int l3, .retAddr 0, .ref l1], (sh, M, J))) f_205_424 rfl ?_
      refine ev_nx (s1 := (205, 426, [.retAddr 0, .ref l1, .ref l2, .int l3], [.int 1, .int l3, .retAddr 0, .ref l1], (sh, M, J))) f_205_425 rfl ?_
      refine ev_nx (s1 := (205, 427, [.retAddr 0, .ref l1, .ref l2, .int l3], [.int (l3 + 1), .retAddr 0, .ref l1], (sh, M, J))) f_205_426 rfl ?_
      refine ev_gd (s1 := (205, 428, [.retAddr 0, .ref l1, .ref l2, .int l3], [.int (M 0 ((l3 + 1) : Int32).toNatClampNeg), .ref l1], (sh, M, J))) f_205_427 rfl ?_
      refine ev_nx (s1 := (205, 429, [.retAddr 0, .ref l1, .ref l2, .int l3], [.retAddr 0, .int (M 0 ((l3 + 1) : Int32).toNatClampNeg), .ref l1], (sh, M, J))) f_205_428 rfl ?_
      refine ev_nx (s1 := (205, 430, [.retAddr 0, .ref l1, .ref l2, .int l3], [.int l3, .retAddr 0, .int (M 0 ((l3 + 1) : Int32).toNatClampNeg), .ref l1], (sh, M, J))) f_205_429 rfl ?_
      refine ev_nx (s1 := (205, 431, [.retAddr 0, .ref l1, .ref l2, .int l3], [.int 2, .int l3, .retAddr 0, .int (M 0 ((l3 + 1) : Int32).toNatClampNeg), .ref l1], (sh, M, J))) f_205_430 rfl ?_
      refine ev_nx (s1 := (205, 432, [.retAddr 0, .ref l1, .ref l2, .int l3], [.int (l3 + 2), .retAddr 0, .int (M 0 ((l3 + 1) : Int32).toNatClampNeg), .ref l1], (sh, M, J))) f_205_431 rfl ?_
      refine ev_gd (s1 := (205, 433, [.retAddr 0, .ref l1, .ref l2, .int l3], [.int (M 0 ((l3 + 2) : Int32).toNatClampNeg), .int (M 0 ((l3 + 1) : Int32).toNatClampNeg), .ref l1], (sh, M, J))) f_205_432 rfl ?_
      refine ev_nx (s1 := (205, 434, [.retAddr 0, .ref l1, .ref l2, .int l3], [.retAddr 0, .int (M 0 ((l3 + 2) : Int32).toNatClampNeg), .int (M 0 ((l3 + 1) : Int32).toNatClampNeg), .ref l1], (sh, M, J))) f_205_433 rfl ?_
      refine ev_nx (s1 := (205, 435, [.retAddr 0, .ref l1, .ref l2, .int l3], [.int l3, .retAddr 0, .int (M 0 ((l3 + 2) : Int32).toNatClampNeg), .int (M 0 ((l3 + 1) : Int32).toNatClampNeg), .ref l1], (sh, M, J))) f_205_434 rfl ?_
      refine ev_nx (s1 := (205, 436, [.retAddr 0, .ref l1, .ref l2, .int l3], [.int 3, .int l3, .retAddr 0, .int (M 0 ((l3 + 2) : Int32).toNatClampNeg), .int (M 0 ((l3 + 1) : Int32).toNatClampNeg), .ref l1], (sh, M, J))) f_205_435 rfl ?_
      refine ev_nx (s1 := (205, 437, [.retAddr 0, .ref l1, .ref l2, .int l3], [.int (l3 + 3), .retAddr 0, .int (M 0 ((l3 + 2) : Int32).toNatClampNeg), .int (M 0 ((l3 + 1) : Int32).toNatClampNeg), .ref l1], (sh, M, J))) f_205_436 rfl ?_
      refine ev_gd (s1 := (205, 438, [.retAddr 0, .ref l1, .ref l2, .int l3], [.int (M 0 ((l3 + 3) : Int32).toNatClampNeg), .int (M 0 ((l3 + 2) : Int32).toNatClampNeg), .int (M 0 ((l3 + 1) : Int32).toNatClampNeg), .ref l1], (sh, M, J))) f_205_437 rfl ?_
      exact ev_ca (cc := (decide ((sh.2.2.1 l1).1 = 8) && true)) (s1 := (100, 0, [.ref l1, .int (M 0 ((l3 + 1) : Int32).toNatClampNeg), .int (M 0 ((l3 + 2) : Int32).toNatClampNeg), .int (M 0 ((l3 + 3) : Int32).toNatClampNeg), .null], [], (sh, M, J))) (k := (205, 441, [.retAddr 0, .ref l1, .ref l2, .int l3], [])) f_205_438 rfl
    refine ev_swc ?_ ?_
    · refine ev_nx (s1 := (205, 466, [.retAddr 0, .ref l1, .ref l2, .int l3], [.ref l1], (sh, M, J))) f_205_465 rfl ?_
      refine ev_nx (s1 := (205, 467, [.retAddr 0, .ref l1, .ref l2, .int l3], [.retAddr 0, .ref l1], (sh, M, J))) f_205_466 rfl ?_
      refine ev_nx (s1 := (205, 468, [.retAddr 0, .ref l1, .ref l2, .int l3], [.int l3, .retAddr 0, .ref l1], (sh, M, J))) f_205_467 rfl ?_
      refine ev_nx (s1 := (205, 469, [.retAddr 0, .ref l1, .ref l2, .int l3], [.int 1, .int l3, .retAddr 0, .ref l1], (sh, M, J))) f_205_468 rfl ?_
      refine ev_nx (s1 := (205, 470, [.retAddr 0, .ref l1, .ref l2, .int l3], [.int (l3 + 1), .retAddr 0, .ref l1], (sh, M, J))) f_205_469 rfl ?_
      refine ev_gd (s1 := (205, 471, [.retAddr 0, .ref l1, .ref l2, .int l3], [.int (M 0 ((l3 + 1) : Int32).toNatClampNeg), .ref l1], (sh, M, J))) f_205_470 rfl ?_
      exact ev_ca (cc := (decide ((sh.2.2.1 l1).1 = 8) && true)) (s1 := (101, 0, [.ref l1, .int (M 0 ((l3 + 1) : Int32).toNatClampNeg), .null, .null], [], (sh, M, J))) (k := (205, 474, [.retAddr 0, .ref l1, .ref l2, .int l3], [])) f_205_471 rfl
    refine ev_swc ?_ ?_
    · refine ev_nx (s1 := (205, 489, [.retAddr 0, .ref l1, .ref l2, .int l3], [.ref l1], (sh, M, J))) f_205_488 rfl ?_
      exact ev_ca (cc := (decide ((sh.2.2.1 l1).1 = 8) && true)) (s1 := (102, 0, [.ref l1], [], (sh, M, J))) (k := (205, 492, [.retAddr 0, .ref l1, .ref l2, .int l3], [])) f_205_489 rfl
    refine ev_swc ?_ ?_
    · refine ev_nx (s1 := (205, 502, [.retAddr 0, .ref l1, .ref l2, .int l3], [.ref l1], (sh, M, J))) f_205_501 rfl ?_
      refine ev_nx (s1 := (205, 503, [.retAddr 0, .ref l1, .ref l2, .int l3], [.retAddr 0, .ref l1], (sh, M, J))) f_205_502 rfl ?_
      refine ev_nx (s1 := (205, 504, [.retAddr 0, .ref l1, .ref l2, .int l3], [.int l3, .retAddr 0, .ref l1], (sh, M, J))) f_205_503 rfl ?_
      refine ev_nx (s1 := (205, 505, [.retAddr 0, .ref l1, .ref l2, .int l3], [.int 1, .int l3, .retAddr 0, .ref l1], (sh, M, J))) f_205_504 rfl ?_
      refine ev_nx (s1 := (205, 506, [.retAddr 0, .ref l1, .ref l2, .int l3], [.int (l3 + 1), .retAddr 0, .ref l1], (sh, M, J))) f_205_505 rfl ?_
      refine ev_gd (s1 := (205, 507, [.retAddr 0, .ref l1, .ref l2, .int l3], [.int (M 0 ((l3 + 1) : Int32).toNatClampNeg), .ref l1], (sh, M, J))) f_205_506 rfl ?_
      exact ev_ca (cc := (decide ((sh.2.2.1 l1).1 = 8) && true)) (s1 := (103, 0, [.ref l1, .int (M 0 ((l3 + 1) : Int32).toNatClampNeg), .null], [], (sh, M, J))) (k := (205, 510, [.retAddr 0, .ref l1, .ref l2, .int l3], [])) f_205_507 rfl
    refine ev_swc ?_ ?_
    · refine ev_nx (s1 := (205, 525, [.retAddr 0, .ref l1, .ref l2, .int l3], [.ref l1], (sh, M, J))) f_205_524 rfl ?_
      exact ev_ca (cc := (decide ((sh.2.2.1 l1).1 = 8) && true)) (s1 := (104, 0, [.ref l1, .null], [], (sh, M, J))) (k := (205, 528, [.retAddr 0, .ref l1, .ref l2, .int l3], [])) f_205_525 rfl
    refine ev_swc ?_ ?_
    · refine ev_nx (s1 := (205, 538, [.retAddr 0, .ref l1, .ref l2, .int l3], [.ref l1], (sh, M, J))) f_205_537 rfl ?_
      refine ev_nx (s1 := (205, 539, [.retAddr 0, .ref l1, .ref l2, .int l3], [.retAddr 0, .ref l1], (sh, M, J))) f_205_538 rfl ?_
      refine ev_nx (s1 := (205, 540, [.retAddr 0, .ref l1, .ref l2, .int l3], [.int l3, .retAddr 0, .ref l1], (sh, M, J))) f_205_539 rfl ?_
      refine ev_nx (s1 := (205, 541, [.retAddr 0, .ref l1, .ref l2, .int l3], [.int 1, .int l3, .retAddr 0, .ref l1], (sh, M, J))) f_205_540 rfl ?_
      refine ev_nx (s1 := (205, 542, [.retAddr 0, .ref l1, .ref l2, .int l3], [.int (l3 + 1), .retAddr 0, .ref l1], (sh, M, J))) f_205_541 rfl ?_
      refine ev_gd (s1 := (205, 543, [.retAddr 0, .ref l1, .ref l2, .int l3], [.int (M 0 ((l3 + 1) : Int32).toNatClampNeg), .ref l1], (sh, M, J))) f_205_542 rfl ?_
      refine ev_nx (s1 := (205, 544, [.retAddr 0, .ref l1, .ref l2, .int l3], [.retAddr 0, .int (M 0 ((l3 + 1) : Int32).toNatClampNeg), .ref l1], (sh, M, J))) f_205_543 rfl ?_
      refine ev_nx (s1 := (205, 545, [.retAddr 0, .ref l1, .ref l2, .int l3], [.int l3, .retAddr 0, .int (M 0 ((l3 + 1) : Int32).toNatClampNeg), .ref l1], (sh, M, J))) f_205_544 rfl ?_
      refine ev_nx (s1 := (205, 546, [.retAddr 0, .ref l1, .ref l2, .int l3], [.int 2, .int l3, .retAddr 0, .int (M 0 ((l3 + 1) : Int32).toNatClampNeg), .ref l1], (sh, M, J))) f_205_545 rfl ?_
      refine ev_nx (s1 := (205, 547, [.retAddr 0, .ref l1, .ref l2, .int l3], [.int (l3 + 2), .retAddr 0, .int (M 0 ((l3 + 1) : Int32).toNatClampNeg), .ref l1], (sh, M, J))) f_205_546 rfl ?_
      refine ev_gd (s1 := (205, 548, [.retAddr 0, .ref l1, .ref l2, .int l3], [.int (M 0 ((l3 + 2) : Int32).toNatClampNeg), .int (M 0 ((l3 + 1) : Int32).toNatClampNeg), .ref l1], (sh, M, J))) f_205_547 rfl ?_
      refine ev_nx (s1 := (205, 549, [.retAddr 0, .ref l1, .ref l2, .int l3], [.retAddr 0, .int (M 0 ((l3 + 2) : Int32).toNatClampNeg), .int (M 0 ((l3 + 1) : Int32).toNatClampNeg), .ref l1], (sh, M, J))) f_205_548 rfl ?_
      refine ev_nx (s1 := (205, 550, [.retAddr 0, .ref l1, .ref l2, .int l3], [.int l3, .retAddr 0, .int (M 0 ((l3 + 2) : Int32).toNatClampNeg), .int (M 0 ((l3 + 1) : Int32).toNatClampNeg), .ref l1], (sh, M, J))) f_205_549 rfl ?_
      refine ev_nx (s1 := (205, 551, [.retAddr 0, .ref l1, .ref l2, .int l3], [.int 3, .int l3, .retAddr 0, .int (M 0 ((l3 + 2) : Int32).toNatClampNeg), .int (M 0 ((l3 + 1) : Int32).toNatClampNeg), .ref l1], (sh, M, J))) f_205_550 rfl ?_
      refine ev_nx (s1 := (205, 552, [.retAddr 0, .ref l1, .ref l2, .int l3], [.int (l3 + 3), .retAddr 0, .int (M 0 ((l3 + 2) : Int32).toNatClampNeg), .int (M 0 ((l3 + 1) : Int32).toNatClampNeg), .ref l1], (sh, M, J))) f_205_551 rfl ?_
      refine ev_gd (s1 := (205, 553, [.retAddr 0, .ref l1, .ref l2, .int l3], [.int (M 0 ((l3 + 3) : Int32).toNatClampNeg), .int (M 0 ((l3 + 2) : Int32).toNatClampNeg), .int (M 0 ((l3 + 1) : Int32).toNatClampNeg), .ref l1], (sh, M, J))) f_205_552 rfl ?_
      exact ev_ca (cc := (decide ((sh.2.2.1 l1).1 = 8) && true)) (s1 := (105, 0, [.ref l1, .int (M 0 ((l3 + 1) : Int32).toNatClampNeg), .int (M 0 ((l3 + 2) : Int32).toNatClampNeg), .int (M 0 ((l3 + 3) : Int32).toNatClampNeg)], [], (sh, M, J))) (k := (205, 556, [.retAddr 0, .ref l1, .ref l2, .int l3], [])) f_205_553 rfl
    refine ev_swc ?_ ?_
    · refine ev_nx (s1 := (205, 581, [.retAddr 0, .ref l1, .ref l2, .int l3], [.ref l1], (sh, M, J))) f_205_580 rfl ?_
      exact ev_ca (cc := (decide ((sh.2.2.1 l1).1 = 8) && true)) (s1 := (106, 0, [.ref l1, .null, .null, .null], [], (sh, M, J))) (k := (205, 584, [.retAddr 0, .ref l1, .ref l2, .int l3], [])) f_205_581 rfl
    refine ev_swc ?_ ?_
    · refine ev_nx (s1 := (205, 594, [.retAddr 0, .ref l1, .ref l2, .int l3], [.ref l1], (sh, M, J))) f_205_593 rfl ?_
      exact ev_ca (cc := (decide ((sh.2.2.1 l1).1 = 8) && true)) (s1 := (107, 0, [.ref l1, .null, .null], [], (sh, M, J))) (k := (205, 597, [.retAddr 0, .ref l1, .ref l2, .int l3], [])) f_205_594 rfl
    refine ev_swc ?_ ?_
    · refine ev_nx (s1 := (205, 607, [.retAddr 0, .ref l1, .ref l2, .int l3], [.ref l1], (sh, M, J))) f_205_606 rfl ?_
      refine ev_nx (s1 := (205, 608, [.retAddr 0, .ref l1, .ref l2, .int l3], [.retAddr 0, .ref l1], (sh, M, J))) f_205_607 rfl ?_
      refine ev_nx (s1 := (205, 609, [.retAddr 0, .ref l1, .ref l2, .int l3], [.int l3, .retAddr 0, .ref l1], (sh, M, J))) f_205_608 rfl ?_
      refine ev_nx (s1 := (205, 610, [.retAddr 0, .ref l1, .ref l2, .int l3], [.int 1, .int l3, .retAddr 0, .ref l1], (sh, M, J))) f_205_609 rfl ?_
      refine ev_nx (s1 := (205, 611, [.retAddr 0, .ref l1, .ref l2, .int l3], [.int (l3 + 1), .retAddr 0, .ref l1], (sh, M, J))) f_205_610 rfl ?_
      refine ev_gd (s1 := (205, 612, [.retAddr 0, .ref l1, .ref l2, .int l3], [.int (M 0 ((l3 + 1) : Int32).toNatClampNeg), .ref l1], (sh, M, J))) f_205_611 rfl ?_
      exact ev_ca (cc := (decide ((sh.2.2.1 l1).1 = 8) && true)) (s1 := (108, 0, [.ref l1, .int (M 0 ((l3 + 1) : Int32).toNatClampNeg)], [], (sh, M, J))) (k := (205, 615, [.retAddr 0, .ref l1, .ref l2, .int l3], [])) f_205_612 rfl
    refine ev_swc ?_ ?_
    · refine ev_nx (s1 := (205, 630, [.retAddr 0, .ref l1, .ref l2, .int l3], [.ref l1], (sh, M, J))) f_205_629 rfl ?_
      refine ev_nx (s1 := (205, 631, [.retAddr 0, .ref l1, .ref l2, .int l3], [.retAddr 0, .ref l1], (sh, M, J))) f_205_630 rfl ?_
      refine ev_nx (s1 := (205, 632, [.retAddr 0, .ref l1, .ref l2, .int l3], [.int l3, .retAddr 0, .ref l1], (sh, M, J))) f_205_631 rfl ?_
      refine ev_nx (s1 := (205, 633, [.retAddr 0, .ref l1, .ref l2, .int l3], [.int 1, .int l3, .retAddr 0, .ref l1], (sh, M, J))) f_205_632 rfl ?_
      refine ev_nx (s1 := (205, 634, [.retAddr 0, .ref l1, .ref l2, .int l3], [.int (l3 + 1), .retAddr 0, .ref l1], (sh, M, J))) f_205_633 rfl ?_
      refine ev_gd (s1 := (205, 635, [.retAddr 0, .ref l1, .ref l2, .int l3], [.int (M 0 ((l3 + 1) : Int32).toNatClampNeg), .ref l1], (sh, M, J))) f_205_634 rfl ?_
      refine ev_nx (s1 := (205, 636, [.retAddr 0, .ref l1, .ref l2, .int l3], [.retAddr 0, .int (M 0 ((l3 + 1) : Int32).toNatClampNeg), .ref l1], (sh, M, J))) f_205_635 rfl ?_
      refine ev_nx (s1 := (205, 637, [.retAddr 0, .ref l1, .ref l2, .int l3], [.int l3, .retAddr 0, .int (M 0 ((l3 + 1) : Int32).toNatClampNeg), .ref l1], (sh, M, J))) f_205_636 rfl ?_
      refine ev_nx (s1 := (205, 638, [.retAddr 0, .ref l1, .ref l2, .int l3], [.int 2, .int l3, .retAddr 0, .int (M 0 ((l3 + 1) : Int32).toNatClampNeg), .ref l1], (sh, M, J))) f_205_637 rfl ?_
      refine ev_nx (s1 := (205, 639, [.retAddr 0, .ref l1, .ref l2, .int l3], [.int (l3 + 2), .retAddr 0, .int (M 0 ((l3 + 1) : Int32).toNatClampNeg), .ref l1], (sh, M, J))) f_205_638 rfl ?_
      refine ev_gd (s1 := (205, 640, [.retAddr 0, .ref l1, .ref l2, .int l3], [.int (M 0 ((l3 + 2) : Int32).toNatClampNeg), .int (M 0 ((l3 + 1) : Int32).toNatClampNeg), .ref l1], (sh, M, J))) f_205_639 rfl ?_
      exact ev_ca (cc := (decide ((sh.2.2.1 l1).1 = 8) && true)) (s1 := (109, 0, [.ref l1, .int (M 0 ((l3 + 1) : Int32).toNatClampNeg), .int (M 0 ((l3 + 2) : Int32).toNatClampNeg), .null, .null, .null], [], (sh, M, J))) (k := (205, 643, [.retAddr 0, .ref l1, .ref l2, .int l3], [])) f_205_640 rfl
    refine ev_swc ?_ ?_
    · refine ev_nx (s1 := (205, 663, [.retAddr 0, .ref l1, .ref l2, .int l3], [.ref l1], (sh, M, J))) f_205_662 rfl ?_
      exact ev_ca (cc := (decide ((sh.2.2.1 l1).1 = 8) && true)) (s1 := (110, 0, [.ref l1, .null, .null, .null, .null], [], (sh, M, J))) (k := (205, 666, [.retAddr 0, .ref l1, .ref l2, .int l3], [])) f_205_663 rfl
    refine ev_swc ?_ ?_
    · refine ev_nx (s1 := (205, 676, [.retAddr 0, .ref l1, .ref l2, .int l3], [.ref l1], (sh, M, J))) f_205_675 rfl ?_
      refine ev_nx (s1 := (205, 677, [.retAddr 0, .ref l1, .ref l2, .int l3], [.retAddr 0, .ref l1], (sh, M, J))) f_205_676 rfl ?_
      refine ev_nx (s1 := (205, 678, [.retAddr 0, .ref l1, .ref l2, .int l3], [.int l3, .retAddr 0, .ref l1], (sh, M, J))) f_205_677 rfl ?_
      refine ev_nx (s1 := (205, 679, [.retAddr 0, .ref l1, .ref l2, .int l3], [.int 1, .int l3, .retAddr 0, .ref l1], (sh, M, J))) f_205_678 rfl ?_
      refine ev_nx (s1 := (205, 680, [.retAddr 0, .ref l1, .ref l2, .int l3], [.int (l3 + 1), .retAddr 0, .ref l1], (sh, M, J))) f_205_679 rfl ?_
      refine ev_gd (s1 := (205, 681, [.retAddr 0, .ref l1, .ref l2, .int l3], [.int (M 0 ((l3 + 1) : Int32).toNatClampNeg), .ref l1], (sh, M, J))) f_205_680 rfl ?_
      refine ev_nx (s1 := (205, 682, [.retAddr 0, .ref l1, .ref l2, .int l3], [.retAddr 0, .int (M 0 ((l3 + 1) : Int32).toNatClampNeg), .ref l1], (sh, M, J))) f_205_681 rfl ?_
      refine ev_nx (s1 := (205, 683, [.retAddr 0, .ref l1, .ref l2, .int l3], [.int l3, .retAddr 0, .int (M 0 ((l3 + 1) : Int32).toNatClampNeg), .ref l1], (sh, M, J))) f_205_682 rfl ?_
      refine ev_nx (s1 := (205, 684, [.retAddr 0, .ref l1, .ref l2, .int l3], [.int 2, .int l3, .retAddr 0, .int (M 0 ((l3 + 1) : Int32).toNatClampNeg), .ref l1], (sh, M, J))) f_205_683 rfl ?_
      refine ev_nx (s1 := (205, 685, [.retAddr 0, .ref l1, .ref l2, .int l3], [.int (l3 + 2), .retAddr 0, .int (M 0 ((l3 + 1) : Int32).toNatClampNeg), .ref l1], (sh, M, J))) f_205_684 rfl ?_
      refine ev_gd (s1 := (205, 686, [.retAddr 0, .ref l1, .ref l2, .int l3], [.int (M 0 ((l3 + 2) : Int32).toNatClampNeg), .int (M 0 ((l3 + 1) : Int32).toNatClampNeg), .ref l1], (sh, M, J))) f_205_685 rfl ?_
      exact ev_ca (cc := (decide ((sh.2.2.1 l1).1 = 8) && true)) (s1 := (111, 0, [.ref l1, .int (M 0 ((l3 + 1) : Int32).toNatClampNeg), .int (M 0 ((l3 + 2) : Int32).toNatClampNeg), .null, .null, .null], [], (sh, M, J))) (k := (205, 689, [.retAddr 0, .ref l1, .ref l2, .int l3], [])) f_205_686 rfl
    refine ev_swc ?_ ?_
    · refine ev_nx (s1 := (205, 709, [.retAddr 0, .ref l1, .ref l2, .int l3], [.ref l1], (sh, M, J))) f_205_708 rfl ?_
      refine ev_nx (s1 := (205, 710, [.retAddr 0, .ref l1, .ref l2, .int l3], [.retAddr 0, .ref l1], (sh, M, J))) f_205_709 rfl ?_
      refine ev_nx (s1 := (205, 711, [.retAddr 0, .ref l1, .ref l2, .int l3], [.int l3, .retAddr 0, .ref l1], (sh, M, J))) f_205_710 rfl ?_
      refine ev_nx (s1 := (205, 712, [.retAddr 0, .ref l1, .ref l2, .int l3], [.int 1, .int l3, .retAddr 0, .ref l1], (sh, M, J))) f_205_711 rfl ?_
      refine ev_nx (s1 := (205, 713, [.retAddr 0, .ref l1, .ref l2, .int l3], [.int (l3 + 1), .retAddr 0, .ref l1], (sh, M, J))) f_205_712 rfl ?_
      refine ev_gd (s1 := (205, 714, [.retAddr 0, .ref l1, .ref l2, .int l3], [.int (M 0 ((l3 + 1) : Int32).toNatClampNeg), .ref l1], (sh, M, J))) f_205_713 rfl ?_
      refine ev_nx (s1 := (205, 715, [.retAddr 0, .ref l1, .ref l2, .int l3], [.retAddr 0, .int (M 0 ((l3 + 1) : Int32).toNatClampNeg), .ref l1], (sh, M, J))) f_205_714 rfl ?_
      refine ev_nx (s1 := (205, 716, [.retAddr 0, .ref l1, .ref l2, .int l3], [.int l3, .retAddr 0, .int (M 0 ((l3 + 1) : Int32).toNatClampNeg), .ref l1], (sh, M, J))) f_205_715 rfl ?_
      refine ev_nx (s1 := (205, 717, [.retAddr 0, .ref l1, .ref l2, .int l3], [.int 2, .int l3, .retAddr 0, .int (M 0 ((l3 + 1) : Int32).toNatClampNeg), .ref l1], (sh, M, J))) f_205_716 rfl ?_
      refine ev_nx (s1 := (205, 718, [.retAddr 0, .ref l1, .ref l2, .int l3], [.int (l3 + 2), .retAddr 0, .int (M 0 ((l3 + 1) : Int32).toNatClampNeg), .ref l1], (sh, M, J))) f_205_717 rfl ?_
      refine ev_gd (s1 := (205, 719, [.retAddr 0, .ref l1, .ref l2, .int l3], [.int (M 0 ((l3 + 2) : Int32).toNatClampNeg), .int (M 0 ((l3 + 1) : Int32).toNatClampNeg), .ref l1], (sh, M, J))) f_205_718 rfl ?_
      refine ev_br (s1 := (205, 726, [.retAddr 0, .ref l1, .ref l2, .int l3], [.int (M 0 ((l3 + 1) : Int32).toNatClampNeg), .ref l1], (sh, M, J))) (s2 := (205, 722, [.retAddr 0, .ref l1, .ref l2, .int l3], [.int (M 0 ((l3 + 1) : Int32).toNatClampNeg), .ref l1], (sh, M, J))) f_205_719 rfl ?_ ?_
      · refine ev_nx (s1 := (205, 727, [.retAddr 0, .ref l1, .ref l2, .int l3], [.int 0, .int (M 0 ((l3 + 1) : Int32).toNatClampNeg), .ref l1], (sh, M, J))) f_205_726 rfl ?_
        exact ev_ca (cc := (decide ((sh.2.2.1 l1).1 = 8) && true)) (s1 := (112, 0, [.ref l1, .int (M 0 ((l3 + 1) : Int32).toNatClampNeg), .int 0], [], (sh, M, J))) (k := (205, 730, [.retAddr 0, .ref l1, .ref l2, .int l3], [])) f_205_727 rfl
      · refine ev_nx (s1 := (205, 723, [.retAddr 0, .ref l1, .ref l2, .int l3], [.int 1, .int (M 0 ((l3 + 1) : Int32).toNatClampNeg), .ref l1], (sh, M, J))) f_205_722 rfl ?_
        refine ev_nx (s1 := (205, 727, [.retAddr 0, .ref l1, .ref l2, .int l3], [.int 1, .int (M 0 ((l3 + 1) : Int32).toNatClampNeg), .ref l1], (sh, M, J))) f_205_723 rfl ?_
        exact ev_ca (cc := (decide ((sh.2.2.1 l1).1 = 8) && true)) (s1 := (112, 0, [.ref l1, .int (M 0 ((l3 + 1) : Int32).toNatClampNeg), .int 1], [], (sh, M, J))) (k := (205, 730, [.retAddr 0, .ref l1, .ref l2, .int l3], [])) f_205_727 rfl
    refine ev_swc ?_ ?_
    · refine ev_nx (s1 := (205, 758, [.retAddr 0, .ref l1, .ref l2, .int l3], [.ref l1], (sh, M, J))) f_205_757 rfl ?_
      exact ev_ca (cc := (decide ((sh.2.2.1 l1).1 = 8) && true)) (s1 := (113, 0, [.ref l1, .null, .null], [], (sh, M, J))) (k := (205, 761, [.retAddr 0, .ref l1, .ref l2, .int l3], [])) f_205_758 rfl
    refine ev_swc ?_ ?_
    · refine ev_nx (s1 := (205, 771, [.retAddr 0, .ref l1, .ref l2, .int l3], [.ref l1], (sh, M, J))) f_205_770 rfl ?_
      exact ev_ca (cc := (decide ((sh.2.2.1 l1).1 = 8) && true)) (s1 := (114, 0, [.ref l1, .null, .null, .null, .null, .null], [], (sh, M, J))) (k := (205, 774, [.retAddr 0, .ref l1, .ref l2, .int l3], [])) f_205_771 rfl
    refine ev_swc ?_ ?_
    · refine ev_nx (s1 := (205, 784, [.retAddr 0, .ref l1, .ref l2, .int l3], [.ref l1], (sh, M, J))) f_205_783 rfl ?_
      refine ev_nx (s1 := (205, 785, [.retAddr 0, .ref l1, .ref l2, .int l3], [.retAddr 0, .ref l1], (sh, M, J))) f_205_784 rfl ?_
      refine ev_nx (s1 := (205, 786, [.retAddr 0, .ref l1, .ref l2, .int l3], [.int l3, .retAddr 0, .ref l1], (sh, M, J))) f_205_785 rfl ?_
      refine ev_nx (s1 := (205, 787, [.retAddr 0, .ref l1, .ref l2, .int l3], [.int 1, .int l3, .retAddr 0, .ref l1], (sh, M, J))) f_205_786 rfl ?_
      refine ev_nx (s1 := (205, 788, [.retAddr 0, .ref l1, .ref l2, .int l3], [.int (l3 + 1), .retAddr 0, .ref l1], (sh, M, J))) f_205_787 rfl ?_
      refine ev_gd (s1 := (205, 789, [.retAddr 0, .ref l1, .ref l2, .int l3], [.int (M 0 ((l3 + 1) : Int32).toNatClampNeg), .ref l1], (sh, M, J))) f_205_788 rfl ?_
      refine ev_nx (s1 := (205, 790, [.retAddr 0, .ref l1, .ref l2, .int l3], [.retAddr 0, .int (M 0 ((l3 + 1) : Int32).toNatClampNeg), .ref l1], (sh, M, J))) f_205_789 rfl ?_
      refine ev_nx (s1 := (205, 791, [.retAddr 0, .ref l1, .ref l2, .int l3], [.int l3, .retAddr 0, .int (M 0 ((l3 + 1) : Int32).toNatClampNeg), .ref l1], (sh, M, J))) f_205_790 rfl ?_
      refine ev_nx (s1 := (205, 792, [.retAddr 0, .ref l1, .ref l2, .int l3], [.int 2, .int l3, .retAddr 0, .int (M 0 ((l3 + 1) : Int32).toNatClampNeg), .ref l1], (sh, M, J))) f_205_791 rfl ?_
      refine ev_nx (s1 := (205, 793, [.retAddr 0, .ref l1, .ref l2, .int l3], [.int (l3 + 2), .retAddr 0, .int (M 0 ((l3 + 1) : Int32).toNatClampNeg), .ref l1], (sh, M, J))) f_205_792 rfl ?_
      refine ev_gd (s1 := (205, 794, [.retAddr 0, .ref l1, .ref l2, .int l3], [.int (M 0 ((l3 + 2) : Int32).toNatClampNeg), .int (M 0 ((l3 + 1) : Int32).toNatClampNeg), .ref l1], (sh, M, J))) f_205_793 rfl ?_
      exact ev_ca (cc := (decide ((sh.2.2.1 l1).1 = 8) && true)) (s1 := (115, 0, [.ref l1, .int (M 0 ((l3 + 1) : Int32).toNatClampNeg), .int (M 0 ((l3 + 2) : Int32).toNatClampNeg)], [], (sh, M, J))) (k := (205, 797, [.retAddr 0, .ref l1, .ref l2, .int l3], [])) f_205_794 rfl
    refine ev_swc ?_ ?_
    · refine ev_nx (s1 := (205, 817, [.retAddr 0, .ref l1, .ref l2, .int l3], [.ref l1], (sh, M, J))) f_205_816 rfl ?_
      exact ev_ca (cc := (decide ((sh.2.2.1 l1).1 = 8) && true)) (s1 := (116, 0, [.ref l1, .null], [], (sh, M, J))) (k := (205, 820, [.retAddr 0, .ref l1, .ref l2, .int l3], [])) f_205_817 rfl
    refine ev_swc ?_ ?_
    · refine ev_nx (s1 := (205, 830, [.retAddr 0, .ref l1, .ref l2, .int l3], [.ref l1], (sh, M, J))) f_205_829 rfl ?_
      exact ev_ca (cc := (decide ((sh.2.2.1 l1).1 = 8) && true)) (s1 := (117, 0, [.ref l1], [], (sh, M, J))) (k := (205, 833, [.retAddr 0, .ref l1, .ref l2, .int l3], [])) f_205_830 rfl
    refine ev_swc ?_ ?_
    · refine ev_nx (s1 := (205, 843, [.retAddr 0, .ref l1, .ref l2, .int l3], [.ref l1], (sh, M, J))) f_205_842 rfl ?_
      refine ev_nx (s1 := (205, 844, [.retAddr 0, .ref l1, .ref l2, .int l3], [.retAddr 0, .ref l1], (sh, M, J))) f_205_843 rfl ?_
      refine ev_nx (s1 := (205, 845, [.retAddr 0, .ref l1, .ref l2, .int l3], [.int l3, .retAddr 0, .ref l1], (sh, M, J))) f_205_844 rfl ?_
      refine ev_nx (s1 := (205, 846, [.retAddr 0, .ref l1, .ref l2, .int l3], [.int 1, .int l3, .retAddr 0, .ref l1], (sh, M, J))) f_205_845 rfl ?_
      refine ev_nx (s1 := (205, 847, [.retAddr 0, .ref l1, .ref l2, .int l3], [.int (l3 + 1), .retAddr 0, .ref l1], (sh, M, J))) f_205_846 rfl ?_
      refine ev_gd (s1 := (205, 848, [.retAddr 0, .ref l1, .ref l2, .int l3], [.int (M 0 ((l3 + 1) : Int32).toNatClampNeg), .ref l1], (sh, M, J))) f_205_847 rfl ?_
      exact ev_ca (cc := (decide ((sh.2.2.1 l1).1 = 8) && true)) (s1 := (118, 0, [.ref l1, .int (M 0 ((l3 + 1) : Int32).toNatClampNeg), .null], [], (sh, M, J))) (k := (205, 851, [.retAddr 0, .ref l1, .ref l2, .int l3], [])) f_205_848 rfl
    refine ev_swc ?_ ?_
    · refine ev_nx (s1 := (205, 866, [.retAddr 0, .ref l1, .ref l2, .int l3], [.ref l1], (sh, M, J))) f_205_865 rfl ?_
      refine ev_nx (s1 := (205, 867, [.retAddr 0, .ref l1, .ref l2, .int l3], [.retAddr 0, .ref l1], (sh, M, J))) f_205_866 rfl ?_
      refine ev_nx (s1 := (205, 868, [.retAddr 0, .ref l1, .ref l2, .int l3], [.int l3, .retAddr 0, .ref l1], (sh, M, J))) f_205_867 rfl ?_
      refine ev_nx (s1 := (205, 869, [.retAddr 0, .ref l1, .ref l2, .int l3], [.int 1, .int l3, .retAddr 0, .ref l1], (sh, M, J))) f_205_868 rfl ?_
      refine ev_nx (s1 := (205, 870, [.retAddr 0, .ref l1, .ref l2, .int l3], [.int (l3 + 1), .retAddr 0, .ref l1], (sh, M, J))) f_205_869 rfl ?_
      refine ev_gd (s1 := (205, 871, [.retAddr 0, .ref l1, .ref l2, .int l3], [.int (M 0 ((l3 + 1) : Int32).toNatClampNeg), .ref l1], (sh, M, J))) f_205_870 rfl ?_
      exact ev_ca (cc := (decide ((sh.2.2.1 l1).1 = 8) && true)) (s1 := (119, 0, [.ref l1, .int (M 0 ((l3 + 1) : Int32).toNatClampNeg)], [], (sh, M, J))) (k := (205, 874, [.retAddr 0, .ref l1, .ref l2, .int l3], [])) f_205_871 rfl
    refine ev_swc ?_ ?_
    · refine ev_nx (s1 := (205, 889, [.retAddr 0, .ref l1, .ref l2, .int l3], [.ref l1], (sh, M, J))) f_205_888 rfl ?_
      refine ev_nx (s1 := (205, 890, [.retAddr 0, .ref l1, .ref l2, .int l3], [.retAddr 0, .ref l1], (sh, M, J))) f_205_889 rfl ?_
      refine ev_nx (s1 := (205, 891, [.retAddr 0, .ref l1, .ref l2, .int l3], [.int l3, .retAddr 0, .ref l1], (sh, M, J))) f_205_890 rfl ?_
      refine ev_nx (s1 := (205, 892, [.retAddr 0, .ref l1, .ref l2, .int l3], [.int 1, .int l3, .retAddr 0, .ref l1], (sh, M, J))) f_205_891 rfl ?_
      refine ev_nx (s1 := (205, 893, [.retAddr 0, .ref l1, .ref l2, .int l3], [.int (l3 + 1), .retAddr 0, .ref l1], (sh, M, J))) f_205_892 rfl ?_
      refine ev_gd (s1 := (205, 894, [.retAddr 0, .ref l1, .ref l2, .int l3], [.int (M 0 ((l3 + 1) : Int32).toNatClampNeg), .ref l1], (sh, M, J))) f_205_893 rfl ?_
      exact ev_ca (cc := (decide ((sh.2.2.1 l1).1 = 8) && true)) (s1 := (120, 0, [.ref l1, .int (M 0 ((l3 + 1) : Int32).toNatClampNeg)], [], (sh, M, J))) (k := (205, 897, [.retAddr 0, .ref l1, .ref l2, .int l3], [])) f_205_894 rfl
    show ev (205, 911, [.retAddr 0, .ref l1, .ref l2, .int l3], [], (sh, M, J)) = _
    refine ev_nx (s1 := (205, 914, [.retAddr 0, .ref l1, .ref l2, .int (l3 + 4)], [], (sh, M, J))) f_205_911 rfl ?_
    refine ev_nx (s1 := (205, 18, [.retAddr 0, .ref l1, .ref l2, .int (l3 + 4)], [], (sh, M, J))) f_205_914 rfl ?_
    exact rfl
set_option maxRecDepth 100000 in
theorem b_law_181 (sh : xSh) (M : Nat → Nat → Int32) (J : Nat → Nat → Int64) (l1 : Nat) (l2 : Nat) (l3 : Int32) (k0 : Int32) : ev (205, 181, [.retAddr 0, .ref l1, .ref l2, .int l3], [.int k0], (sh, M, J)) = (bif (decide ((sh.2.2.1 0).1 = 12) && xin (l3 + 1) (sh.2.2.1 0).2) then bif (decide ((sh.2.2.1 l2).1 = 9) && true) then (ev (138, 0, [.ref l2, .int (M 0 ((l3 + 1) : Int32).toNatClampNeg)], [], (sh, M, J))).bind (fun r => ev (205, 190, [.retAddr 0, .ref l1, .ref l2, .int l3], r.1.toList ++ [.int k0], r.2)) else none else none) := by
  refine ev_nx (s1 := (205, 182, [.retAddr 0, .ref l1, .ref l2, .int l3], [.ref l2, .int k0], (sh, M, J))) f_205_181 rfl ?_
  refine ev_nx (s1 := (205, 183, [.retAddr 0, .ref l1, .ref l2, .int l3], [.retAddr 0, .ref l2, .int k0], (sh, M, J))) f_205_182 rfl ?_
  refine ev_nx (s1 := (205, 184, [.retAddr 0, .ref l1, .ref l2, .int l3], [.int l3, .retAddr 0, .ref l2, .int k0], (sh, M, J))) f_205_183 rfl ?_
  refine ev_nx (s1 := (205, 185, [.retAddr 0, .ref l1, .ref l2, .int l3], [.int 1, .int l3, .retAddr 0, .ref l2, .int k0], (sh, M, J))) f_205_184 rfl ?_
  refine ev_nx (s1 := (205, 186, [.retAddr 0, .ref l1, .ref l2, .int l3], [.int (l3 + 1), .retAddr 0, .ref l2, .int k0], (sh, M, J))) f_205_185 rfl ?_
  refine ev_gd (s1 := (205, 187, [.retAddr 0, .ref l1, .ref l2, .int l3], [.int (M 0 ((l3 + 1) : Int32).toNatClampNeg), .ref l2, .int k0], (sh, M, J))) f_205_186 rfl ?_
  exact ev_ca (cc := (decide ((sh.2.2.1 l2).1 = 9) && true)) (s1 := (138, 0, [.ref l2, .int (M 0 ((l3 + 1) : Int32).toNatClampNeg)], [], (sh, M, J))) (k := (205, 190, [.retAddr 0, .ref l1, .ref l2, .int l3], [.int k0])) f_205_187 rfl
set_option maxRecDepth 100000 in
theorem b_law_190 (sh : xSh) (M : Nat → Nat → Int32) (J : Nat → Nat → Int64) (l1 : Nat) (l2 : Nat) (l3 : Int32) (k0 : Int32) (k1 : Int32) : ev (205, 190, [.retAddr 0, .ref l1, .ref l2, .int l3], [.int k0, .int k1], (sh, M, J)) = (bif decide (k1 = k0) then ev (205, 18, [.retAddr 0, .ref l1, .ref l2, .int (l3 + 4)], [], (sh, M, J)) else some (some (.int 0), (sh, M, J))) := by
  refine ev_br (s1 := (205, 911, [.retAddr 0, .ref l1, .ref l2, .int l3], [], (sh, M, J))) (s2 := (205, 193, [.retAddr 0, .ref l1, .ref l2, .int l3], [], (sh, M, J))) f_205_190 rfl ?_ ?_
  · refine ev_nx (s1 := (205, 914, [.retAddr 0, .ref l1, .ref l2, .int (l3 + 4)], [], (sh, M, J))) f_205_911 rfl ?_
    refine ev_nx (s1 := (205, 18, [.retAddr 0, .ref l1, .ref l2, .int (l3 + 4)], [], (sh, M, J))) f_205_914 rfl ?_
    exact rfl
  · refine ev_nx (s1 := (205, 194, [.retAddr 0, .ref l1, .ref l2, .int l3], [.int 0], (sh, M, J))) f_205_193 rfl ?_
    exact ev_r1 f_205_194 rfl
set_option maxRecDepth 100000 in
theorem b_law_199 (sh : xSh) (M : Nat → Nat → Int32) (J : Nat → Nat → Int64) (l1 : Nat) (l2 : Nat) (l3 : Int32) (k0 : Int32) : ev (205, 199, [.retAddr 0, .ref l1, .ref l2, .int l3], [.int k0], (sh, M, J)) = (bif (decide ((sh.2.2.1 l2).1 = 9) && true) then (ev (149, 0, [.ref l2, .null], [], (sh, M, J))).bind (fun r => ev (205, 203, [.retAddr 0, .ref l1, .ref l2, .int l3], r.1.toList ++ [.int k0], r.2)) else none) := by
  refine ev_nx (s1 := (205, 200, [.retAddr 0, .ref l1, .ref l2, .int l3], [.ref l2, .int k0], (sh, M, J))) f_205_199 rfl ?_
  exact ev_ca (cc := (decide ((sh.2.2.1 l2).1 = 9) && true)) (s1 := (149, 0, [.ref l2, .null], [], (sh, M, J))) (k := (205, 203, [.retAddr 0, .ref l1, .ref l2, .int l3], [.int k0])) f_205_200 rfl
set_option maxRecDepth 100000 in
theorem b_law_203 (sh : xSh) (M : Nat → Nat → Int32) (J : Nat → Nat → Int64) (l1 : Nat) (l2 : Nat) (l3 : Int32) (k0 : Int32) (k1 : Int32) : ev (205, 203, [.retAddr 0, .ref l1, .ref l2, .int l3], [.int k0, .int k1], (sh, M, J)) = (bif decide (k1 = k0) then ev (205, 18, [.retAddr 0, .ref l1, .ref l2, .int (l3 + 4)], [], (sh, M, J)) else some (some (.int 0), (sh, M, J))) := by
  refine ev_br (s1 := (205, 911, [.retAddr 0, .ref l1, .ref l2, .int l3], [], (sh, M, J))) (s2 := (205, 206, [.retAddr 0, .ref l1, .ref l2, .int l3], [], (sh, M, J))) f_205_203 rfl ?_ ?_
  · refine ev_nx (s1 := (205, 914, [.retAddr 0, .ref l1, .ref l2, .int (l3 + 4)], [], (sh, M, J))) f_205_911 rfl ?_
    refine ev_nx (s1 := (205, 18, [.retAddr 0, .ref l1, .ref l2, .int (l3 + 4)], [], (sh, M, J))) f_205_914 rfl ?_
    exact rfl
  · refine ev_nx (s1 := (205, 207, [.retAddr 0, .ref l1, .ref l2, .int l3], [.int 0], (sh, M, J))) f_205_206 rfl ?_
    exact ev_r1 f_205_207 rfl
set_option maxRecDepth 100000 in
theorem b_law_212 (sh : xSh) (M : Nat → Nat → Int32) (J : Nat → Nat → Int64) (l1 : Nat) (l2 : Nat) (l3 : Int32) (k0 : Int32) : ev (205, 212, [.retAddr 0, .ref l1, .ref l2, .int l3], [.int k0], (sh, M, J)) = (bif (decide ((sh.2.2.1 l2).1 = 9) && true) then (ev (150, 0, [.ref l2], [], (sh, M, J))).bind (fun r => ev (205, 216, [.retAddr 0, .ref l1, .ref l2, .int l3], r.1.toList ++ [.int k0], r.2)) else none) := by
  refine ev_nx (s1 := (205, 213, [.retAddr 0, .ref l1, .ref l2, .int l3], [.ref l2, .int k0], (sh, M, J))) f_205_212 rfl ?_
  exact ev_ca (cc := (decide ((sh.2.2.1 l2).1 = 9) && true)) (s1 := (150, 0, [.ref l2], [], (sh, M, J))) (k := (205, 216, [.retAddr 0, .ref l1, .ref l2, .int l3], [.int k0])) f_205_213 rfl
set_option maxRecDepth 100000 in
theorem b_law_216 (sh : xSh) (M : Nat → Nat → Int32) (J : Nat → Nat → Int64) (l1 : Nat) (l2 : Nat) (l3 : Int32) (k0 : Int32) (k1 : Int32) : ev (205, 216, [.retAddr 0, .ref l1, .ref l2, .int l3], [.int k0, .int k1], (sh, M, J)) = (bif decide (k1 = k0) then ev (205, 18, [.retAddr 0, .ref l1, .ref l2, .int (l3 + 4)], [], (sh, M, J)) else some (some (.int 0), (sh, M, J))) := by
  refine ev_br (s1 := (205, 911, [.retAddr 0, .ref l1, .ref l2, .int l3], [], (sh, M, J))) (s2 := (205, 219, [.retAddr 0, .ref l1, .ref l2, .int l3], [], (sh, M, J))) f_205_216 rfl ?_ ?_
  · refine ev_nx (s1 := (205, 914, [.retAddr 0, .ref l1, .ref l2, .int (l3 + 4)], [], (sh, M, J))) f_205_911 rfl ?_
    refine ev_nx (s1 := (205, 18, [.retAddr 0, .ref l1, .ref l2, .int (l3 + 4)], [], (sh, M, J))) f_205_914 rfl ?_
    exact rfl
  · refine ev_nx (s1 := (205, 220, [.retAddr 0, .ref l1, .ref l2, .int l3], [.int 0], (sh, M, J))) f_205_219 rfl ?_
    exact ev_r1 f_205_220 rfl
set_option maxRecDepth 100000 in
theorem b_law_230 (sh : xSh) (M : Nat → Nat → Int32) (J : Nat → Nat → Int64) (l1 : Nat) (l2 : Nat) (l3 : Int32) (k0 : Int32) : ev (205, 230, [.retAddr 0, .ref l1, .ref l2, .int l3], [.int k0], (sh, M, J)) = (bif (decide ((sh.2.2.1 0).1 = 12) && xin (l3 + 1) (sh.2.2.1 0).2) then bif (decide ((sh.2.2.1 l2).1 = 9) && true) then (ev (164, 0, [.ref l2, .int (M 0 ((l3 + 1) : Int32).toNatClampNeg)], [], (sh, M, J))).bind (fun r => ev (205, 239, [.retAddr 0, .ref l1, .ref l2, .int l3], r.1.toList ++ [.int k0], r.2)) else none else none) := by
  refine ev_nx (s1 := (205, 231, [.retAddr 0, .ref l1, .ref l2, .int l3], [.ref l2, .int k0], (sh, M, J))) f_205_230 rfl ?_
  refine ev_nx (s1 := (205, 232, [.retAddr 0, .ref l1, .ref l2, .int l3], [.retAddr 0, .ref l2, .int k0], (sh, M, J))) f_205_231 rfl ?_
  refine ev_nx (s1 := (205, 233, [.retAddr 0, .ref l1, .ref l2, .int l3], [.int l3, .retAddr 0, .ref l2, .int k0], (sh, M, J))) f_205_232 rfl ?_
  refine ev_nx (s1 := (205, 234, [.retAddr 0, .ref l1, .ref l2, .int l3], [.int 1, .int l3, .retAddr 0, .ref l2, .int k0], (sh, M, J))) f_205_233 rfl ?_
  refine ev_nx (s1 := (205, 235, [.retAddr 0, .ref l1, .ref l2, .int l3], [.int (l3 + 1), .retAddr 0, .ref l2, .int k0], (sh, M, J))) f_205_234 rfl ?_
  refine ev_gd (s1 := (205, 236, [.retAddr 0, .ref l1, .ref l2, .int l3], [.int (M 0 ((l3 + 1) : Int32).toNatClampNeg), .ref l2, .int k0], (sh, M, J))) f_205_235 rfl ?_
  exact ev_ca (cc := (decide ((sh.2.2.1 l2).1 = 9) && true)) (s1 := (164, 0, [.ref l2, .int (M 0 ((l3 + 1) : Int32).toNatClampNeg)], [], (sh, M, J))) (k := (205, 239, [.retAddr 0, .ref l1, .ref l2, .int l3], [.int k0])) f_205_236 rfl
set_option maxRecDepth 100000 in
theorem b_law_239 (sh : xSh) (M : Nat → Nat → Int32) (J : Nat → Nat → Int64) (l1 : Nat) (l2 : Nat) (l3 : Int32) (k0 : Int32) (k1 : Int32) : ev (205, 239, [.retAddr 0, .ref l1, .ref l2, .int l3], [.int k0, .int k1], (sh, M, J)) = (bif decide (k1 = k0) then ev (205, 18, [.retAddr 0, .ref l1, .ref l2, .int (l3 + 4)], [], (sh, M, J)) else some (some (.int 0), (sh, M, J))) := by
  refine ev_br (s1 := (205, 911, [.retAddr 0, .ref l1, .ref l2, .int l3], [], (sh, M, J))) (s2 := (205, 242, [.retAddr 0, .ref l1, .ref l2, .int l3], [], (sh, M, J))) f_205_239 rfl ?_ ?_
  · refine ev_nx (s1 := (205, 914, [.retAddr 0, .ref l1, .ref l2, .int (l3 + 4)], [], (sh, M, J))) f_205_911 rfl ?_
    refine ev_nx (s1 := (205, 18, [.retAddr 0, .ref l1, .ref l2, .int (l3 + 4)], [], (sh, M, J))) f_205_914 rfl ?_
    exact rfl
  · refine ev_nx (s1 := (205, 243, [.retAddr 0, .ref l1, .ref l2, .int l3], [.int 0], (sh, M, J))) f_205_242 rfl ?_
    exact ev_r1 f_205_243 rfl
set_option maxRecDepth 100000 in
theorem b_law_258 (sh : xSh) (M : Nat → Nat → Int32) (J : Nat → Nat → Int64) (l1 : Nat) (l2 : Nat) (l3 : Int32) (k0 : Int32) : ev (205, 258, [.retAddr 0, .ref l1, .ref l2, .int l3], [.int k0], (sh, M, J)) = (bif (decide ((sh.2.2.1 0).1 = 12) && xin (l3 + 1) (sh.2.2.1 0).2) then bif (decide ((sh.2.2.1 0).1 = 12) && xin (l3 + 2) (sh.2.2.1 0).2) then bif (decide ((sh.2.2.1 l2).1 = 9) && true) then (ev (165, 0, [.ref l2, .int (M 0 ((l3 + 1) : Int32).toNatClampNeg), .int (M 0 ((l3 + 2) : Int32).toNatClampNeg)], [], (sh, M, J))).bind (fun r => ev (205, 272, [.retAddr 0, .ref l1, .ref l2, .int l3], r.1.toList ++ [.int k0], r.2)) else none else none else none) := by
  refine ev_nx (s1 := (205, 259, [.retAddr 0, .ref l1, .ref l2, .int l3], [.ref l2, .int k0], (sh, M, J))) f_205_258 rfl ?_
  refine ev_nx (s1 := (205, 260, [.retAddr 0, .ref l1, .ref l2, .int l3], [.retAddr 0, .ref l2, .int k0], (sh, M, J))) f_205_259 rfl ?_
  refine ev_nx (s1 := (205, 261, [.retAddr 0, .ref l1, .ref l2, .int l3], [.int l3, .retAddr 0, .ref l2, .int k0], (sh, M, J))) f_205_260 rfl ?_
  refine ev_nx (s1 := (205, 262, [.retAddr 0, .ref l1, .ref l2, .int l3], [.int 1, .int l3, .retAddr 0, .ref l2, .int k0], (sh, M, J))) f_205_261 rfl ?_
  refine ev_nx (s1 := (205, 263, [.retAddr 0, .ref l1, .ref l2, .int l3], [.int (l3 + 1), .retAddr 0, .ref l2, .int k0], (sh, M, J))) f_205_262 rfl ?_
  refine ev_gd (s1 := (205, 264, [.retAddr 0, .ref l1, .ref l2, .int l3], [.int (M 0 ((l3 + 1) : Int32).toNatClampNeg), .ref l2, .int k0], (sh, M, J))) f_205_263 rfl ?_
  refine ev_nx (s1 := (205, 265, [.retAddr 0, .ref l1, .ref l2, .int l3], [.retAddr 0, .int (M 0 ((l3 + 1) : Int32).toNatClampNeg), .ref l2, .int k0], (sh, M, J))) f_205_264 rfl ?_
  refine ev_nx (s1 := (205, 266, [.retAddr 0, .ref l1, .ref l2, .int l3], [.int l3, .retAddr 0, .int (M 0 ((l3 + 1) : Int32).toNatClampNeg), .ref l2, .int k0], (sh, M, J))) f_205_265 rfl ?_
  refine ev_nx (s1 := (205, 267, [.retAddr 0, .ref l1, .ref l2, .int l3], [.int 2, .int l3, .retAddr 0, .int (M 0 ((l3 + 1) : Int32).toNatClampNeg), .ref l2, .int k0], (sh, M, J))) f_205_266 rfl ?_
  refine ev_nx (s1 := (205, 268, [.retAddr 0, .ref l1, .ref l2, .int l3], [.int (l3 + 2), .retAddr 0, .int (M 0 ((l3 + 1) : Int32).toNatClampNeg), .ref l2, .int k0], (sh, M, J))) f_205_267 rfl ?_
  refine ev_gd (s1 := (205, 269, [.retAddr 0, .ref l1, .ref l2, .int l3], [.int (M 0 ((l3 + 2) : Int32).toNatClampNeg), .int (M 0 ((l3 + 1) : Int32).toNatClampNeg), .ref l2, .int k0], (sh, M, J))) f_205_268 rfl ?_
  exact ev_ca (cc := (decide ((sh.2.2.1 l2).1 = 9) && true)) (s1 := (165, 0, [.ref l2, .int (M 0 ((l3 + 1) : Int32).toNatClampNeg), .int (M 0 ((l3 + 2) : Int32).toNatClampNeg)], [], (sh, M, J))) (k := (205, 272, [.retAddr 0, .ref l1, .ref l2, .int l3], [.int k0])) f_205_269 rfl
set_option maxRecDepth 100000 in
theorem b_law_272 (sh : xSh) (M : Nat → Nat → Int32) (J : Nat → Nat → Int64) (l1 : Nat) (l2 : Nat) (l3 : Int32) (k0 : Int32) (k1 : Int32) : ev (205, 272, [.retAddr 0, .ref l1, .ref l2, .int l3], [.int k0, .int k1], (sh, M, J)) = (bif decide (k1 = k0) then ev (205, 18, [.retAddr 0, .ref l1, .ref l2, .int (l3 + 4)], [], (sh, M, J)) else some (some (.int 0), (sh, M, J))) := by
  refine ev_br (s1 := (205, 911, [.retAddr 0, .ref l1, .ref l2, .int l3], [], (sh, M, J))) (s2 := (205, 275, [.retAddr 0, .ref l1, .ref l2, .int l3], [], (sh, M, J))) f_205_272 rfl ?_ ?_
  · refine ev_nx (s1 := (205, 914, [.retAddr 0, .ref l1, .ref l2, .int (l3 + 4)], [], (sh, M, J))) f_205_911 rfl ?_
    refine ev_nx (s1 := (205, 18, [.retAddr 0, .ref l1, .ref l2, .int (l3 + 4)], [], (sh, M, J))) f_205_914 rfl ?_
    exact rfl
  · refine ev_nx (s1 := (205, 276, [.retAddr 0, .ref l1, .ref l2, .int l3], [.int 0], (sh, M, J))) f_205_275 rfl ?_
    exact ev_r1 f_205_276 rfl
set_option maxRecDepth 100000 in
theorem b_law_291 (sh : xSh) (M : Nat → Nat → Int32) (J : Nat → Nat → Int64) (l1 : Nat) (l2 : Nat) (l3 : Int32) (k0 : Int32) : ev (205, 291, [.retAddr 0, .ref l1, .ref l2, .int l3], [.int k0], (sh, M, J)) = (bif (decide ((sh.2.2.1 0).1 = 12) && xin (l3 + 1) (sh.2.2.1 0).2) then bif (decide ((sh.2.2.1 0).1 = 12) && xin (l3 + 2) (sh.2.2.1 0).2) then bif (decide ((sh.2.2.1 l2).1 = 9) && true) then (ev (166, 0, [.ref l2, .int (M 0 ((l3 + 1) : Int32).toNatClampNeg), .int (M 0 ((l3 + 2) : Int32).toNatClampNeg)], [], (sh, M, J))).bind (fun r => ev (205, 305, [.retAddr 0, .ref l1, .ref l2, .int l3], r.1.toList ++ [.int k0], r.2)) else none else none else none) := by
  refine ev_nx (s1 := (205, 292, [.retAddr 0, .ref l1, .ref l2, .int l3], [.ref l2, .int k0], (sh, M, J))) f_205_291 rfl ?_
  refine ev_nx (s1 := (205, 293, [.retAddr 0, .ref l1, .ref l2, .int l3], [.retAddr 0, .ref l2, .int k0], (sh, M, J))) f_205_292 rfl ?_
  refine ev_nx (s1 := (205, 294, [.retAddr 0, .ref l1, .ref l2, .int l3], [.int l3, .retAddr 0, .ref l2, .int k0], (sh, M, J))) f_205_293 rfl ?_
  refine ev_nx (s1 := (205, 295, [.retAddr 0, .ref l1, .ref l2, .int l3], [.int 1, .int l3, .retAddr 0, .ref l2, .int k0], (sh, M, J))) f_205_294 rfl ?_
  refine ev_nx (s1 := (205, 296, [.retAddr 0, .ref l1, .ref l2, .int l3], [.int (l3 + 1), .retAddr 0, .ref l2, .int k0], (sh, M, J))) f_205_295 rfl ?_
  refine ev_gd (s1 := (205, 297, [.retAddr 0, .ref l1, .ref l2, .int l3], [.int (M 0 ((l3 + 1) : Int32).toNatClampNeg), .ref l2, .int k0], (sh, M, J))) f_205_296 rfl ?_
  refine ev_nx (s1 := (205, 298, [.retAddr 0, .ref l1, .ref l2, .int l3], [.retAddr 0, .int (M 0 ((l3 + 1) : Int32).toNatClampNeg), .ref l2, .int k0], (sh, M, J))) f_205_297 rfl ?_
  refine ev_nx (s1 := (205, 299, [.retAddr 0, .ref l1, .ref l2, .int l3], [.int l3, .retAddr 0, .int (M 0 ((l3 + 1) : Int32).toNatClampNeg), .ref l2, .int k0], (sh, M, J))) f_205_298 rfl ?_
  refine ev_nx (s1 := (205, 300, [.retAddr 0, .ref l1, .ref l2, .int l3], [.int 2, .int l3, .retAddr 0, .int (M 0 ((l3 + 1) : Int32).toNatClampNeg), .ref l2, .int k0], (sh, M, J))) f_205_299 rfl ?_
  refine ev_nx (s1 := (205, 301, [.retAddr 0, .ref l1, .ref l2, .int l3], [.int (l3 + 2), .retAddr 0, .int (M 0 ((l3 + 1) : Int32).toNatClampNeg), .ref l2, .int k0], (sh, M, J))) f_205_300 rfl ?_
  refine ev_gd (s1 := (205, 302, [.retAddr 0, .ref l1, .ref l2, .int l3], [.int (M 0 ((l3 + 2) : Int32).toNatClampNeg), .int (M 0 ((l3 + 1) : Int32).toNatClampNeg), .ref l2, .int k0], (sh, M, J))) f_205_301 rfl ?_
  exact ev_ca (cc := (decide ((sh.2.2.1 l2).1 = 9) && true)) (s1 := (166, 0, [.ref l2, .int (M 0 ((l3 + 1) : Int32).toNatClampNeg), .int (M 0 ((l3 + 2) : Int32).toNatClampNeg)], [], (sh, M, J))) (k := (205, 305, [.retAddr 0, .ref l1, .ref l2, .int l3], [.int k0])) f_205_302 rfl
set_option maxRecDepth 100000 in
theorem b_law_305 (sh : xSh) (M : Nat → Nat → Int32) (J : Nat → Nat → Int64) (l1 : Nat) (l2 : Nat) (l3 : Int32) (k0 : Int32) (k1 : Int32) : ev (205, 305, [.retAddr 0, .ref l1, .ref l2, .int l3], [.int k0, .int k1], (sh, M, J)) = (bif decide (k1 = k0) then ev (205, 18, [.retAddr 0, .ref l1, .ref l2, .int (l3 + 4)], [], (sh, M, J)) else some (some (.int 0), (sh, M, J))) := by
  refine ev_br (s1 := (205, 911, [.retAddr 0, .ref l1, .ref l2, .int l3], [], (sh, M, J))) (s2 := (205, 308, [.retAddr 0, .ref l1, .ref l2, .int l3], [], (sh, M, J))) f_205_305 rfl ?_ ?_
  · refine ev_nx (s1 := (205, 914, [.retAddr 0, .ref l1, .ref l2, .int (l3 + 4)], [], (sh, M, J))) f_205_911 rfl ?_
    refine ev_nx (s1 := (205, 18, [.retAddr 0, .ref l1, .ref l2, .int (l3 + 4)], [], (sh, M, J))) f_205_914 rfl ?_
    exact rfl
  · refine ev_nx (s1 := (205, 309, [.retAddr 0, .ref l1, .ref l2, .int l3], [.int 0], (sh, M, J))) f_205_308 rfl ?_
    exact ev_r1 f_205_309 rfl
set_option maxRecDepth 100000 in
theorem b_law_324 (sh : xSh) (M : Nat → Nat → Int32) (J : Nat → Nat → Int64) (l1 : Nat) (l2 : Nat) (l3 : Int32) (k0 : Int32) : ev (205, 324, [.retAddr 0, .ref l1, .ref l2, .int l3], [.int k0], (sh, M, J)) = (bif (decide ((sh.2.2.1 0).1 = 12) && xin (l3 + 1) (sh.2.2.1 0).2) then bif (decide ((sh.2.2.1 0).1 = 12) && xin (l3 + 2) (sh.2.2.1 0).2) then bif (decide ((sh.2.2.1 l2).1 = 9) && true) then (ev (167, 0, [.ref l2, .int (M 0 ((l3 + 1) : Int32).toNatClampNeg), .int (M 0 ((l3 + 2) : Int32).toNatClampNeg)], [], (sh, M, J))).bind (fun r => ev (205, 338, [.retAddr 0, .ref l1, .ref l2, .int l3], r.1.toList ++ [.int k0], r.2)) else none else none else none) := by
  refine ev_nx (s1 := (205, 325, [.retAddr 0, .ref l1, .ref l2, .int l3], [.ref l2, .int k0], (sh, M, J))) f_205_324 rfl ?_
  refine ev_nx (s1 := (205, 326, [.retAddr 0, .ref l1, .ref l2, .int l3], [.retAddr 0, .ref l2, .int k0], (sh, M, J))) f_205_325 rfl ?_
  refine ev_nx (s1 := (205, 327, [.retAddr 0, .ref l1, .ref l2, .int l3], [.int l3, .retAddr 0, .ref l2, .int k0], (sh, M, J))) f_205_326 rfl ?_
  refine ev_nx (s1 := (205, 328, [.retAddr 0, .ref l1, .ref l2, .int l3], [.int 1, .int l3, .retAddr 0, .ref l2, .int k0], (sh, M, J))) f_205_327 rfl ?_
  refine ev_nx (s1 := (205, 329, [.retAddr 0, .ref l1, .ref l2, .int l3], [.int (l3 + 1), .retAddr 0, .ref l2, .int k0], (sh, M, J))) f_205_328 rfl ?_
  refine ev_gd (s1 := (205, 330, [.retAddr 0, .ref l1, .ref l2, .int l3], [.int (M 0 ((l3 + 1) : Int32).toNatClampNeg), .ref l2, .int k0], (sh, M, J))) f_205_329 rfl ?_
  refine ev_nx (s1 := (205, 331, [.retAddr 0, .ref l1, .ref l2, .int l3], [.retAddr 0, .int (M 0 ((l3 + 1) : Int32).toNatClampNeg), .ref l2, .int k0], (sh, M, J))) f_205_330 rfl ?_
  refine ev_nx (s1 := (205, 332, [.retAddr 0, .ref l1, .ref l2, .int l3], [.int l3, .retAddr 0, .int (M 0 ((l3 + 1) : Int32).toNatClampNeg), .ref l2, .int k0], (sh, M, J))) f_205_331 rfl ?_
  refine ev_nx (s1 := (205, 333, [.retAddr 0, .ref l1, .ref l2, .int l3], [.int 2, .int l3, .retAddr 0, .int (M 0 ((l3 + 1) : Int32).toNatClampNeg), .ref l2, .int k0], (sh, M, J))) f_205_332 rfl ?_
  refine ev_nx (s1 := (205, 334, [.retAddr 0, .ref l1, .ref l2, .int l3], [.int (l3 + 2), .retAddr 0, .int (M 0 ((l3 + 1) : Int32).toNatClampNeg), .ref l2, .int k0], (sh, M, J))) f_205_333 rfl ?_
  refine ev_gd (s1 := (205, 335, [.retAddr 0, .ref l1, .ref l2, .int l3], [.int (M 0 ((l3 + 2) : Int32).toNatClampNeg), .int (M 0 ((l3 + 1) : Int32).toNatClampNeg), .ref l2, .int k0], (sh, M, J))) f_205_334 rfl ?_
  exact ev_ca (cc := (decide ((sh.2.2.1 l2).1 = 9) && true)) (s1 := (167, 0, [.ref l2, .int (M 0 ((l3 + 1) : Int32).toNatClampNeg), .int (M 0 ((l3 + 2) : Int32).toNatClampNeg)], [], (sh, M, J))) (k := (205, 338, [.retAddr 0, .ref l1, .ref l2, .int l3], [.int k0])) f_205_335 rfl
set_option maxRecDepth 100000 in
theorem b_law_338 (sh : xSh) (M : Nat → Nat → Int32) (J : Nat → Nat → Int64) (l1 : Nat) (l2 : Nat) (l3 : Int32) (k0 : Int32) (k1 : Int32) : ev (205, 338, [.retAddr 0, .ref l1, .ref l2, .int l3], [.int k0, .int k1], (sh, M, J)) = (bif decide (k1 = k0) then ev (205, 18, [.retAddr 0, .ref l1, .ref l2, .int (l3 + 4)], [], (sh, M, J)) else some (some (.int 0), (sh, M, J))) := by
  refine ev_br (s1 := (205, 911, [.retAddr 0, .ref l1, .ref l2, .int l3], [], (sh, M, J))) (s2 := (205, 341, [.retAddr 0, .ref l1, .ref l2, .int l3], [], (sh, M, J))) f_205_338 rfl ?_ ?_
  · refine ev_nx (s1 := (205, 914, [.retAddr 0, .ref l1, .ref l2, .int (l3 + 4)], [], (sh, M, J))) f_205_911 rfl ?_
    refine ev_nx (s1 := (205, 18, [.retAddr 0, .ref l1, .ref l2, .int (l3 + 4)], [], (sh, M, J))) f_205_914 rfl ?_
    exact rfl
  · refine ev_nx (s1 := (205, 342, [.retAddr 0, .ref l1, .ref l2, .int l3], [.int 0], (sh, M, J))) f_205_341 rfl ?_
    exact ev_r1 f_205_342 rfl
set_option maxRecDepth 100000 in
theorem b_law_352 (sh : xSh) (M : Nat → Nat → Int32) (J : Nat → Nat → Int64) (l1 : Nat) (l2 : Nat) (l3 : Int32) (k0 : Int32) : ev (205, 352, [.retAddr 0, .ref l1, .ref l2, .int l3], [.int k0], (sh, M, J)) = (bif (decide ((sh.2.2.1 0).1 = 12) && xin (l3 + 1) (sh.2.2.1 0).2) then bif (decide ((sh.2.2.1 l2).1 = 9) && true) then (ev (170, 0, [.ref l2, .int (M 0 ((l3 + 1) : Int32).toNatClampNeg), .null, .null, .null], [], (sh, M, J))).bind (fun r => ev (205, 361, [.retAddr 0, .ref l1, .ref l2, .int l3], r.1.toList ++ [.int k0], r.2)) else none else none) := by
  refine ev_nx (s1 := (205, 353, [.retAddr 0, .ref l1, .ref l2, .int l3], [.ref l2, .int k0], (sh, M, J))) f_205_352 rfl ?_
  refine ev_nx (s1 := (205, 354, [.retAddr 0, .ref l1, .ref l2, .int l3], [.retAddr 0, .ref l2, .int k0], (sh, M, J))) f_205_353 rfl ?_
  refine ev_nx (s1 := (205, 355, [.retAddr 0, .ref l1, .ref l2, .int l3], [.int l3, .retAddr 0, .ref l2, .int k0], (sh, M, J))) f_205_354 rfl ?_
  refine ev_nx (s1 := (205, 356, [.retAddr 0, .ref l1, .ref l2, .int l3], [.int 1, .int l3, .retAddr 0, .ref l2, .int k0], (sh, M, J))) f_205_355 rfl ?_
  refine ev_nx (s1 := (205, 357, [.retAddr 0, .ref l1, .ref l2, .int l3], [.int (l3 + 1), .retAddr 0, .ref l2, .int k0], (sh, M, J))) f_205_356 rfl ?_
  refine ev_gd (s1 := (205, 358, [.retAddr 0, .ref l1, .ref l2, .int l3], [.int (M 0 ((l3 + 1) : Int32).toNatClampNeg), .ref l2, .int k0], (sh, M, J))) f_205_357 rfl ?_
  exact ev_ca (cc := (decide ((sh.2.2.1 l2).1 = 9) && true)) (s1 := (170, 0, [.ref l2, .int (M 0 ((l3 + 1) : Int32).toNatClampNeg), .null, .null, .null], [], (sh, M, J))) (k := (205, 361, [.retAddr 0, .ref l1, .ref l2, .int l3], [.int k0])) f_205_358 rfl
set_option maxRecDepth 100000 in
theorem b_law_361 (sh : xSh) (M : Nat → Nat → Int32) (J : Nat → Nat → Int64) (l1 : Nat) (l2 : Nat) (l3 : Int32) (k0 : Int32) (k1 : Int32) : ev (205, 361, [.retAddr 0, .ref l1, .ref l2, .int l3], [.int k0, .int k1], (sh, M, J)) = (bif decide (k1 = k0) then ev (205, 18, [.retAddr 0, .ref l1, .ref l2, .int (l3 + 4)], [], (sh, M, J)) else some (some (.int 0), (sh, M, J))) := by
  refine ev_br (s1 := (205, 911, [.retAddr 0, .ref l1, .ref l2, .int l3], [], (sh, M, J))) (s2 := (205, 364, [.retAddr 0, .ref l1, .ref l2, .int l3], [], (sh, M, J))) f_205_361 rfl ?_ ?_
  · refine ev_nx (s1 := (205, 914, [.retAddr 0, .ref l1, .ref l2, .int (l3 + 4)], [], (sh, M, J))) f_205_911 rfl ?_
    refine ev_nx (s1 := (205, 18, [.retAddr 0, .ref l1, .ref l2, .int (l3 + 4)], [], (sh, M, J))) f_205_914 rfl ?_
    exact rfl
  · refine ev_nx (s1 := (205, 365, [.retAddr 0, .ref l1, .ref l2, .int l3], [.int 0], (sh, M, J))) f_205_364 rfl ?_
    exact ev_r1 f_205_365 rfl
set_option maxRecDepth 100000 in
theorem b_law_375 (sh : xSh) (M : Nat → Nat → Int32) (J : Nat → Nat → Int64) (l1 : Nat) (l2 : Nat) (l3 : Int32) (k0 : Int32) : ev (205, 375, [.retAddr 0, .ref l1, .ref l2, .int l3], [.int k0], (sh, M, J)) = (bif (decide ((sh.2.2.1 0).1 = 12) && xin (l3 + 1) (sh.2.2.1 0).2) then bif (decide ((sh.2.2.1 l2).1 = 9) && true) then (ev (171, 0, [.ref l2, .int (M 0 ((l3 + 1) : Int32).toNatClampNeg)], [], (sh, M, J))).bind (fun r => ev (205, 384, [.retAddr 0, .ref l1, .ref l2, .int l3], r.1.toList ++ [.int k0], r.2)) else none else none) := by
  refine ev_nx (s1 := (205, 376, [.retAddr 0, .ref l1, .ref l2, .int l3], [.ref l2, .int k0], (sh, M, J))) f_205_375 rfl ?_
  refine ev_nx (s1 := (205, 377, [.retAddr 0, .ref l1, .ref l2, .int l3], [.retAddr 0, .ref l2, .int k0], (sh, M, J))) f_205_376 rfl ?_
  refine ev_nx (s1 := (205, 378, [.retAddr 0, .ref l1, .ref l2, .int l3], [.int l3, .retAddr 0, .ref l2, .int k0], (sh, M, J))) f_205_377 rfl ?_
  refine ev_nx (s1 := (205, 379, [.retAddr 0, .ref l1, .ref l2, .int l3], [.int 1, .int l3, .retAddr 0, .ref l2, .int k0], (sh, M, J))) f_205_378 rfl ?_
  refine ev_nx (s1 := (205, 380, [.retAddr 0, .ref l1, .ref l2, .int l3], [.int (l3 + 1), .retAddr 0, .ref l2, .int k0], (sh, M, J))) f_205_379 rfl ?_
  refine ev_gd (s1 := (205, 381, [.retAddr 0, .ref l1, .ref l2, .int l3], [.int (M 0 ((l3 + 1) : Int32).toNatClampNeg), .ref l2, .int k0], (sh, M, J))) f_205_380 rfl ?_
  exact ev_ca (cc := (decide ((sh.2.2.1 l2).1 = 9) && true)) (s1 := (171, 0, [.ref l2, .int (M 0 ((l3 + 1) : Int32).toNatClampNeg)], [], (sh, M, J))) (k := (205, 384, [.retAddr 0, .ref l1, .ref l2, .int l3], [.int k0])) f_205_381 rfl
set_option maxRecDepth 100000 in
theorem b_law_384 (sh : xSh) (M : Nat → Nat → Int32) (J : Nat → Nat → Int64) (l1 : Nat) (l2 : Nat) (l3 : Int32) (k0 : Int32) (k1 : Int32) : ev (205, 384, [.retAddr 0, .ref l1, .ref l2, .int l3], [.int k0, .int k1], (sh, M, J)) = (bif decide (k1 = k0) then ev (205, 18, [.retAddr 0, .ref l1, .ref l2, .int (l3 + 4)], [], (sh, M, J)) else some (some (.int 0), (sh, M, J))) := by
  refine ev_br (s1 := (205, 911, [.retAddr 0, .ref l1, .ref l2, .int l3], [], (sh, M, J))) (s2 := (205, 387, [.retAddr 0, .ref l1, .ref l2, .int l3], [], (sh, M, J))) f_205_384 rfl ?_ ?_
  · refine ev_nx (s1 := (205, 914, [.retAddr 0, .ref l1, .ref l2, .int (l3 + 4)], [], (sh, M, J))) f_205_911 rfl ?_
    refine ev_nx (s1 := (205, 18, [.retAddr 0, .ref l1, .ref l2, .int (l3 + 4)], [], (sh, M, J))) f_205_914 rfl ?_
    exact rfl
  · refine ev_nx (s1 := (205, 388, [.retAddr 0, .ref l1, .ref l2, .int l3], [.int 0], (sh, M, J))) f_205_387 rfl ?_
    exact ev_r1 f_205_388 rfl
set_option maxRecDepth 100000 in
theorem b_law_403 (sh : xSh) (M : Nat → Nat → Int32) (J : Nat → Nat → Int64) (l1 : Nat) (l2 : Nat) (l3 : Int32) (k0 : Int32) : ev (205, 403, [.retAddr 0, .ref l1, .ref l2, .int l3], [.int k0], (sh, M, J)) = (bif (decide ((sh.2.2.1 0).1 = 12) && xin (l3 + 1) (sh.2.2.1 0).2) then bif (decide ((sh.2.2.1 0).1 = 12) && xin (l3 + 2) (sh.2.2.1 0).2) then bif (decide ((sh.2.2.1 l2).1 = 9) && true) then (ev (172, 0, [.ref l2, .int (M 0 ((l3 + 1) : Int32).toNatClampNeg), .int (M 0 ((l3 + 2) : Int32).toNatClampNeg), .null], [], (sh, M, J))).bind (fun r => ev (205, 417, [.retAddr 0, .ref l1, .ref l2, .int l3], r.1.toList ++ [.int k0], r.2)) else none else none else none) := by
  refine ev_nx (s1 := (205, 404, [.retAddr 0, .ref l1, .ref l2, .int l3], [.ref l2, .int k0], (sh, M, J))) f_205_403 rfl ?_
  refine ev_nx (s1 := (205, 405, [.retAddr 0, .ref l1, .ref l2, .int l3], [.retAddr 0, .ref l2, .int k0], (sh, M, J))) f_205_404 rfl ?_
  refine ev_nx (s1 := (205, 406, [.retAddr 0, .ref l1, .ref l2, .int l3], [.int l3, .retAddr 0, .ref l2, .int k0], (sh, M, J))) f_205_405 rfl ?_
  refine ev_nx (s1 := (205, 407, [.retAddr 0, .ref l1, .ref l2, .int l3], [.int 1, .int l3, .retAddr 0, .ref l2, .int k0], (sh, M, J))) f_205_406 rfl ?_
  refine ev_nx (s1 := (205, 408, [.retAddr 0, .ref l1, .ref l2, .int l3], [.int (l3 + 1), .retAddr 0, .ref l2, .int k0], (sh, M, J))) f_205_407 rfl ?_
  refine ev_gd (s1 := (205, 409, [.retAddr 0, .ref l1, .ref l2, .int l3], [.int (M 0 ((l3 + 1) : Int32).toNatClampNeg), .ref l2, .int k0], (sh, M, J))) f_205_408 rfl ?_
  refine ev_nx (s1 := (205, 410, [.retAddr 0, .ref l1, .ref l2, .int l3], [.retAddr 0, .int (M 0 ((l3 + 1) : Int32).toNatClampNeg), .ref l2, .int k0], (sh, M, J))) f_205_409 rfl ?_
  refine ev_nx (s1 := (205, 411, [.retAddr 0, .ref l1, .ref l2, .int l3], [.int l3, .retAddr 0, .int (M 0 ((l3 + 1) : Int32).toNatClampNeg), .ref l2, .int k0], (sh, M, J))) f_205_410 rfl ?_
  refine ev_nx (s1 := (205, 412, [.retAddr 0, .ref l1, .ref l2, .int l3], [.int 2, .int l3, .retAddr 0, .int (M 0 ((l3 + 1) : Int32).toNatClampNeg), .ref l2, .int k0], (sh, M, J))) f_205_411 rfl ?_
  refine ev_nx (s1 := (205, 413, [.retAddr 0, .ref l1, .ref l2, .int l3], [.int (l3 + 2), .retAddr 0, .int (M 0 ((l3 + 1) : Int32).toNatClampNeg), .ref l2, .int k0], (sh, M, J))) f_205_412 rfl ?_
  refine ev_gd (s1 := (205, 414, [.retAddr 0, .ref l1, .ref l2, .int l3], [.int (M 0 ((l3 + 2) : Int32).toNatClampNeg), .int (M 0 ((l3 + 1) : Int32).toNatClampNeg), .ref l2, .int k0], (sh, M, J))) f_205_413 rfl ?_
  exact ev_ca (cc := (decide ((sh.2.2.1 l2).1 = 9) && true)) (s1 := (172, 0, [.ref l2, .int (M 0 ((l3 + 1) : Int32).toNatClampNeg), .int (M 0 ((l3 + 2) : Int32).toNatClampNeg), .null], [], (sh, M, J))) (k := (205, 417, [.retAddr 0, .ref l1, .ref l2, .int l3], [.int k0])) f_205_414 rfl
set_option maxRecDepth 100000 in
theorem b_law_417 (sh : xSh) (M : Nat → Nat → Int32) (J : Nat → Nat → Int64) (l1 : Nat) (l2 : Nat) (l3 : Int32) (k0 : Int32) (k1 : Int32) : ev (205, 417, [.retAddr 0, .ref l1, .ref l2, .int l3], [.int k0, .int k1], (sh, M, J)) = (bif decide (k1 = k0) then ev (205, 18, [.retAddr 0, .ref l1, .ref l2, .int (l3 + 4)], [], (sh, M, J)) else some (some (.int 0), (sh, M, J))) := by
  refine ev_br (s1 := (205, 911, [.retAddr 0, .ref l1, .ref l2, .int l3], [], (sh, M, J))) (s2 := (205, 420, [.retAddr 0, .ref l1, .ref l2, .int l3], [], (sh, M, J))) f_205_417 rfl ?_ ?_
  · refine ev_nx (s1 := (205, 914, [.retAddr 0, .ref l1, .ref l2, .int (l3 + 4)], [], (sh, M, J))) f_205_911 rfl ?_
    refine ev_nx (s1 := (205, 18, [.retAddr 0, .ref l1, .ref l2, .int (l3 + 4)], [], (sh, M, J))) f_205_914 rfl ?_
    exact rfl
  · refine ev_nx (s1 := (205, 421, [.retAddr 0, .ref l1, .ref l2, .int l3], [.int 0], (sh, M, J))) f_205_420 rfl ?_
    exact ev_r1 f_205_421 rfl
set_option maxRecDepth 100000 in
theorem b_law_441 (sh : xSh) (M : Nat → Nat → Int32) (J : Nat → Nat → Int64) (l1 : Nat) (l2 : Nat) (l3 : Int32) (k0 : Int32) : ev (205, 441, [.retAddr 0, .ref l1, .ref l2, .int l3], [.int k0], (sh, M, J)) = (bif (decide ((sh.2.2.1 0).1 = 12) && xin (l3 + 1) (sh.2.2.1 0).2) then bif (decide ((sh.2.2.1 0).1 = 12) && xin (l3 + 2) (sh.2.2.1 0).2) then bif (decide ((sh.2.2.1 0).1 = 12) && xin (l3 + 3) (sh.2.2.1 0).2) then bif (decide ((sh.2.2.1 l2).1 = 9) && true) then (ev (173, 0, [.ref l2, .int (M 0 ((l3 + 1) : Int32).toNatClampNeg), .int (M 0 ((l3 + 2) : Int32).toNatClampNeg), .int (M 0 ((l3 + 3) : Int32).toNatClampNeg), .null], [], (sh, M, J))).bind (fun r => ev (205, 460, [.retAddr 0, .ref l1, .ref l2, .int l3], r.1.toList ++ [.int k0], r.2)) else none else none else none else none) := by
  refine ev_nx (s1 := (205, 442, [.retAddr 0, .ref l1, .ref l2, .int l3], [.ref l2, .int k0], (sh, M, J))) f_205_441 rfl ?_
  refine ev_nx (s1 := (205, 443, [.retAddr 0, .ref l1, .ref l2, .int l3], [.retAddr 0, .ref l2, .int k0], (sh, M, J))) f_205_442 rfl ?_
  refine ev_nx (s1 := (205, 444, [.retAddr 0, .ref l1, .ref l2, .int l3], [.int l3, .retAddr 0, .ref l2, .int k0], (sh, M, J))) f_205_443 rfl ?_
  refine ev_nx (s1 := (205, 445, [.retAddr 0, .ref l1, .ref l2, .int l3], [.int 1, .int l3, .retAddr 0, .ref l2, .int k0], (sh, M, J))) f_205_444 rfl ?_
  refine ev_nx (s1 := (205, 446, [.retAddr 0, .ref l1, .ref l2, .int l3], [.int (l3 + 1), .retAddr 0, .ref l2, .int k0], (sh, M, J))) f_205_445 rfl ?_
  refine ev_gd (s1 := (205, 447, [.retAddr 0, .ref l1, .ref l2, .int l3], [.int (M 0 ((l3 + 1) : Int32).toNatClampNeg), .ref l2, .int k0], (sh, M, J))) f_205_446 rfl ?_
  refine ev_nx (s1 := (205, 448, [.retAddr 0, .ref l1, .ref l2, .int l3], [.retAddr 0, .int (M 0 ((l3 + 1) : Int32).toNatClampNeg), .ref l2, .int k0], (sh, M, J))) f_205_447 rfl ?_
  refine ev_nx (s1 := (205, 449, [.retAddr 0, .ref l1, .ref l2, .int l3], [.int l3, .retAddr 0, .int (M 0 ((l3 + 1) : Int32).toNatClampNeg), .ref l2, .int k0], (sh, M, J))) f_205_448 rfl ?_
  refine ev_nx (s1 := (205, 450, [.retAddr 0, .ref l1, .ref l2, .int l3], [.int 2, .int l3, .retAddr 0, .int (M 0 ((l3 + 1) : Int32).toNatClampNeg), .ref l2, .int k0], (sh, M, J))) f_205_449 rfl ?_
  refine ev_nx (s1 := (205, 451, [.retAddr 0, .ref l1, .ref l2, .int l3], [.int (l3 + 2), .retAddr 0, .int (M 0 ((l3 + 1) : Int32).toNatClampNeg), .ref l2, .int k0], (sh, M, J))) f_205_450 rfl ?_
  refine ev_gd (s1 := (205, 452, [.retAddr 0, .ref l1, .ref l2, .int l3], [.int (M 0 ((l3 + 2) : Int32).toNatClampNeg), .int (M 0 ((l3 + 1) : Int32).toNatClampNeg), .ref l2, .int k0], (sh, M, J))) f_205_451 rfl ?_
  refine ev_nx (s1 := (205, 453, [.retAddr 0, .ref l1, .ref l2, .int l3], [.retAddr 0, .int (M 0 ((l3 + 2) : Int32).toNatClampNeg), .int (M 0 ((l3 + 1) : Int32).toNatClampNeg), .ref l2, .int k0], (sh, M, J))) f_205_452 rfl ?_
  refine ev_nx (s1 := (205, 454, [.retAddr 0, .ref l1, .ref l2, .int l3], [.int l3, .retAddr 0, .int (M 0 ((l3 + 2) : Int32).toNatClampNeg), .int (M 0 ((l3 + 1) : Int32).toNatClampNeg), .ref l2, .int k0], (sh, M, J))) f_205_453 rfl ?_
  refine ev_nx (s1 := (205, 455, [.retAddr 0, .ref l1, .ref l2, .int l3], [.int 3, .int l3, .retAddr 0, .int (M 0 ((l3 + 2) : Int32).toNatClampNeg), .int (M 0 ((l3 + 1) : Int32).toNatClampNeg), .ref l2, .int k0], (sh, M, J))) f_205_454 rfl ?_
  refine ev_nx (s1 := (205, 456, [.retAddr 0, .ref l1, .ref l2, .int l3], [.int (l3 + 3), .retAddr 0, .int (M 0 ((l3 + 2) : Int32).toNatClampNeg), .int (M 0 ((l3 + 1) : Int32).toNatClampNeg), .ref l2, .int k0], (sh, M, J))) f_205_455 rfl ?_
  refine ev_gd (s1 := (205, 457, [.retAddr 0, .ref l1, .ref l2, .int l3], [.int (M 0 ((l3 + 3) : Int32).toNatClampNeg), .int (M 0 ((l3 + 2) : Int32).toNatClampNeg), .int (M 0 ((l3 + 1) : Int32).toNatClampNeg), .ref l2, .int k0], (sh, M, J))) f_205_456 rfl ?_
  exact ev_ca (cc := (decide ((sh.2.2.1 l2).1 = 9) && true)) (s1 := (173, 0, [.ref l2, .int (M 0 ((l3 + 1) : Int32).toNatClampNeg), .int (M 0 ((l3 + 2) : Int32).toNatClampNeg), .int (M 0 ((l3 + 3) : Int32).toNatClampNeg), .null], [], (sh, M, J))) (k := (205, 460, [.retAddr 0, .ref l1, .ref l2, .int l3], [.int k0])) f_205_457 rfl
set_option maxRecDepth 100000 in
theorem b_law_460 (sh : xSh) (M : Nat → Nat → Int32) (J : Nat → Nat → Int64) (l1 : Nat) (l2 : Nat) (l3 : Int32) (k0 : Int32) (k1 : Int32) : ev (205, 460, [.retAddr 0, .ref l1, .ref l2, .int l3], [.int k0, .int k1], (sh, M, J)) = (bif decide (k1 = k0) then ev (205, 18, [.retAddr 0, .ref l1, .ref l2, .int (l3 + 4)], [], (sh, M, J)) else some (some (.int 0), (sh, M, J))) := by
  refine ev_br (s1 := (205, 911, [.retAddr 0, .ref l1, .ref l2, .int l3], [], (sh, M, J))) (s2 := (205, 463, [.retAddr 0, .ref l1, .ref l2, .int l3], [], (sh, M, J))) f_205_460 rfl ?_ ?_
  · refine ev_nx (s1 := (205, 914, [.retAddr 0, .ref l1, .ref l2, .int (l3 + 4)], [], (sh, M, J))) f_205_911 rfl ?_
    refine ev_nx (s1 := (205, 18, [.retAddr 0, .ref l1, .ref l2, .int (l3 + 4)], [], (sh, M, J))) f_205_914 rfl ?_
    exact rfl
  · refine ev_nx (s1 := (205, 464, [.retAddr 0, .ref l1, .ref l2, .int l3], [.int 0], (sh, M, J))) f_205_463 rfl ?_
    exact ev_r1 f_205_464 rfl
set_option maxRecDepth 100000 in
theorem b_law_474 (sh : xSh) (M : Nat → Nat → Int32) (J : Nat → Nat → Int64) (l1 : Nat) (l2 : Nat) (l3 : Int32) (k0 : Int32) : ev (205, 474, [.retAddr 0, .ref l1, .ref l2, .int l3], [.int k0], (sh, M, J)) = (bif (decide ((sh.2.2.1 0).1 = 12) && xin (l3 + 1) (sh.2.2.1 0).2) then bif (decide ((sh.2.2.1 l2).1 = 9) && true) then (ev (175, 0, [.ref l2, .int (M 0 ((l3 + 1) : Int32).toNatClampNeg), .null, .null, .null, .null, .null], [], (sh, M, J))).bind (fun r => ev (205, 483, [.retAddr 0, .ref l1, .ref l2, .int l3], r.1.toList ++ [.int k0], r.2)) else none else none) := by
  refine ev_nx (s1 := (205, 475, [.retAddr 0, .ref l1, .ref l2, .int l3], [.ref l2, .int k0], (sh, M, J))) f_205_474 rfl ?_
  refine ev_nx (s1 := (205, 476, [.retAddr 0, .ref l1, .ref l2, .int l3], [.retAddr 0, .ref l2, .int k0], (sh, M, J))) f_205_475 rfl ?_
  refine ev_nx (s1 := (205, 477, [.retAddr 0, .ref l1, .ref l2, .int l3], [.int l3, .retAddr 0, .ref l2, .int k0], (sh, M, J))) f_205_476 rfl ?_
  refine ev_nx (s1 := (205, 478, [.retAddr 0, .ref l1, .ref l2, .int l3], [.int 1, .int l3, .retAddr 0, .ref l2, .int k0], (sh, M, J))) f_205_477 rfl ?_
  refine ev_nx (s1 := (205, 479, [.retAddr 0, .ref l1, .ref l2, .int l3], [.int (l3 + 1), .retAddr 0, .ref l2, .int k0], (sh, M, J))) f_205_478 rfl ?_
  refine ev_gd (s1 := (205, 480, [.retAddr 0, .ref l1, .ref l2, .int l3], [.int (M 0 ((l3 + 1) : Int32).toNatClampNeg), .ref l2, .int k0], (sh, M, J))) f_205_479 rfl ?_
  exact ev_ca (cc := (decide ((sh.2.2.1 l2).1 = 9) && true)) (s1 := (175, 0, [.ref l2, .int (M 0 ((l3 + 1) : Int32).toNatClampNeg), .null, .null, .null, .null, .null], [], (sh, M, J))) (k := (205, 483, [.retAddr 0, .ref l1, .ref l2, .int l3], [.int k0])) f_205_480 rfl
set_option maxRecDepth 100000 in
theorem b_law_483 (sh : xSh) (M : Nat → Nat → Int32) (J : Nat → Nat → Int64) (l1 : Nat) (l2 : Nat) (l3 : Int32) (k0 : Int32) (k1 : Int32) : ev (205, 483, [.retAddr 0, .ref l1, .ref l2, .int l3], [.int k0, .int k1], (sh, M, J)) = (bif decide (k1 = k0) then ev (205, 18, [.retAddr 0, .ref l1, .ref l2, .int (l3 + 4)], [], (sh, M, J)) else some (some (.int 0), (sh, M, J))) := by
  refine ev_br (s1 := (205, 911, [.retAddr 0, .ref l1, .ref l2, .int l3], [], (sh, M, J))) (s2 := (205, 486, [.retAddr 0, .ref l1, .ref l2, .int l3], [], (sh, M, J))) f_205_483 rfl ?_ ?_
  · refine ev_nx (s1 := (205, 914, [.retAddr 0, .ref l1, .ref l2, .int (l3 + 4)], [], (sh, M, J))) f_205_911 rfl ?_
    refine ev_nx (s1 := (205, 18, [.retAddr 0, .ref l1, .ref l2, .int (l3 + 4)], [], (sh, M, J))) f_205_914 rfl ?_
    exact rfl
  · refine ev_nx (s1 := (205, 487, [.retAddr 0, .ref l1, .ref l2, .int l3], [.int 0], (sh, M, J))) f_205_486 rfl ?_
    exact ev_r1 f_205_487 rfl
set_option maxRecDepth 100000 in
theorem b_law_492 (sh : xSh) (M : Nat → Nat → Int32) (J : Nat → Nat → Int64) (l1 : Nat) (l2 : Nat) (l3 : Int32) (k0 : Int32) : ev (205, 492, [.retAddr 0, .ref l1, .ref l2, .int l3], [.int k0], (sh, M, J)) = (bif (decide ((sh.2.2.1 l2).1 = 9) && true) then (ev (176, 0, [.ref l2], [], (sh, M, J))).bind (fun r => ev (205, 496, [.retAddr 0, .ref l1, .ref l2, .int l3], r.1.toList ++ [.int k0], r.2)) else none) := by
  refine ev_nx (s1 := (205, 493, [.retAddr 0, .ref l1, .ref l2, .int l3], [.ref l2, .int k0], (sh, M, J))) f_205_492 rfl ?_
  exact ev_ca (cc := (decide ((sh.2.2.1 l2).1 = 9) && true)) (s1 := (176, 0, [.ref l2], [], (sh, M, J))) (k := (205, 496, [.retAddr 0, .ref l1, .ref l2, .int l3], [.int k0])) f_205_493 rfl
set_option maxRecDepth 100000 in
theorem b_law_496 (sh : xSh) (M : Nat → Nat → Int32) (J : Nat → Nat → Int64) (l1 : Nat) (l2 : Nat) (l3 : Int32) (k0 : Int32) (k1 : Int32) : ev (205, 496, [.retAddr 0, .ref l1, .ref l2, .int l3], [.int k0, .int k1], (sh, M, J)) = (bif decide (k1 = k0) then ev (205, 18, [.retAddr 0, .ref l1, .ref l2, .int (l3 + 4)], [], (sh, M, J)) else some (some (.int 0), (sh, M, J))) := by
  refine ev_br (s1 := (205, 911, [.retAddr 0, .ref l1, .ref l2, .int l3], [], (sh, M, J))) (s2 := (205, 499, [.retAddr 0, .ref l1, .ref l2, .int l3], [], (sh, M, J))) f_205_496 rfl ?_ ?_
  · refine ev_nx (s1 := (205, 914, [.retAddr 0, .ref l1, .ref l2, .int (l3 + 4)], [], (sh, M, J))) f_205_911 rfl ?_
    refine ev_nx (s1 := (205, 18, [.retAddr 0, .ref l1, .ref l2, .int (l3 + 4)], [], (sh, M, J))) f_205_914 rfl ?_
    exact rfl
  · refine ev_nx (s1 := (205, 500, [.retAddr 0, .ref l1, .ref l2, .int l3], [.int 0], (sh, M, J))) f_205_499 rfl ?_
    exact ev_r1 f_205_500 rfl
set_option maxRecDepth 100000 in
theorem b_law_510 (sh : xSh) (M : Nat → Nat → Int32) (J : Nat → Nat → Int64) (l1 : Nat) (l2 : Nat) (l3 : Int32) (k0 : Int32) : ev (205, 510, [.retAddr 0, .ref l1, .ref l2, .int l3], [.int k0], (sh, M, J)) = (bif (decide ((sh.2.2.1 0).1 = 12) && xin (l3 + 1) (sh.2.2.1 0).2) then bif (decide ((sh.2.2.1 l2).1 = 9) && true) then (ev (178, 0, [.ref l2, .int (M 0 ((l3 + 1) : Int32).toNatClampNeg), .null, .null], [], (sh, M, J))).bind (fun r => ev (205, 519, [.retAddr 0, .ref l1, .ref l2, .int l3], r.1.toList ++ [.int k0], r.2)) else none else none) := by
  refine ev_nx (s1 := (205, 511, [.retAddr 0, .ref l1, .ref l2, .int l3], [.ref l2, .int k0], (sh, M, J))) f_205_510 rfl ?_
  refine ev_nx (s1 := (205, 512, [.retAddr 0, .ref l1, .ref l2, .int l3], [.retAddr 0, .ref l2, .int k0], (sh, M, J))) f_205_511 rfl ?_
  refine ev_nx (s1 := (205, 513, [.retAddr 0, .ref l1, .ref l2, .int l3], [.int l3, .retAddr 0, .ref l2, .int k0], (sh, M, J))) f_205_512 rfl ?_
  refine ev_nx (s1 := (205, 514, [.retAddr 0, .ref l1, .ref l2, .int l3], [.int 1, .int l3, .retAddr 0, .ref l2, .int k0], (sh, M, J))) f_205_513 rfl ?_
  refine ev_nx (s1 := (205, 515, [.retAddr 0, .ref l1, .ref l2, .int l3], [.int (l3 + 1), .retAddr 0, .ref l2, .int k0], (sh, M, J))) f_205_514 rfl ?_
  refine ev_gd (s1 := (205, 516, [.retAddr 0, .ref l1, .ref l2, .int l3], [.int (M 0 ((l3 + 1) : Int32).toNatClampNeg), .ref l2, .int k0], (sh, M, J))) f_205_515 rfl ?_
  exact ev_ca (cc := (decide ((sh.2.2.1 l2).1 = 9) && true)) (s1 := (178, 0, [.ref l2, .int (M 0 ((l3 + 1) : Int32).toNatClampNeg), .null, .null], [], (sh, M, J))) (k := (205, 519, [.retAddr 0, .ref l1, .ref l2, .int l3], [.int k0])) f_205_516 rfl
set_option maxRecDepth 100000 in
theorem b_law_519 (sh : xSh) (M : Nat → Nat → Int32) (J : Nat → Nat → Int64) (l1 : Nat) (l2 : Nat) (l3 : Int32) (k0 : Int32) (k1 : Int32) : ev (205, 519, [.retAddr 0, .ref l1, .ref l2, .int l3], [.int k0, .int k1], (sh, M, J)) = (bif decide (k1 = k0) then ev (205, 18, [.retAddr 0, .ref l1, .ref l2, .int (l3 + 4)], [], (sh, M, J)) else some (some (.int 0), (sh, M, J))) := by
  refine ev_br (s1 := (205, 911, [.retAddr 0, .ref l1, .ref l2, .int l3], [], (sh, M, J))) (s2 := (205, 522, [.retAddr 0, .ref l1, .ref l2, .int l3], [], (sh, M, J))) f_205_519 rfl ?_ ?_
  · refine ev_nx (s1 := (205, 914, [.retAddr 0, .ref l1, .ref l2, .int (l3 + 4)], [], (sh, M, J))) f_205_911 rfl ?_
    refine ev_nx (s1 := (205, 18, [.retAddr 0, .ref l1, .ref l2, .int (l3 + 4)], [], (sh, M, J))) f_205_914 rfl ?_
    exact rfl
  · refine ev_nx (s1 := (205, 523, [.retAddr 0, .ref l1, .ref l2, .int l3], [.int 0], (sh, M, J))) f_205_522 rfl ?_
    exact ev_r1 f_205_523 rfl
set_option maxRecDepth 100000 in
theorem b_law_528 (sh : xSh) (M : Nat → Nat → Int32) (J : Nat → Nat → Int64) (l1 : Nat) (l2 : Nat) (l3 : Int32) (k0 : Int32) : ev (205, 528, [.retAddr 0, .ref l1, .ref l2, .int l3], [.int k0], (sh, M, J)) = (bif (decide ((sh.2.2.1 l2).1 = 9) && true) then (ev (179, 0, [.ref l2, .null, .null], [], (sh, M, J))).bind (fun r => ev (205, 532, [.retAddr 0, .ref l1, .ref l2, .int l3], r.1.toList ++ [.int k0], r.2)) else none) := by
  refine ev_nx (s1 := (205, 529, [.retAddr 0, .ref l1, .ref l2, .int l3], [.ref l2, .int k0], (sh, M, J))) f_205_528 rfl ?_
  exact ev_ca (cc := (decide ((sh.2.2.1 l2).1 = 9) && true)) (s1 := (179, 0, [.ref l2, .null, .null], [], (sh, M, J))) (k := (205, 532, [.retAddr 0, .ref l1, .ref l2, .int l3], [.int k0])) f_205_529 rfl
set_option maxRecDepth 100000 in
theorem b_law_532 (sh : xSh) (M : Nat → Nat → Int32) (J : Nat → Nat → Int64) (l1 : Nat) (l2 : Nat) (l3 : Int32) (k0 : Int32) (k1 : Int32) : ev (205, 532, [.retAddr 0, .ref l1, .ref l2, .int l3], [.int k0, .int k1], (sh, M, J)) = (bif decide (k1 = k0) then ev (205, 18, [.retAddr 0, .ref l1, .ref l2, .int (l3 + 4)], [], (sh, M, J)) else some (some (.int 0), (sh, M, J))) := by
  refine ev_br (s1 := (205, 911, [.retAddr 0, .ref l1, .ref l2, .int l3], [], (sh, M, J))) (s2 := (205, 535, [.retAddr 0, .ref l1, .ref l2, .int l3], [], (sh, M, J))) f_205_532 rfl ?_ ?_
  · refine ev_nx (s1 := (205, 914, [.retAddr 0, .ref l1, .ref l2, .int (l3 + 4)], [], (sh, M, J))) f_205_911 rfl ?_
    refine ev_nx (s1 := (205, 18, [.retAddr 0, .ref l1, .ref l2, .int (l3 + 4)], [], (sh, M, J))) f_205_914 rfl ?_
    exact rfl
  · refine ev_nx (s1 := (205, 536, [.retAddr 0, .ref l1, .ref l2, .int l3], [.int 0], (sh, M, J))) f_205_535 rfl ?_
    exact ev_r1 f_205_536 rfl
set_option maxRecDepth 100000 in
theorem b_law_556 (sh : xSh) (M : Nat → Nat → Int32) (J : Nat → Nat → Int64) (l1 : Nat) (l2 : Nat) (l3 : Int32) (k0 : Int32) : ev (205, 556, [.retAddr 0, .ref l1, .ref l2, .int l3], [.int k0], (sh, M, J)) = (bif (decide ((sh.2.2.1 0).1 = 12) && xin (l3 + 1) (sh.2.2.1 0).2) then bif (decide ((sh.2.2.1 0).1 = 12) && xin (l3 + 2) (sh.2.2.1 0).2) then bif (decide ((sh.2.2.1 0).1 = 12) && xin (l3 + 3) (sh.2.2.1 0).2) then bif (decide ((sh.2.2.1 l2).1 = 9) && true) then (ev (182, 0, [.ref l2, .int (M 0 ((l3 + 1) : Int32).toNatClampNeg), .int (M 0 ((l3 + 2) : Int32).toNatClampNeg), .int (M 0 ((l3 + 3) : Int32).toNatClampNeg), .null, .null, .null, .null], [], (sh, M, J))).bind (fun r => ev (205, 575, [.retAddr 0, .ref l1, .ref l2, .int l3], r.1.toList ++ [.int k0], r.2)) else none else none else none else none) := by
  refine ev_nx (s1 := (205, 557, [.retAddr 0, .ref l1, .ref l2, .int l3], [.ref l2, .int k0], (sh, M, J))) f_205_556 rfl ?_
  refine ev_nx (s1 := (205, 558, [.retAddr 0, .ref l1, .ref l2, .int l3], [.retAddr 0, .ref l2, .int k0], (sh, M, J))) f_205_557 rfl ?_
  refine ev_nx (s1 := (205, 559, [.retAddr 0, .ref l1, .ref l2, .int l3], [.int l3, .retAddr 0, .ref l2, .int k0], (sh, M, J))) f_205_558 rfl ?_
  refine ev_nx (s1 := (205, 560, [.retAddr 0, .ref l1, .ref l2, .int l3], [.int 1, .int l3, .retAddr 0, .ref l2, .int k0], (sh, M, J))) f_205_559 rfl ?_
  refine ev_nx (s1 := (205, 561, [.retAddr 0, .ref l1, .ref l2, .int l3], [.int (l3 + 1), .retAddr 0, .ref l2, .int k0], (sh, M, J))) f_205_560 rfl ?_
  refine ev_gd (s1 := (205, 562, [.retAddr 0, .ref l1, .ref l2, .int l3], [.int (M 0 ((l3 + 1) : Int32).toNatClampNeg), .ref l2, .int k0], (sh, M, J))) f_205_561 rfl ?_
  refine ev_nx (s1 := (205, 563, [.retAddr 0, .ref l1, .ref l2, .int l3], [.retAddr 0, .int (M 0 ((l3 + 1) : Int32).toNatClampNeg), .ref l2, .int k0], (sh, M, J))) f_205_562 rfl ?_
  refine ev_nx (s1 := (205, 564, [.retAddr 0, .ref l1, .ref l2, .int l3], [.int l3, .retAddr 0, .int (M 0 ((l3 + 1) : Int32).toNatClampNeg), .ref l2, .int k0], (sh, M, J))) f_205_563 rfl ?_
  refine ev_nx (s1 := (205, 565, [.retAddr 0, .ref l1, .ref l2, .int l3], [.int 2, .int l3, .retAddr 0, .int (M 0 ((l3 + 1) : Int32).toNatClampNeg), .ref l2, .int k0], (sh, M, J))) f_205_564 rfl ?_
  refine ev_nx (s1 := (205, 566, [.retAddr 0, .ref l1, .ref l2, .int l3], [.int (l3 + 2), .retAddr 0, .int (M 0 ((l3 + 1) : Int32).toNatClampNeg), .ref l2, .int k0], (sh, M, J))) f_205_565 rfl ?_
  refine ev_gd (s1 := (205, 567, [.retAddr 0, .ref l1, .ref l2, .int l3], [.int (M 0 ((l3 + 2) : Int32).toNatClampNeg), .int (M 0 ((l3 + 1) : Int32).toNatClampNeg), .ref l2, .int k0], (sh, M, J))) f_205_566 rfl ?_
  refine ev_nx (s1 := (205, 568, [.retAddr 0, .ref l1, .ref l2, .int l3], [.retAddr 0, .int (M 0 ((l3 + 2) : Int32).toNatClampNeg), .int (M 0 ((l3 + 1) : Int32).toNatClampNeg), .ref l2, .int k0], (sh, M, J))) f_205_567 rfl ?_
  refine ev_nx (s1 := (205, 569, [.retAddr 0, .ref l1, .ref l2, .int l3], [.int l3, .retAddr 0, .int (M 0 ((l3 + 2) : Int32).toNatClampNeg), .int (M 0 ((l3 + 1) : Int32).toNatClampNeg), .ref l2, .int k0], (sh, M, J))) f_205_568 rfl ?_
  refine ev_nx (s1 := (205, 570, [.retAddr 0, .ref l1, .ref l2, .int l3], [.int 3, .int l3, .retAddr 0, .int (M 0 ((l3 + 2) : Int32).toNatClampNeg), .int (M 0 ((l3 + 1) : Int32).toNatClampNeg), .ref l2, .int k0], (sh, M, J))) f_205_569 rfl ?_
  refine ev_nx (s1 := (205, 571, [.retAddr 0, .ref l1, .ref l2, .int l3], [.int (l3 + 3), .retAddr 0, .int (M 0 ((l3 + 2) : Int32).toNatClampNeg), .int (M 0 ((l3 + 1) : Int32).toNatClampNeg), .ref l2, .int k0], (sh, M, J))) f_205_570 rfl ?_
  refine ev_gd (s1 := (205, 572, [.retAddr 0, .ref l1, .ref l2, .int l3], [.int (M 0 ((l3 + 3) : Int32).toNatClampNeg), .int (M 0 ((l3 + 2) : Int32).toNatClampNeg), .int (M 0 ((l3 + 1) : Int32).toNatClampNeg), .ref l2, .int k0], (sh, M, J))) f_205_571 rfl ?_
  exact ev_ca (cc := (decide ((sh.2.2.1 l2).1 = 9) && true)) (s1 := (182, 0, [.ref l2, .int (M 0 ((l3 + 1) : Int32).toNatClampNeg), .int (M 0 ((l3 + 2) : Int32).toNatClampNeg), .int (M 0 ((l3 + 3) : Int32).toNatClampNeg), .null, .null, .null, .null], [], (sh, M, J))) (k := (205, 575, [.retAddr 0, .ref l1, .ref l2, .int l3], [.int k0])) f_205_572 rfl
set_option maxRecDepth 100000 in
theorem b_law_575 (sh : xSh) (M : Nat → Nat → Int32) (J : Nat → Nat → Int64) (l1 : Nat) (l2 : Nat) (l3 : Int32) (k0 : Int32) (k1 : Int32) : ev (205, 575, [.retAddr 0, .ref l1, .ref l2, .int l3], [.int k0, .int k1], (sh, M, J)) = (bif decide (k1 = k0) then ev (205, 18, [.retAddr 0, .ref l1, .ref l2, .int (l3 + 4)], [], (sh, M, J)) else some (some (.int 0), (sh, M, J))) := by
  refine ev_br (s1 := (205, 911, [.retAddr 0, .ref l1, .ref l2, .int l3], [], (sh, M, J))) (s2 := (205, 578, [.retAddr 0, .ref l1, .ref l2, .int l3], [], (sh, M, J))) f_205_575 rfl ?_ ?_
  · refine ev_nx (s1 := (205, 914, [.retAddr 0, .ref l1, .ref l2, .int (l3 + 4)], [], (sh, M, J))) f_205_911 rfl ?_
    refine ev_nx (s1 := (205, 18, [.retAddr 0, .ref l1, .ref l2, .int (l3 + 4)], [], (sh, M, J))) f_205_914 rfl ?_
    exact rfl
  · refine ev_nx (s1 := (205, 579, [.retAddr 0, .ref l1, .ref l2, .int l3], [.int 0], (sh, M, J))) f_205_578 rfl ?_
    exact ev_r1 f_205_579 rfl
set_option maxRecDepth 100000 in
theorem b_law_584 (sh : xSh) (M : Nat → Nat → Int32) (J : Nat → Nat → Int64) (l1 : Nat) (l2 : Nat) (l3 : Int32) (k0 : Int32) : ev (205, 584, [.retAddr 0, .ref l1, .ref l2, .int l3], [.int k0], (sh, M, J)) = (bif (decide ((sh.2.2.1 l2).1 = 9) && true) then (ev (183, 0, [.ref l2, .null, .null, .null], [], (sh, M, J))).bind (fun r => ev (205, 588, [.retAddr 0, .ref l1, .ref l2, .int l3], r.1.toList ++ [.int k0], r.2)) else none) := by
  refine ev_nx (s1 := (205, 585, [.retAddr 0, .ref l1, .ref l2, .int l3], [.ref l2, .int k0], (sh, M, J))) f_205_584 rfl ?_
  exact ev_ca (cc := (decide ((sh.2.2.1 l2).1 = 9) && true)) (s1 := (183, 0, [.ref l2, .null, .null, .null], [], (sh, M, J))) (k := (205, 588, [.retAddr 0, .ref l1, .ref l2, .int l3], [.int k0])) f_205_585 rfl
set_option maxRecDepth 100000 in
theorem b_law_588 (sh : xSh) (M : Nat → Nat → Int32) (J : Nat → Nat → Int64) (l1 : Nat) (l2 : Nat) (l3 : Int32) (k0 : Int32) (k1 : Int32) : ev (205, 588, [.retAddr 0, .ref l1, .ref l2, .int l3], [.int k0, .int k1], (sh, M, J)) = (bif decide (k1 = k0) then ev (205, 18, [.retAddr 0, .ref l1, .ref l2, .int (l3 + 4)], [], (sh, M, J)) else some (some (.int 0), (sh, M, J))) := by
  refine ev_br (s1 := (205, 911, [.retAddr 0, .ref l1, .ref l2, .int l3], [], (sh, M, J))) (s2 := (205, 591, [.retAddr 0, .ref l1, .ref l2, .int l3], [], (sh, M, J))) f_205_588 rfl ?_ ?_
  · refine ev_nx (s1 := (205, 914, [.retAddr 0, .ref l1, .ref l2, .int (l3 + 4)], [], (sh, M, J))) f_205_911 rfl ?_
    refine ev_nx (s1 := (205, 18, [.retAddr 0, .ref l1, .ref l2, .int (l3 + 4)], [], (sh, M, J))) f_205_914 rfl ?_
    exact rfl
  · refine ev_nx (s1 := (205, 592, [.retAddr 0, .ref l1, .ref l2, .int l3], [.int 0], (sh, M, J))) f_205_591 rfl ?_
    exact ev_r1 f_205_592 rfl
set_option maxRecDepth 100000 in
theorem b_law_597 (sh : xSh) (M : Nat → Nat → Int32) (J : Nat → Nat → Int64) (l1 : Nat) (l2 : Nat) (l3 : Int32) (k0 : Int32) : ev (205, 597, [.retAddr 0, .ref l1, .ref l2, .int l3], [.int k0], (sh, M, J)) = (bif (decide ((sh.2.2.1 l2).1 = 9) && true) then (ev (184, 0, [.ref l2, .null, .null, .null, .null], [], (sh, M, J))).bind (fun r => ev (205, 601, [.retAddr 0, .ref l1, .ref l2, .int l3], r.1.toList ++ [.int k0], r.2)) else none) := by
  refine ev_nx (s1 := (205, 598, [.retAddr 0, .ref l1, .ref l2, .int l3], [.ref l2, .int k0], (sh, M, J))) f_205_597 rfl ?_
  exact ev_ca (cc := (decide ((sh.2.2.1 l2).1 = 9) && true)) (s1 := (184, 0, [.ref l2, .null, .null, .null, .null], [], (sh, M, J))) (k := (205, 601, [.retAddr 0, .ref l1, .ref l2, .int l3], [.int k0])) f_205_598 rfl
set_option maxRecDepth 100000 in
theorem b_law_601 (sh : xSh) (M : Nat → Nat → Int32) (J : Nat → Nat → Int64) (l1 : Nat) (l2 : Nat) (l3 : Int32) (k0 : Int32) (k1 : Int32) : ev (205, 601, [.retAddr 0, .ref l1, .ref l2, .int l3], [.int k0, .int k1], (sh, M, J)) = (bif decide (k1 = k0) then ev (205, 18, [.retAddr 0, .ref l1, .ref l2, .int (l3 + 4)], [], (sh, M, J)) else some (some (.int 0), (sh, M, J))) := by
  refine ev_br (s1 := (205, 911, [.retAddr 0, .ref l1, .ref l2, .int l3], [], (sh, M, J))) (s2 := (205, 604, [.retAddr 0, .ref l1, .ref l2, .int l3], [], (sh, M, J))) f_205_601 rfl ?_ ?_
  · refine ev_nx (s1 := (205, 914, [.retAddr 0, .ref l1, .ref l2, .int (l3 + 4)], [], (sh, M, J))) f_205_911 rfl ?_
    refine ev_nx (s1 := (205, 18, [.retAddr 0, .ref l1, .ref l2, .int (l3 + 4)], [], (sh, M, J))) f_205_914 rfl ?_
    exact rfl
  · refine ev_nx (s1 := (205, 605, [.retAddr 0, .ref l1, .ref l2, .int l3], [.int 0], (sh, M, J))) f_205_604 rfl ?_
    exact ev_r1 f_205_605 rfl
set_option maxRecDepth 100000 in
theorem b_law_615 (sh : xSh) (M : Nat → Nat → Int32) (J : Nat → Nat → Int64) (l1 : Nat) (l2 : Nat) (l3 : Int32) (k0 : Int32) : ev (205, 615, [.retAddr 0, .ref l1, .ref l2, .int l3], [.int k0], (sh, M, J)) = (bif (decide ((sh.2.2.1 0).1 = 12) && xin (l3 + 1) (sh.2.2.1 0).2) then bif (decide ((sh.2.2.1 l2).1 = 9) && true) then (ev (186, 0, [.ref l2, .int (M 0 ((l3 + 1) : Int32).toNatClampNeg), .null, .null, .null, .null, .null], [], (sh, M, J))).bind (fun r => ev (205, 624, [.retAddr 0, .ref l1, .ref l2, .int l3], r.1.toList ++ [.int k0], r.2)) else none else none) := by
  refine ev_nx (s1 := (205, 616, [.retAddr 0, .ref l1, .ref l2, .int l3], [.ref l2, .int k0], (sh, M, J))) f_205_615 rfl ?_
  refine ev_nx (s1 := (205, 617, [.retAddr 0, .ref l1, .ref l2, .int l3], [.retAddr 0, .ref l2, .int k0], (sh, M, J))) f_205_616 rfl ?_
  refine ev_nx (s1 := (205, 618, [.retAddr 0, .ref l1, .ref l2, .int l3], [.int l3, .retAddr 0, .ref l2, .int k0], (sh, M, J))) f_205_617 rfl ?_
  refine ev_nx (s1 := (205, 619, [.retAddr 0, .ref l1, .ref l2, .int l3], [.int 1, .int l3, .retAddr 0, .ref l2, .int k0], (sh, M, J))) f_205_618 rfl ?_
  refine ev_nx (s1 := (205, 620, [.retAddr 0, .ref l1, .ref l2, .int l3], [.int (l3 + 1), .retAddr 0, .ref l2, .int k0], (sh, M, J))) f_205_619 rfl ?_
  refine ev_gd (s1 := (205, 621, [.retAddr 0, .ref l1, .ref l2, .int l3], [.int (M 0 ((l3 + 1) : Int32).toNatClampNeg), .ref l2, .int k0], (sh, M, J))) f_205_620 rfl ?_
  exact ev_ca (cc := (decide ((sh.2.2.1 l2).1 = 9) && true)) (s1 := (186, 0, [.ref l2, .int (M 0 ((l3 + 1) : Int32).toNatClampNeg), .null, .null, .null, .null, .null], [], (sh, M, J))) (k := (205, 624, [.retAddr 0, .ref l1, .ref l2, .int l3], [.int k0])) f_205_621 rfl
set_option maxRecDepth 100000 in
theorem b_law_624 (sh : xSh) (M : Nat → Nat → Int32) (J : Nat → Nat → Int64) (l1 : Nat) (l2 : Nat) (l3 : Int32) (k0 : Int32) (k1 : Int32) : ev (205, 624, [.retAddr 0, .ref l1, .ref l2, .int l3], [.int k0, .int k1], (sh, M, J)) = (bif decide (k1 = k0) then ev (205, 18, [.retAddr 0, .ref l1, .ref l2, .int (l3 + 4)], [], (sh, M, J)) else some (some (.int 0), (sh, M, J))) := by
  refine ev_br (s1 := (205, 911, [.retAddr 0, .ref l1, .ref l2, .int l3], [], (sh, M, J))) (s2 := (205, 627, [.retAddr 0, .ref l1, .ref l2, .int l3], [], (sh, M, J))) f_205_624 rfl ?_ ?_
  · refine ev_nx (s1 := (205, 914, [.retAddr 0, .ref l1, .ref l2, .int (l3 + 4)], [], (sh, M, J))) f_205_911 rfl ?_
    refine ev_nx (s1 := (205, 18, [.retAddr 0, .ref l1, .ref l2, .int (l3 + 4)], [], (sh, M, J))) f_205_914 rfl ?_
    exact rfl
  · refine ev_nx (s1 := (205, 628, [.retAddr 0, .ref l1, .ref l2, .int l3], [.int 0], (sh, M, J))) f_205_627 rfl ?_
    exact ev_r1 f_205_628 rfl
set_option maxRecDepth 100000 in
theorem b_law_643 (sh : xSh) (M : Nat → Nat → Int32) (J : Nat → Nat → Int64) (l1 : Nat) (l2 : Nat) (l3 : Int32) (k0 : Int32) : ev (205, 643, [.retAddr 0, .ref l1, .ref l2, .int l3], [.int k0], (sh, M, J)) = (bif (decide ((sh.2.2.1 0).1 = 12) && xin (l3 + 1) (sh.2.2.1 0).2) then bif (decide ((sh.2.2.1 0).1 = 12) && xin (l3 + 2) (sh.2.2.1 0).2) then bif (decide ((sh.2.2.1 l2).1 = 9) && true) then (ev (187, 0, [.ref l2, .int (M 0 ((l3 + 1) : Int32).toNatClampNeg), .int (M 0 ((l3 + 2) : Int32).toNatClampNeg), .null, .null], [], (sh, M, J))).bind (fun r => ev (205, 657, [.retAddr 0, .ref l1, .ref l2, .int l3], r.1.toList ++ [.int k0], r.2)) else none else none else none) := by
  refine ev_nx (s1 := (205, 644, [.retAddr 0, .ref l1, .ref l2, .int l3], [.ref l2, .int k0], (sh, M, J))) f_205_643 rfl ?_
  refine ev_nx (s1 := (205, 645, [.retAddr 0, .ref l1, .ref l2, .int l3], [.retAddr 0, .ref l2, .int k0], (sh, M, J))) f_205_644 rfl ?_
  refine ev_nx (s1 := (205, 646, [.retAddr 0, .ref l1, .ref l2, .int l3], [.int l3, .retAddr 0, .ref l2, .int k0], (sh, M, J))) f_205_645 rfl ?_
  refine ev_nx (s1 := (205, 647, [.retAddr 0, .ref l1, .ref l2, .int l3], [.int 1, .int l3, .retAddr 0, .ref l2, .int k0], (sh, M, J))) f_205_646 rfl ?_
  refine ev_nx (s1 := (205, 648, [.retAddr 0, .ref l1, .ref l2, .int l3], [.int (l3 + 1), .retAddr 0, .ref l2, .int k0], (sh, M, J))) f_205_647 rfl ?_
  refine ev_gd (s1 := (205, 649, [.retAddr 0, .ref l1, .ref l2, .int l3], [.int (M 0 ((l3 + 1) : Int32).toNatClampNeg), .ref l2, .int k0], (sh, M, J))) f_205_648 rfl ?_
  refine ev_nx (s1 := (205, 650, [.retAddr 0, .ref l1, .ref l2, .int l3], [.retAddr 0, .int (M 0 ((l3 + 1) : Int32).toNatClampNeg), .ref l2, .int k0], (sh, M, J))) f_205_649 rfl ?_
  refine ev_nx (s1 := (205, 651, [.retAddr 0, .ref l1, .ref l2, .int l3], [.int l3, .retAddr 0, .int (M 0 ((l3 + 1) : Int32).toNatClampNeg), .ref l2, .int k0], (sh, M, J))) f_205_650 rfl ?_
  refine ev_nx (s1 := (205, 652, [.retAddr 0, .ref l1, .ref l2, .int l3], [.int 2, .int l3, .retAddr 0, .int (M 0 ((l3 + 1) : Int32).toNatClampNeg), .ref l2, .int k0], (sh, M, J))) f_205_651 rfl ?_
  refine ev_nx (s1 := (205, 653, [.retAddr 0, .ref l1, .ref l2, .int l3], [.int (l3 + 2), .retAddr 0, .int (M 0 ((l3 + 1) : Int32).toNatClampNeg), .ref l2, .int k0], (sh, M, J))) f_205_652 rfl ?_
  refine ev_gd (s1 := (205, 654, [.retAddr 0, .ref l1, .ref l2, .int l3], [.int (M 0 ((l3 + 2) : Int32).toNatClampNeg), .int (M 0 ((l3 + 1) : Int32).toNatClampNeg), .ref l2, .int k0], (sh, M, J))) f_205_653 rfl ?_
  exact ev_ca (cc := (decide ((sh.2.2.1 l2).1 = 9) && true)) (s1 := (187, 0, [.ref l2, .int (M 0 ((l3 + 1) : Int32).toNatClampNeg), .int (M 0 ((l3 + 2) : Int32).toNatClampNeg), .null, .null], [], (sh, M, J))) (k := (205, 657, [.retAddr 0, .ref l1, .ref l2, .int l3], [.int k0])) f_205_654 rfl
set_option maxRecDepth 100000 in
theorem b_law_657 (sh : xSh) (M : Nat → Nat → Int32) (J : Nat → Nat → Int64) (l1 : Nat) (l2 : Nat) (l3 : Int32) (k0 : Int32) (k1 : Int32) : ev (205, 657, [.retAddr 0, .ref l1, .ref l2, .int l3], [.int k0, .int k1], (sh, M, J)) = (bif decide (k1 = k0) then ev (205, 18, [.retAddr 0, .ref l1, .ref l2, .int (l3 + 4)], [], (sh, M, J)) else some (some (.int 0), (sh, M, J))) := by
  refine ev_br (s1 := (205, 911, [.retAddr 0, .ref l1, .ref l2, .int l3], [], (sh, M, J))) (s2 := (205, 660, [.retAddr 0, .ref l1, .ref l2, .int l3], [], (sh, M, J))) f_205_657 rfl ?_ ?_
  · refine ev_nx (s1 := (205, 914, [.retAddr 0, .ref l1, .ref l2, .int (l3 + 4)], [], (sh, M, J))) f_205_911 rfl ?_
    refine ev_nx (s1 := (205, 18, [.retAddr 0, .ref l1, .ref l2, .int (l3 + 4)], [], (sh, M, J))) f_205_914 rfl ?_
    exact rfl
  · refine ev_nx (s1 := (205, 661, [.retAddr 0, .ref l1, .ref l2, .int l3], [.int 0], (sh, M, J))) f_205_660 rfl ?_
    exact ev_r1 f_205_661 rfl
set_option maxRecDepth 100000 in
theorem b_law_666 (sh : xSh) (M : Nat → Nat → Int32) (J : Nat → Nat → Int64) (l1 : Nat) (l2 : Nat) (l3 : Int32) (k0 : Int32) : ev (205, 666, [.retAddr 0, .ref l1, .ref l2, .int l3], [.int k0], (sh, M, J)) = (bif (decide ((sh.2.2.1 l2).1 = 9) && true) then (ev (188, 0, [.ref l2, .null, .null, .null, .null], [], (sh, M, J))).bind (fun r => ev (205, 670, [.retAddr 0, .ref l1, .ref l2, .int l3], r.1.toList ++ [.int k0], r.2)) else none) := by
  refine ev_nx (s1 := (205, 667, [.retAddr 0, .ref l1, .ref l2, .int l3], [.ref l2, .int k0], (sh, M, J))) f_205_666 rfl ?_
  exact ev_ca (cc := (decide ((sh.2.2.1 l2).1 = 9) && true)) (s1 := (188, 0, [.ref l2, .null, .null, .null, .null], [], (sh, M, J))) (k := (205, 670, [.retAddr 0, .ref l1, .ref l2, .int l3], [.int k0])) f_205_667 rfl
set_option maxRecDepth 100000 in
theorem b_law_670 (sh : xSh) (M : Nat → Nat → Int32) (J : Nat → Nat → Int64) (l1 : Nat) (l2 : Nat) (l3 : Int32) (k0 : Int32) (k1 : Int32) : ev (205, 670, [.retAddr 0, .ref l1, .ref l2, .int l3], [.int k0, .int k1], (sh, M, J)) = (bif decide (k1 = k0) then ev (205, 18, [.retAddr 0, .ref l1, .ref l2, .int (l3 + 4)], [], (sh, M, J)) else some (some (.int 0), (sh, M, J))) := by
  refine ev_br (s1 := (205, 911, [.retAddr 0, .ref l1, .ref l2, .int l3], [], (sh, M, J))) (s2 := (205, 673, [.retAddr 0, .ref l1, .ref l2, .int l3], [], (sh, M, J))) f_205_670 rfl ?_ ?_
  · refine ev_nx (s1 := (205, 914, [.retAddr 0, .ref l1, .ref l2, .int (l3 + 4)], [], (sh, M, J))) f_205_911 rfl ?_
    refine ev_nx (s1 := (205, 18, [.retAddr 0, .ref l1, .ref l2, .int (l3 + 4)], [], (sh, M, J))) f_205_914 rfl ?_
    exact rfl
  · refine ev_nx (s1 := (205, 674, [.retAddr 0, .ref l1, .ref l2, .int l3], [.int 0], (sh, M, J))) f_205_673 rfl ?_
    exact ev_r1 f_205_674 rfl
set_option maxRecDepth 100000 in
theorem b_law_689 (sh : xSh) (M : Nat → Nat → Int32) (J : Nat → Nat → Int64) (l1 : Nat) (l2 : Nat) (l3 : Int32) (k0 : Int32) : ev (205, 689, [.retAddr 0, .ref l1, .ref l2, .int l3], [.int k0], (sh, M, J)) = (bif (decide ((sh.2.2.1 0).1 = 12) && xin (l3 + 1) (sh.2.2.1 0).2) then bif (decide ((sh.2.2.1 0).1 = 12) && xin (l3 + 2) (sh.2.2.1 0).2) then bif (decide ((sh.2.2.1 l2).1 = 9) && true) then (ev (189, 0, [.ref l2, .int (M 0 ((l3 + 1) : Int32).toNatClampNeg), .int (M 0 ((l3 + 2) : Int32).toNatClampNeg), .null, .null, .null], [], (sh, M, J))).bind (fun r => ev (205, 703, [.retAddr 0, .ref l1, .ref l2, .int l3], r.1.toList ++ [.int k0], r.2)) else none else none else none) := by
  refine ev_nx (s1 := (205, 690, [.retAddr 0, .ref l1, .ref l2, .int l3], [.ref l2, .int k0], (sh, M, J))) f_205_689 rfl ?_
  refine ev_nx (s1 := (205, 691, [.retAddr 0, .ref l1, .ref l2, .int l3], [.retAddr 0, .ref l2, .int k0], (sh, M, J))) f_205_690 rfl ?_
  refine ev_nx (s1 := (205, 692, [.retAddr 0, .ref l1, .ref l2, .int l3], [.int l3, .retAddr 0, .ref l2, .int k0], (sh, M, J))) f_205_691 rfl ?_
  refine ev_nx (s1 := (205, 693, [.retAddr 0, .ref l1, .ref l2, .int l3], [.int 1, .int l3, .retAddr 0, .ref l2, .int k0], (sh, M, J))) f_205_692 rfl ?_
  refine ev_nx (s1 := (205, 694, [.retAddr 0, .ref l1, .ref l2, .int l3], [.int (l3 + 1), .retAddr 0, .ref l2, .int k0], (sh, M, J))) f_205_693 rfl ?_
  refine ev_gd (s1 := (205, 695, [.retAddr 0, .ref l1, .ref l2, .int l3], [.int (M 0 ((l3 + 1) : Int32).toNatClampNeg), .ref l2, .int k0], (sh, M, J))) f_205_694 rfl ?_
  refine ev_nx (s1 := (205, 696, [.retAddr 0, .ref l1, .ref l2, .int l3], [.retAddr 0, .int (M 0 ((l3 + 1) : Int32).toNatClampNeg), .ref l2, .int k0], (sh, M, J))) f_205_695 rfl ?_
  refine ev_nx (s1 := (205, 697, [.retAddr 0, .ref l1, .ref l2, .int l3], [.int l3, .retAddr 0, .int (M 0 ((l3 + 1) : Int32).toNatClampNeg), .ref l2, .int k0], (sh, M, J))) f_205_696 rfl ?_
  refine ev_nx (s1 := (205, 698, [.retAddr 0, .ref l1, .ref l2, .int l3], [.int 2, .int l3, .retAddr 0, .int (M 0 ((l3 + 1) : Int32).toNatClampNeg), .ref l2, .int k0], (sh, M, J))) f_205_697 rfl ?_
  refine ev_nx (s1 := (205, 699, [.retAddr 0, .ref l1, .ref l2, .int l3], [.int (l3 + 2), .retAddr 0, .int (M 0 ((l3 + 1) : Int32).toNatClampNeg), .ref l2, .int k0], (sh, M, J))) f_205_698 rfl ?_
  refine ev_gd (s1 := (205, 700, [.retAddr 0, .ref l1, .ref l2, .int l3], [.int (M 0 ((l3 + 2) : Int32).toNatClampNeg), .int (M 0 ((l3 + 1) : Int32).toNatClampNeg), .ref l2, .int k0], (sh, M, J))) f_205_699 rfl ?_
  exact ev_ca (cc := (decide ((sh.2.2.1 l2).1 = 9) && true)) (s1 := (189, 0, [.ref l2, .int (M 0 ((l3 + 1) : Int32).toNatClampNeg), .int (M 0 ((l3 + 2) : Int32).toNatClampNeg), .null, .null, .null], [], (sh, M, J))) (k := (205, 703, [.retAddr 0, .ref l1, .ref l2, .int l3], [.int k0])) f_205_700 rfl
set_option maxRecDepth 100000 in
theorem b_law_703 (sh : xSh) (M : Nat → Nat → Int32) (J : Nat → Nat → Int64) (l1 : Nat) (l2 : Nat) (l3 : Int32) (k0 : Int32) (k1 : Int32) : ev (205, 703, [.retAddr 0, .ref l1, .ref l2, .int l3], [.int k0, .int k1], (sh, M, J)) = (bif decide (k1 = k0) then ev (205, 18, [.retAddr 0, .ref l1, .ref l2, .int (l3 + 4)], [], (sh, M, J)) else some (some (.int 0), (sh, M, J))) := by
  refine ev_br (s1 := (205, 911, [.retAddr 0, .ref l1, .ref l2, .int l3], [], (sh, M, J))) (s2 := (205, 706, [.retAddr 0, .ref l1, .ref l2, .int l3], [], (sh, M, J))) f_205_703 rfl ?_ ?_
  · refine ev_nx (s1 := (205, 914, [.retAddr 0, .ref l1, .ref l2, .int (l3 + 4)], [], (sh, M, J))) f_205_911 rfl ?_
    refine ev_nx (s1 := (205, 18, [.retAddr 0, .ref l1, .ref l2, .int (l3 + 4)], [], (sh, M, J))) f_205_914 rfl ?_
    exact rfl
  · refine ev_nx (s1 := (205, 707, [.retAddr 0, .ref l1, .ref l2, .int l3], [.int 0], (sh, M, J))) f_205_706 rfl ?_
    exact ev_r1 f_205_707 rfl
set_option maxRecDepth 100000 in
theorem b_law_730 (sh : xSh) (M : Nat → Nat → Int32) (J : Nat → Nat → Int64) (l1 : Nat) (l2 : Nat) (l3 : Int32) (k0 : Int32) : ev (205, 730, [.retAddr 0, .ref l1, .ref l2, .int l3], [.int k0], (sh, M, J)) = (bif (decide ((sh.2.2.1 0).1 = 12) && xin (l3 + 1) (sh.2.2.1 0).2) then bif (decide ((sh.2.2.1 0).1 = 12) && xin (l3 + 2) (sh.2.2.1 0).2) then bif decide ((M 0 ((l3 + 2) : Int32).toNatClampNeg) = 0) then bif (decide ((sh.2.2.1 l2).1 = 9) && true) then (ev (190, 0, [.ref l2, .int (M 0 ((l3 + 1) : Int32).toNatClampNeg), .int 0], [], (sh, M, J))).bind (fun r => ev (205, 752, [.retAddr 0, .ref l1, .ref l2, .int l3], r.1.toList ++ [.int k0], r.2)) else none else bif (decide ((sh.2.2.1 l2).1 = 9) && true) then (ev (190, 0, [.ref l2, .int (M 0 ((l3 + 1) : Int32).toNatClampNeg), .int 1], [], (sh, M, J))).bind (fun r => ev (205, 752, [.retAddr 0, .ref l1, .ref l2, .int l3], r.1.toList ++ [.int k0], r.2)) else none else none else none) := by
  refine ev_nx (s1 := (205, 731, [.retAddr 0, .ref l1, .ref l2, .int l3], [.ref l2, .int k0], (sh, M, J))) f_205_730 rfl ?_
  refine ev_nx (s1 := (205, 732, [.retAddr 0, .ref l1, .ref l2, .int l3], [.retAddr 0, .ref l2, .int k0], (sh, M, J))) f_205_731 rfl ?_
  refine ev_nx (s1 := (205, 733, [.retAddr 0, .ref l1, .ref l2, .int l3], [.int l3, .retAddr 0, .ref l2, .int k0], (sh, M, J))) f_205_732 rfl ?_
  refine ev_nx (s1 := (205, 734, [.retAddr 0, .ref l1, .ref l2, .int l3], [.int 1, .int l3, .retAddr 0, .ref l2, .int k0], (sh, M, J))) f_205_733 rfl ?_
  refine ev_nx (s1 := (205, 735, [.retAddr 0, .ref l1, .ref l2, .int l3], [.int (l3 + 1), .retAddr 0, .ref l2, .int k0], (sh, M, J))) f_205_734 rfl ?_
  refine ev_gd (s1 := (205, 736, [.retAddr 0, .ref l1, .ref l2, .int l3], [.int (M 0 ((l3 + 1) : Int32).toNatClampNeg), .ref l2, .int k0], (sh, M, J))) f_205_735 rfl ?_
  refine ev_nx (s1 := (205, 737, [.retAddr 0, .ref l1, .ref l2, .int l3], [.retAddr 0, .int (M 0 ((l3 + 1) : Int32).toNatClampNeg), .ref l2, .int k0], (sh, M, J))) f_205_736 rfl ?_
  refine ev_nx (s1 := (205, 738, [.retAddr 0, .ref l1, .ref l2, .int l3], [.int l3, .retAddr 0, .int (M 0 ((l3 + 1) : Int32).toNatClampNeg), .ref l2, .int k0], (sh, M, J))) f_205_737 rfl ?_
  refine ev_nx (s1 := (205, 739, [.retAddr 0, .ref l1, .ref l2, .int l3], [.int 2, .int l3, .retAddr 0, .int (M 0 ((l3 + 1) : Int32).toNatClampNeg), .ref l2, .int k0], (sh, M, J))) f_205_738 rfl ?_
  refine ev_nx (s1 := (205, 740, [.retAddr 0, .ref l1, .ref l2, .int l3], [.int (l3 + 2), .retAddr 0, .int (M 0 ((l3 + 1) : Int32).toNatClampNeg), .ref l2, .int k0], (sh, M, J))) f_205_739 rfl ?_
  refine ev_gd (s1 := (205, 741, [.retAddr 0, .ref l1, .ref l2, .int l3], [.int (M 0 ((l3 + 2) : Int32).toNatClampNeg), .int (M 0 ((l3 + 1) : Int32).toNatClampNeg), .ref l2, .int k0], (sh, M, J))) f_205_740 rfl ?_
  refine ev_br (s1 := (205, 748, [.retAddr 0, .ref l1, .ref l2, .int l3], [.int (M 0 ((l3 + 1) : Int32).toNatClampNeg), .ref l2, .int k0], (sh, M, J))) (s2 := (205, 744, [.retAddr 0, .ref l1, .ref l2, .int l3], [.int (M 0 ((l3 + 1) : Int32).toNatClampNeg), .ref l2, .int k0], (sh, M, J))) f_205_741 rfl ?_ ?_
  · refine ev_nx (s1 := (205, 749, [.retAddr 0, .ref l1, .ref l2, .int l3], [.int 0, .int (M 0 ((l3 + 1) : Int32).toNatClampNeg), .ref l2, .int k0], (sh, M, J))) f_205_748 rfl ?_
    exact ev_ca (cc := (decide ((sh.2.2.1 l2).1 = 9) && true)) (s1 := (190, 0, [.ref l2, .int (M 0 ((l3 + 1) : Int32).toNatClampNeg), .int 0], [], (sh, M, J))) (k := (205, 752, [.retAddr 0, .ref l1, .ref l2, .int l3], [.int k0])) f_205_749 rfl
  · refine ev_nx (s1 := (205, 745, [.retAddr 0, .ref l1, .ref l2, .int l3], [.int 1, .int (M 0 ((l3 + 1) : Int32).toNatClampNeg), .ref l2, .int k0], (sh, M, J))) f_205_744 rfl ?_
    refine ev_nx (s1 := (205, 749, [.retAddr 0, .ref l1, .ref l2, .int l3], [.int 1, .int (M 0 ((l3 + 1) : Int32).toNatClampNeg), .ref l2, .int k0], (sh, M, J))) f_205_745 rfl ?_
    exact ev_ca (cc := (decide ((sh.2.2.1 l2).1 = 9) && true)) (s1 := (190, 0, [.ref l2, .int (M 0 ((l3 + 1) : Int32).toNatClampNeg), .int 1], [], (sh, M, J))) (k := (205, 752, [.retAddr 0, .ref l1, .ref l2, .int l3], [.int k0])) f_205_749 rfl
set_option maxRecDepth 100000 in
theorem b_law_752 (sh : xSh) (M : Nat → Nat → Int32) (J : Nat → Nat → Int64) (l1 : Nat) (l2 : Nat) (l3 : Int32) (k0 : Int32) (k1 : Int32) : ev (205, 752, [.retAddr 0, .ref l1, .ref l2, .int l3], [.int k0, .int k1], (sh, M, J)) = (bif decide (k1 = k0) then ev (205, 18, [.retAddr 0, .ref l1, .ref l2, .int (l3 + 4)], [], (sh, M, J)) else some (some (.int 0), (sh, M, J))) := by
  refine ev_br (s1 := (205, 911, [.retAddr 0, .ref l1, .ref l2, .int l3], [], (sh, M, J))) (s2 := (205, 755, [.retAddr 0, .ref l1, .ref l2, .int l3], [], (sh, M, J))) f_205_752 rfl ?_ ?_
  · refine ev_nx (s1 := (205, 914, [.retAddr 0, .ref l1, .ref l2, .int (l3 + 4)], [], (sh, M, J))) f_205_911 rfl ?_
    refine ev_nx (s1 := (205, 18, [.retAddr 0, .ref l1, .ref l2, .int (l3 + 4)], [], (sh, M, J))) f_205_914 rfl ?_
    exact rfl
  · refine ev_nx (s1 := (205, 756, [.retAddr 0, .ref l1, .ref l2, .int l3], [.int 0], (sh, M, J))) f_205_755 rfl ?_
    exact ev_r1 f_205_756 rfl
set_option maxRecDepth 100000 in
theorem b_law_761 (sh : xSh) (M : Nat → Nat → Int32) (J : Nat → Nat → Int64) (l1 : Nat) (l2 : Nat) (l3 : Int32) (k0 : Int32) : ev (205, 761, [.retAddr 0, .ref l1, .ref l2, .int l3], [.int k0], (sh, M, J)) = (bif (decide ((sh.2.2.1 l2).1 = 9) && true) then (ev (193, 0, [.ref l2], [], (sh, M, J))).bind (fun r => ev (205, 765, [.retAddr 0, .ref l1, .ref l2, .int l3], r.1.toList ++ [.int k0], r.2)) else none) := by
  refine ev_nx (s1 := (205, 762, [.retAddr 0, .ref l1, .ref l2, .int l3], [.ref l2, .int k0], (sh, M, J))) f_205_761 rfl ?_
  exact ev_ca (cc := (decide ((sh.2.2.1 l2).1 = 9) && true)) (s1 := (193, 0, [.ref l2], [], (sh, M, J))) (k := (205, 765, [.retAddr 0, .ref l1, .ref l2, .int l3], [.int k0])) f_205_762 rfl
set_option maxRecDepth 100000 in
theorem b_law_765 (sh : xSh) (M : Nat → Nat → Int32) (J : Nat → Nat → Int64) (l1 : Nat) (l2 : Nat) (l3 : Int32) (k0 : Int32) (k1 : Int32) : ev (205, 765, [.retAddr 0, .ref l1, .ref l2, .int l3], [.int k0, .int k1], (sh, M, J)) = (bif decide (k1 = k0) then ev (205, 18, [.retAddr 0, .ref l1, .ref l2, .int (l3 + 4)], [], (sh, M, J)) else some (some (.int 0), (sh, M, J))) := by
  refine ev_br (s1 := (205, 911, [.retAddr 0, .ref l1, .ref l2, .int l3], [], (sh, M, J))) (s2 := (205, 768, [.retAddr 0, .ref l1, .ref l2, .int l3], [], (sh, M, J))) f_205_765 rfl ?_ ?_
  · refine ev_nx (s1 := (205, 914, [.retAddr 0, .ref l1, .ref l2, .int (l3 + 4)], [], (sh, M, J))) f_205_911 rfl ?_
    refine ev_nx (s1 := (205, 18, [.retAddr 0, .ref l1, .ref l2, .int (l3 + 4)], [], (sh, M, J))) f_205_914 rfl ?_
    exact rfl
  · refine ev_nx (s1 := (205, 769, [.retAddr 0, .ref l1, .ref l2, .int l3], [.int 0], (sh, M, J))) f_205_768 rfl ?_
    exact ev_r1 f_205_769 rfl
set_option maxRecDepth 100000 in
theorem b_law_774 (sh : xSh) (M : Nat → Nat → Int32) (J : Nat → Nat → Int64) (l1 : Nat) (l2 : Nat) (l3 : Int32) (k0 : Int32) : ev (205, 774, [.retAddr 0, .ref l1, .ref l2, .int l3], [.int k0], (sh, M, J)) = (bif (decide ((sh.2.2.1 l2).1 = 9) && true) then (ev (194, 0, [.ref l2, .null, .null, .null, .null, .null, .null, .null], [], (sh, M, J))).bind (fun r => ev (205, 778, [.retAddr 0, .ref l1, .ref l2, .int l3], r.1.toList ++ [.int k0], r.2)) else none) := by
  refine ev_nx (s1 := (205, 775, [.retAddr 0, .ref l1, .ref l2, .int l3], [.ref l2, .int k0], (sh, M, J))) f_205_774 rfl ?_
  exact ev_ca (cc := (decide ((sh.2.2.1 l2).1 = 9) && true)) (s1 := (194, 0, [.ref l2, .null, .null, .null, .null, .null, .null, .null], [], (sh, M, J))) (k := (205, 778, [.retAddr 0, .ref l1, .ref l2, .int l3], [.int k0])) f_205_775 rfl
set_option maxRecDepth 100000 in
theorem b_law_778 (sh : xSh) (M : Nat → Nat → Int32) (J : Nat → Nat → Int64) (l1 : Nat) (l2 : Nat) (l3 : Int32) (k0 : Int32) (k1 : Int32) : ev (205, 778, [.retAddr 0, .ref l1, .ref l2, .int l3], [.int k0, .int k1], (sh, M, J)) = (bif decide (k1 = k0) then ev (205, 18, [.retAddr 0, .ref l1, .ref l2, .int (l3 + 4)], [], (sh, M, J)) else some (some (.int 0), (sh, M, J))) := by
  refine ev_br (s1 := (205, 911, [.retAddr 0, .ref l1, .ref l2, .int l3], [], (sh, M, J))) (s2 := (205, 781, [.retAddr 0, .ref l1, .ref l2, .int l3], [], (sh, M, J))) f_205_778 rfl ?_ ?_
  · refine ev_nx (s1 := (205, 914, [.retAddr 0, .ref l1, .ref l2, .int (l3 + 4)], [], (sh, M, J))) f_205_911 rfl ?_
    refine ev_nx (s1 := (205, 18, [.retAddr 0, .ref l1, .ref l2, .int (l3 + 4)], [], (sh, M, J))) f_205_914 rfl ?_
    exact rfl
  · refine ev_nx (s1 := (205, 782, [.retAddr 0, .ref l1, .ref l2, .int l3], [.int 0], (sh, M, J))) f_205_781 rfl ?_
    exact ev_r1 f_205_782 rfl
set_option maxRecDepth 100000 in
theorem b_law_797 (sh : xSh) (M : Nat → Nat → Int32) (J : Nat → Nat → Int64) (l1 : Nat) (l2 : Nat) (l3 : Int32) (k0 : Int32) : ev (205, 797, [.retAddr 0, .ref l1, .ref l2, .int l3], [.int k0], (sh, M, J)) = (bif (decide ((sh.2.2.1 0).1 = 12) && xin (l3 + 1) (sh.2.2.1 0).2) then bif (decide ((sh.2.2.1 0).1 = 12) && xin (l3 + 2) (sh.2.2.1 0).2) then bif (decide ((sh.2.2.1 l2).1 = 9) && true) then (ev (195, 0, [.ref l2, .int (M 0 ((l3 + 1) : Int32).toNatClampNeg), .int (M 0 ((l3 + 2) : Int32).toNatClampNeg)], [], (sh, M, J))).bind (fun r => ev (205, 811, [.retAddr 0, .ref l1, .ref l2, .int l3], r.1.toList ++ [.int k0], r.2)) else none else none else none) := by
  refine ev_nx (s1 := (205, 798, [.retAddr 0, .ref l1, .ref l2, .int l3], [.ref l2, .int k0], (sh, M, J))) f_205_797 rfl ?_
  refine ev_nx (s1 := (205, 799, [.retAddr 0, .ref l1, .ref l2, .int l3], [.retAddr 0, .ref l2, .int k0], (sh, M, J))) f_205_798 rfl ?_
  refine ev_nx (s1 := (205, 800, [.retAddr 0, .ref l1, .ref l2, .int l3], [.int l3, .retAddr 0, .ref l2, .int k0], (sh, M, J))) f_205_799 rfl ?_
  refine ev_nx (s1 := (205, 801, [.retAddr 0, .ref l1, .ref l2, .int l3], [.int 1, .int l3, .retAddr 0, .ref l2, .int k0], (sh, M, J))) f_205_800 rfl ?_
  refine ev_nx (s1 := (205, 802, [.retAddr 0, .ref l1, .ref l2, .int l3], [.int (l3 + 1), .retAddr 0, .ref l2, .int k0], (sh, M, J))) f_205_801 rfl ?_
  refine ev_gd (s1 := (205, 803, [.retAddr 0, .ref l1, .ref l2, .int l3], [.int (M 0 ((l3 + 1) : Int32).toNatClampNeg), .ref l2, .int k0], (sh, M, J))) f_205_802 rfl ?_
  refine ev_nx (s1 := (205, 804, [.retAddr 0, .ref l1, .ref l2, .int l3], [.retAddr 0, .int (M 0 ((l3 + 1) : Int32).toNatClampNeg), .ref l2, .int k0], (sh, M, J))) f_205_803 rfl ?_
  refine ev_nx (s1 := (205, 805, [.retAddr 0, .ref l1, .ref l2, .int l3], [.int l3, .retAddr 0, .int (M 0 ((l3 + 1) : Int32).toNatClampNeg), .ref l2, .int k0], (sh, M, J))) f_205_804 rfl ?_
  refine ev_nx (s1 := (205, 806, [.retAddr 0, .ref l1, .ref l2, .int l3], [.int 2, .int l3, .retAddr 0, .int (M 0 ((l3 + 1) : Int32).toNatClampNeg), .ref l2, .int k0], (sh, M, J))) f_205_805 rfl ?_
  refine ev_nx (s1 := (205, 807, [.retAddr 0, .ref l1, .ref l2, .int l3], [.int (l3 + 2), .retAddr 0, .int (M 0 ((l3 + 1) : Int32).toNatClampNeg), .ref l2, .int k0], (sh, M, J))) f_205_806 rfl ?_
  refine ev_gd (s1 := (205, 808, [.retAddr 0, .ref l1, .ref l2, .int l3], [.int (M 0 ((l3 + 2) : Int32).toNatClampNeg), .int (M 0 ((l3 + 1) : Int32).toNatClampNeg), .ref l2, .int k0], (sh, M, J))) f_205_807 rfl ?_
  exact ev_ca (cc := (decide ((sh.2.2.1 l2).1 = 9) && true)) (s1 := (195, 0, [.ref l2, .int (M 0 ((l3 + 1) : Int32).toNatClampNeg), .int (M 0 ((l3 + 2) : Int32).toNatClampNeg)], [], (sh, M, J))) (k := (205, 811, [.retAddr 0, .ref l1, .ref l2, .int l3], [.int k0])) f_205_808 rfl
set_option maxRecDepth 100000 in
theorem b_law_811 (sh : xSh) (M : Nat → Nat → Int32) (J : Nat → Nat → Int64) (l1 : Nat) (l2 : Nat) (l3 : Int32) (k0 : Int32) (k1 : Int32) : ev (205, 811, [.retAddr 0, .ref l1, .ref l2, .int l3], [.int k0, .int k1], (sh, M, J)) = (bif decide (k1 = k0) then ev (205, 18, [.retAddr 0, .ref l1, .ref l2, .int (l3 + 4)], [], (sh, M, J)) else some (some (.int 0), (sh, M, J))) := by
  refine ev_br (s1 := (205, 911, [.retAddr 0, .ref l1, .ref l2, .int l3], [], (sh, M, J))) (s2 := (205, 814, [.retAddr 0, .ref l1, .ref l2, .int l3], [], (sh, M, J))) f_205_811 rfl ?_ ?_
  · refine ev_nx (s1 := (205, 914, [.retAddr 0, .ref l1, .ref l2, .int (l3 + 4)], [], (sh, M, J))) f_205_911 rfl ?_
    refine ev_nx (s1 := (205, 18, [.retAddr 0, .ref l1, .ref l2, .int (l3 + 4)], [], (sh, M, J))) f_205_914 rfl ?_
    exact rfl
  · refine ev_nx (s1 := (205, 815, [.retAddr 0, .ref l1, .ref l2, .int l3], [.int 0], (sh, M, J))) f_205_814 rfl ?_
    exact ev_r1 f_205_815 rfl
set_option maxRecDepth 100000 in
theorem b_law_820 (sh : xSh) (M : Nat → Nat → Int32) (J : Nat → Nat → Int64) (l1 : Nat) (l2 : Nat) (l3 : Int32) (k0 : Int32) : ev (205, 820, [.retAddr 0, .ref l1, .ref l2, .int l3], [.int k0], (sh, M, J)) = (bif (decide ((sh.2.2.1 l2).1 = 9) && true) then (ev (196, 0, [.ref l2, .null], [], (sh, M, J))).bind (fun r => ev (205, 824, [.retAddr 0, .ref l1, .ref l2, .int l3], r.1.toList ++ [.int k0], r.2)) else none) := by
  refine ev_nx (s1 := (205, 821, [.retAddr 0, .ref l1, .ref l2, .int l3], [.ref l2, .int k0], (sh, M, J))) f_205_820 rfl ?_
  exact ev_ca (cc := (decide ((sh.2.2.1 l2).1 = 9) && true)) (s1 := (196, 0, [.ref l2, .null], [], (sh, M, J))) (k := (205, 824, [.retAddr 0, .ref l1, .ref l2, .int l3], [.int k0])) f_205_821 rfl
set_option maxRecDepth 100000 in
theorem b_law_824 (sh : xSh) (M : Nat → Nat → Int32) (J : Nat → Nat → Int64) (l1 : Nat) (l2 : Nat) (l3 : Int32) (k0 : Int32) (k1 : Int32) : ev (205, 824, [.retAddr 0, .ref l1, .ref l2, .int l3], [.int k0, .int k1], (sh, M, J)) = (bif decide (k1 = k0) then ev (205, 18, [.retAddr 0, .ref l1, .ref l2, .int (l3 + 4)], [], (sh, M, J)) else some (some (.int 0), (sh, M, J))) := by
  refine ev_br (s1 := (205, 911, [.retAddr 0, .ref l1, .ref l2, .int l3], [], (sh, M, J))) (s2 := (205, 827, [.retAddr 0, .ref l1, .ref l2, .int l3], [], (sh, M, J))) f_205_824 rfl ?_ ?_
  · refine ev_nx (s1 := (205, 914, [.retAddr 0, .ref l1, .ref l2, .int (l3 + 4)], [], (sh, M, J))) f_205_911 rfl ?_
    refine ev_nx (s1 := (205, 18, [.retAddr 0, .ref l1, .ref l2, .int (l3 + 4)], [], (sh, M, J))) f_205_914 rfl ?_
    exact rfl
  · refine ev_nx (s1 := (205, 828, [.retAddr 0, .ref l1, .ref l2, .int l3], [.int 0], (sh, M, J))) f_205_827 rfl ?_
    exact ev_r1 f_205_828 rfl
set_option maxRecDepth 100000 in
theorem b_law_833 (sh : xSh) (M : Nat → Nat → Int32) (J : Nat → Nat → Int64) (l1 : Nat) (l2 : Nat) (l3 : Int32) (k0 : Int32) : ev (205, 833, [.retAddr 0, .ref l1, .ref l2, .int l3], [.int k0], (sh, M, J)) = (bif (decide ((sh.2.2.1 l2).1 = 9) && true) then (ev (197, 0, [.ref l2, .null], [], (sh, M, J))).bind (fun r => ev (205, 837, [.retAddr 0, .ref l1, .ref l2, .int l3], r.1.toList ++ [.int k0], r.2)) else none) := by
  refine ev_nx (s1 := (205, 834, [.retAddr 0, .ref l1, .ref l2, .int l3], [.ref l2, .int k0], (sh, M, J))) f_205_833 rfl ?_
  exact ev_ca (cc := (decide ((sh.2.2.1 l2).1 = 9) && true)) (s1 := (197, 0, [.ref l2, .null], [], (sh, M, J))) (k := (205, 837, [.retAddr 0, .ref l1, .ref l2, .int l3], [.int k0])) f_205_834 rfl
set_option maxRecDepth 100000 in
theorem b_law_837 (sh : xSh) (M : Nat → Nat → Int32) (J : Nat → Nat → Int64) (l1 : Nat) (l2 : Nat) (l3 : Int32) (k0 : Int32) (k1 : Int32) : ev (205, 837, [.retAddr 0, .ref l1, .ref l2, .int l3], [.int k0, .int k1], (sh, M, J)) = (bif decide (k1 = k0) then ev (205, 18, [.retAddr 0, .ref l1, .ref l2, .int (l3 + 4)], [], (sh, M, J)) else some (some (.int 0), (sh, M, J))) := by
  refine ev_br (s1 := (205, 911, [.retAddr 0, .ref l1, .ref l2, .int l3], [], (sh, M, J))) (s2 := (205, 840, [.retAddr 0, .ref l1, .ref l2, .int l3], [], (sh, M, J))) f_205_837 rfl ?_ ?_
  · refine ev_nx (s1 := (205, 914, [.retAddr 0, .ref l1, .ref l2, .int (l3 + 4)], [], (sh, M, J))) f_205_911 rfl ?_
    refine ev_nx (s1 := (205, 18, [.retAddr 0, .ref l1, .ref l2, .int (l3 + 4)], [], (sh, M, J))) f_205_914 rfl ?_
    exact rfl
  · refine ev_nx (s1 := (205, 841, [.retAddr 0, .ref l1, .ref l2, .int l3], [.int 0], (sh, M, J))) f_205_840 rfl ?_
    exact ev_r1 f_205_841 rfl
set_option maxRecDepth 100000 in
theorem b_law_851 (sh : xSh) (M : Nat → Nat → Int32) (J : Nat → Nat → Int64) (l1 : Nat) (l2 : Nat) (l3 : Int32) (k0 : Int32) : ev (205, 851, [.retAddr 0, .ref l1, .ref l2, .int l3], [.int k0], (sh, M, J)) = (bif (decide ((sh.2.2.1 0).1 = 12) && xin (l3 + 1) (sh.2.2.1 0).2) then bif (decide ((sh.2.2.1 l2).1 = 9) && true) then (ev (198, 0, [.ref l2, .int (M 0 ((l3 + 1) : Int32).toNatClampNeg), .null], [], (sh, M, J))).bind (fun r => ev (205, 860, [.retAddr 0, .ref l1, .ref l2, .int l3], r.1.toList ++ [.int k0], r.2)) else none else none) := by
  refine ev_nx (s1 := (205, 852, [.retAddr 0, .ref l1, .ref l2, .int l3], [.ref l2, .int k0], (sh, M, J))) f_205_851 rfl ?_
  refine ev_nx (s1 := (205, 853, [.retAddr 0, .ref l1, .ref l2, .int l3], [.retAddr 0, .ref l2, .int k0], (sh, M, J))) f_205_852 rfl ?_
  refine ev_nx (s1 := (205, 854, [.retAddr 0, .ref l1, .ref l2, .int l3], [.int l3, .retAddr 0, .ref l2, .int k0], (sh, M, J))) f_205_853 rfl ?_
  refine ev_nx (s1 := (205, 855, [.retAddr 0, .ref l1, .ref l2, .int l3], [.int 1, .int l3, .retAddr 0, .ref l2, .int k0], (sh, M, J))) f_205_854 rfl ?_
  refine ev_nx (s1 := (205, 856, [.retAddr 0, .ref l1, .ref l2, .int l3], [.int (l3 + 1), .retAddr 0, .ref l2, .int k0], (sh, M, J))) f_205_855 rfl ?_
  refine ev_gd (s1 := (205, 857, [.retAddr 0, .ref l1, .ref l2, .int l3], [.int (M 0 ((l3 + 1) : Int32).toNatClampNeg), .ref l2, .int k0], (sh, M, J))) f_205_856 rfl ?_
  exact ev_ca (cc := (decide ((sh.2.2.1 l2).1 = 9) && true)) (s1 := (198, 0, [.ref l2, .int (M 0 ((l3 + 1) : Int32).toNatClampNeg), .null], [], (sh, M, J))) (k := (205, 860, [.retAddr 0, .ref l1, .ref l2, .int l3], [.int k0])) f_205_857 rfl
set_option maxRecDepth 100000 in
theorem b_law_860 (sh : xSh) (M : Nat → Nat → Int32) (J : Nat → Nat → Int64) (l1 : Nat) (l2 : Nat) (l3 : Int32) (k0 : Int32) (k1 : Int32) : ev (205, 860, [.retAddr 0, .ref l1, .ref l2, .int l3], [.int k0, .int k1], (sh, M, J)) = (bif decide (k1 = k0) then ev (205, 18, [.retAddr 0, .ref l1, .ref l2, .int (l3 + 4)], [], (sh, M, J)) else some (some (.int 0), (sh, M, J))) := by
  refine ev_br (s1 := (205, 911, [.retAddr 0, .ref l1, .ref l2, .int l3], [], (sh, M, J))) (s2 := (205, 863, [.retAddr 0, .ref l1, .ref l2, .int l3], [], (sh, M, J))) f_205_860 rfl ?_ ?_
  · refine ev_nx (s1 := (205, 914, [.retAddr 0, .ref l1, .ref l2, .int (l3 + 4)], [], (sh, M, J))) f_205_911 rfl ?_
    refine ev_nx (s1 := (205, 18, [.retAddr 0, .ref l1, .ref l2, .int (l3 + 4)], [], (sh, M, J))) f_205_914 rfl ?_
    exact rfl
  · refine ev_nx (s1 := (205, 864, [.retAddr 0, .ref l1, .ref l2, .int l3], [.int 0], (sh, M, J))) f_205_863 rfl ?_
    exact ev_r1 f_205_864 rfl
set_option maxRecDepth 100000 in
theorem b_law_874 (sh : xSh) (M : Nat → Nat → Int32) (J : Nat → Nat → Int64) (l1 : Nat) (l2 : Nat) (l3 : Int32) (k0 : Int32) : ev (205, 874, [.retAddr 0, .ref l1, .ref l2, .int l3], [.int k0], (sh, M, J)) = (bif (decide ((sh.2.2.1 0).1 = 12) && xin (l3 + 1) (sh.2.2.1 0).2) then bif (decide ((sh.2.2.1 l2).1 = 9) && true) then (ev (199, 0, [.ref l2, .int (M 0 ((l3 + 1) : Int32).toNatClampNeg)], [], (sh, M, J))).bind (fun r => ev (205, 883, [.retAddr 0, .ref l1, .ref l2, .int l3], r.1.toList ++ [.int k0], r.2)) else none else none) := by
  refine ev_nx (s1 := (205, 875, [.retAddr 0, .ref l1, .ref l2, .int l3], [.ref l2, .int k0], (sh, M, J))) f_205_874 rfl ?_
  refine ev_nx (s1 := (205, 876, [.retAddr 0, .ref l1, .ref l2, .int l3], [.retAddr 0, .ref l2, .int k0], (sh, M, J))) f_205_875 rfl ?_
  refine ev_nx (s1 := (205, 877, [.retAddr 0, .ref l1, .ref l2, .int l3], [.int l3, .retAddr 0, .ref l2, .int k0], (sh, M, J))) f_205_876 rfl ?_
  refine ev_nx (s1 := (205, 878, [.retAddr 0, .ref l1, .ref l2, .int l3], [.int 1, .int l3, .retAddr 0, .ref l2, .int k0], (sh, M, J))) f_205_877 rfl ?_
  refine ev_nx (s1 := (205, 879, [.retAddr 0, .ref l1, .ref l2, .int l3], [.int (l3 + 1), .retAddr 0, .ref l2, .int k0], (sh, M, J))) f_205_878 rfl ?_
  refine ev_gd (s1 := (205, 880, [.retAddr 0, .ref l1, .ref l2, .int l3], [.int (M 0 ((l3 + 1) : Int32).toNatClampNeg), .ref l2, .int k0], (sh, M, J))) f_205_879 rfl ?_
  exact ev_ca (cc := (decide ((sh.2.2.1 l2).1 = 9) && true)) (s1 := (199, 0, [.ref l2, .int (M 0 ((l3 + 1) : Int32).toNatClampNeg)], [], (sh, M, J))) (k := (205, 883, [.retAddr 0, .ref l1, .ref l2, .int l3], [.int k0])) f_205_880 rfl
set_option maxRecDepth 100000 in
theorem b_law_883 (sh : xSh) (M : Nat → Nat → Int32) (J : Nat → Nat → Int64) (l1 : Nat) (l2 : Nat) (l3 : Int32) (k0 : Int32) (k1 : Int32) : ev (205, 883, [.retAddr 0, .ref l1, .ref l2, .int l3], [.int k0, .int k1], (sh, M, J)) = (bif decide (k1 = k0) then ev (205, 18, [.retAddr 0, .ref l1, .ref l2, .int (l3 + 4)], [], (sh, M, J)) else some (some (.int 0), (sh, M, J))) := by
  refine ev_br (s1 := (205, 911, [.retAddr 0, .ref l1, .ref l2, .int l3], [], (sh, M, J))) (s2 := (205, 886, [.retAddr 0, .ref l1, .ref l2, .int l3], [], (sh, M, J))) f_205_883 rfl ?_ ?_
  · refine ev_nx (s1 := (205, 914, [.retAddr 0, .ref l1, .ref l2, .int (l3 + 4)], [], (sh, M, J))) f_205_911 rfl ?_
    refine ev_nx (s1 := (205, 18, [.retAddr 0, .ref l1, .ref l2, .int (l3 + 4)], [], (sh, M, J))) f_205_914 rfl ?_
    exact rfl
  · refine ev_nx (s1 := (205, 887, [.retAddr 0, .ref l1, .ref l2, .int l3], [.int 0], (sh, M, J))) f_205_886 rfl ?_
    exact ev_r1 f_205_887 rfl
set_option maxRecDepth 100000 in
theorem b_law_897 (sh : xSh) (M : Nat → Nat → Int32) (J : Nat → Nat → Int64) (l1 : Nat) (l2 : Nat) (l3 : Int32) (k0 : Int32) : ev (205, 897, [.retAddr 0, .ref l1, .ref l2, .int l3], [.int k0], (sh, M, J)) = (bif (decide ((sh.2.2.1 0).1 = 12) && xin (l3 + 1) (sh.2.2.1 0).2) then bif (decide ((sh.2.2.1 l2).1 = 9) && true) then (ev (200, 0, [.ref l2, .int (M 0 ((l3 + 1) : Int32).toNatClampNeg)], [], (sh, M, J))).bind (fun r => ev (205, 906, [.retAddr 0, .ref l1, .ref l2, .int l3], r.1.toList ++ [.int k0], r.2)) else none else none) := by
  refine ev_nx (s1 := (205, 898, [.retAddr 0, .ref l1, .ref l2, .int l3], [.ref l2, .int k0], (sh, M, J))) f_205_897 rfl ?_
  refine ev_nx (s1 := (205, 899, [.retAddr 0, .ref l1, .ref l2, .int l3], [.retAddr 0, .ref l2, .int k0], (sh, M, J))) f_205_898 rfl ?_
  refine ev_nx (s1 := (205, 900, [.retAddr 0, .ref l1, .ref l2, .int l3], [.int l3, .retAddr 0, .ref l2, .int k0], (sh, M, J))) f_205_899 rfl ?_
  refine ev_nx (s1 := (205, 901, [.retAddr 0, .ref l1, .ref l2, .int l3], [.int 1, .int l3, .retAddr 0, .ref l2, .int k0], (sh, M, J))) f_205_900 rfl ?_
  refine ev_nx (s1 := (205, 902, [.retAddr 0, .ref l1, .ref l2, .int l3], [.int (l3 + 1), .retAddr 0, .ref l2, .int k0], (sh, M, J))) f_205_901 rfl ?_
  refine ev_gd (s1 := (205, 903, [.retAddr 0, .ref l1, .ref l2, .int l3], [.int (M 0 ((l3 + 1) : Int32).toNatClampNeg), .ref l2, .int k0], (sh, M, J))) f_205_902 rfl ?_
  exact ev_ca (cc := (decide ((sh.2.2.1 l2).1 = 9) && true)) (s1 := (200, 0, [.ref l2, .int (M 0 ((l3 + 1) : Int32).toNatClampNeg)], [], (sh, M, J))) (k := (205, 906, [.retAddr 0, .ref l1, .ref l2, .int l3], [.int k0])) f_205_903 rfl
set_option maxRecDepth 100000 in
theorem b_law_906 (sh : xSh) (M : Nat → Nat → Int32) (J : Nat → Nat → Int64) (l1 : Nat) (l2 : Nat) (l3 : Int32) (k0 : Int32) (k1 : Int32) : ev (205, 906, [.retAddr 0, .ref l1, .ref l2, .int l3], [.int k0, .int k1], (sh, M, J)) = (bif decide (k1 = k0) then ev (205, 18, [.retAddr 0, .ref l1, .ref l2, .int (l3 + 4)], [], (sh, M, J)) else some (some (.int 0), (sh, M, J))) := by
  refine ev_br (s1 := (205, 911, [.retAddr 0, .ref l1, .ref l2, .int l3], [], (sh, M, J))) (s2 := (205, 909, [.retAddr 0, .ref l1, .ref l2, .int l3], [], (sh, M, J))) f_205_906 rfl ?_ ?_
  · refine ev_nx (s1 := (205, 914, [.retAddr 0, .ref l1, .ref l2, .int (l3 + 4)], [], (sh, M, J))) f_205_911 rfl ?_
    refine ev_nx (s1 := (205, 18, [.retAddr 0, .ref l1, .ref l2, .int (l3 + 4)], [], (sh, M, J))) f_205_914 rfl ?_
    exact rfl
  · refine ev_nx (s1 := (205, 910, [.retAddr 0, .ref l1, .ref l2, .int l3], [.int 0], (sh, M, J))) f_205_909 rfl ?_
    exact ev_r1 f_205_910 rfl
