/-! THE MODEL BY SHAPE: its object is cell 222, its arrays the cells behind it. PRINTED by wip/gen/rules.py -/
def ay_fs : List (Option Value) := [none, none, some (.ref 223), none, some (.ref 224), none, some (.ref 225), none, none, none, none, some (.ref 226), some (.ref 227), some (.ref 228), some (.ref 229), some (.ref 230), some (.ref 231), some (.ref 232), some (.ref 233), some (.ref 234), some (.ref 235), some (.ref 236), some (.ref 237), some (.ref 238), some (.ref 239), some (.ref 240), none, some (.ref 241), some (.ref 242), some (.ref 243), some (.ref 244), some (.ref 245), some (.ref 246), some (.ref 247), some (.ref 248), some (.ref 249), some (.ref 250), some (.ref 251), some (.ref 252), some (.ref 253), some (.ref 254), some (.ref 255), some (.ref 256), some (.ref 257), none, some (.ref 258), some (.ref 259), some (.ref 260), some (.ref 261), some (.ref 262), some (.ref 263), some (.ref 264), none, some (.ref 265), some (.ref 266), none, some (.ref 267), some (.ref 268), some (.ref 269), some (.ref 270), none, some (.ref 271), some (.ref 272), some (.ref 273), some (.ref 274), some (.ref 275), some (.ref 276), some (.ref 277), none, none, none, none, none, none, none, none, some (.ref 278), none, some (.ref 279), some (.ref 280), some (.ref 281), some (.ref 282), some (.ref 283), some (.ref 284), some (.ref 285), some (.ref 286), none, some (.ref 287), none, none, some (.ref 288), some (.ref 289), some (.ref 290), some (.ref 291), some (.ref 292), some (.ref 293), some (.ref 294), some (.ref 295), some (.ref 296), some (.ref 297), some (.ref 298), none, none, some (.ref 299), some (.ref 300), some (.ref 301), some (.ref 302), some (.ref 303), some (.ref 304), some (.ref 305), some (.ref 306), some (.ref 307), some (.ref 308), none, none, none, none, some (.ref 309), some (.ref 310), some (.ref 311), none, some (.ref 312), some (.ref 313), none]
def ay_S : List ax_S := .inr (222, .inr (12, ay_fs)) :: [.inr (223, .inl (0, 700)), .inr (224, .inl (0, 700)), .inr (225, .inl (0, 700)), .inr (226, .inl (0, 9)), .inr (227, .inl (0, 9)), .inr (228, .inl (0, 9)), .inr (229, .inl (0, 9)), .inr (230, .inl (0, 240)), .inr (231, .inl (0, 240)), .inr (232, .inl (0, 240)), .inr (233, .inl (0, 240)), .inr (234, .inl (0, 240)), .inr (235, .inl (0, 240)), .inr (236, .inl (1, 240)), .inr (237, .inl (0, 240)), .inr (238, .inl (0, 240)), .inr (239, .inl (0, 240)), .inr (240, .inl (0, 240)), .inr (241, .inl (0, 701)), .inr (242, .inl (0, 701)), .inr (243, .inl (0, 701)), .inr (244, .inl (0, 701)), .inr (245, .inl (0, 701)), .inr (246, .inl (0, 701)), .inr (247, .inl (0, 701)), .inr (248, .inl (0, 701)), .inr (249, .inl (0, 701)), .inr (250, .inl (0, 701)), .inr (251, .inl (0, 701)), .inr (252, .inl (0, 701)), .inr (253, .inl (0, 701)), .inr (254, .inl (0, 701)), .inr (255, .inl (1, 701)), .inr (256, .inl (1, 701)), .inr (257, .inl (0, 701)), .inr (258, .inl (0, 351)), .inr (259, .inl (0, 351)), .inr (260, .inl (0, 351)), .inr (261, .inl (0, 351)), .inr (262, .inl (0, 351)), .inr (263, .inl (0, 351)), .inr (264, .inl (0, 351)), .inr (265, .inl (0, 701)), .inr (266, .inl (0, 701)), .inr (267, .inl (0, 351)), .inr (268, .inl (0, 351)), .inr (269, .inl (0, 351)), .inr (270, .inl (0, 351)), .inr (271, .inl (0, 351)), .inr (272, .inl (0, 351)), .inr (273, .inl (1, 351)), .inr (274, .inl (1, 351)), .inr (275, .inl (0, 351)), .inr (276, .inl (0, 351)), .inr (277, .inl (0, 351)), .inr (278, .inl (0, 351)), .inr (279, .inl (0, 240)), .inr (280, .inl (0, 240)), .inr (281, .inl (0, 240)), .inr (282, .inl (1, 240)), .inr (283, .inl (1, 676)), .inr (284, .inl (0, 9)), .inr (285, .inl (0, 240)), .inr (286, .inl (1, 26)), .inr (287, .inl (0, 9)), .inr (288, .inl (0, 9)), .inr (289, .inl (0, 9)), .inr (290, .inl (0, 2700)), .inr (291, .inl (0, 600)), .inr (292, .inl (0, 600)), .inr (293, .inl (0, 240)), .inr (294, .inl (1, 240)), .inr (295, .inl (1, 240)), .inr (296, .inl (0, 6309)), .inr (297, .inl (1, 3159)), .inr (298, .inl (0, 3159)), .inr (299, .inl (0, 8)), .inr (300, .inl (0, 208)), .inr (301, .inl (0, 2400)), .inr (302, .inl (0, 8)), .inr (303, .inl (1, 8)), .inr (304, .inl (0, 208)), .inr (305, .inl (1, 208)), .inr (306, .inl (1, 32)), .inr (307, .inl (0, 9600)), .inr (308, .inl (0, 32)), .inr (309, .inl (0, 180000)), .inr (310, .inl (0, 300)), .inr (311, .inl (0, 300)), .inr (312, .inl (0, 301)), .inr (313, .inl (0, 26))]
def ay_lay : ax_Lay := fun ss => ax_ok ss ∧ ∀ k e, ay_S[k]? = some e → ss[222 + k]? = some e
theorem ay_ok : ∀ ss, ay_lay ss → ax_ok ss := fun _ h => h.1
theorem ay_222 : ∀ ss, ay_lay ss → ss[222]? = some (.inr (222, .inr (12, ay_fs))) := fun _ h => h.2 0 _ rfl
theorem ay_223 : ∀ ss, ay_lay ss → ss[223]? = some (.inr (223, .inl (0, 700))) := fun _ h => h.2 1 _ rfl
theorem ay_224 : ∀ ss, ay_lay ss → ss[224]? = some (.inr (224, .inl (0, 700))) := fun _ h => h.2 2 _ rfl
theorem ay_225 : ∀ ss, ay_lay ss → ss[225]? = some (.inr (225, .inl (0, 700))) := fun _ h => h.2 3 _ rfl
theorem ay_226 : ∀ ss, ay_lay ss → ss[226]? = some (.inr (226, .inl (0, 9))) := fun _ h => h.2 4 _ rfl
theorem ay_227 : ∀ ss, ay_lay ss → ss[227]? = some (.inr (227, .inl (0, 9))) := fun _ h => h.2 5 _ rfl
theorem ay_228 : ∀ ss, ay_lay ss → ss[228]? = some (.inr (228, .inl (0, 9))) := fun _ h => h.2 6 _ rfl
theorem ay_229 : ∀ ss, ay_lay ss → ss[229]? = some (.inr (229, .inl (0, 9))) := fun _ h => h.2 7 _ rfl
theorem ay_230 : ∀ ss, ay_lay ss → ss[230]? = some (.inr (230, .inl (0, 240))) := fun _ h => h.2 8 _ rfl
theorem ay_231 : ∀ ss, ay_lay ss → ss[231]? = some (.inr (231, .inl (0, 240))) := fun _ h => h.2 9 _ rfl
theorem ay_232 : ∀ ss, ay_lay ss → ss[232]? = some (.inr (232, .inl (0, 240))) := fun _ h => h.2 10 _ rfl
theorem ay_233 : ∀ ss, ay_lay ss → ss[233]? = some (.inr (233, .inl (0, 240))) := fun _ h => h.2 11 _ rfl
theorem ay_234 : ∀ ss, ay_lay ss → ss[234]? = some (.inr (234, .inl (0, 240))) := fun _ h => h.2 12 _ rfl
theorem ay_235 : ∀ ss, ay_lay ss → ss[235]? = some (.inr (235, .inl (0, 240))) := fun _ h => h.2 13 _ rfl
theorem ay_236 : ∀ ss, ay_lay ss → ss[236]? = some (.inr (236, .inl (1, 240))) := fun _ h => h.2 14 _ rfl
theorem ay_237 : ∀ ss, ay_lay ss → ss[237]? = some (.inr (237, .inl (0, 240))) := fun _ h => h.2 15 _ rfl
theorem ay_238 : ∀ ss, ay_lay ss → ss[238]? = some (.inr (238, .inl (0, 240))) := fun _ h => h.2 16 _ rfl
theorem ay_239 : ∀ ss, ay_lay ss → ss[239]? = some (.inr (239, .inl (0, 240))) := fun _ h => h.2 17 _ rfl
theorem ay_240 : ∀ ss, ay_lay ss → ss[240]? = some (.inr (240, .inl (0, 240))) := fun _ h => h.2 18 _ rfl
theorem ay_241 : ∀ ss, ay_lay ss → ss[241]? = some (.inr (241, .inl (0, 701))) := fun _ h => h.2 19 _ rfl
theorem ay_242 : ∀ ss, ay_lay ss → ss[242]? = some (.inr (242, .inl (0, 701))) := fun _ h => h.2 20 _ rfl
theorem ay_243 : ∀ ss, ay_lay ss → ss[243]? = some (.inr (243, .inl (0, 701))) := fun _ h => h.2 21 _ rfl
theorem ay_244 : ∀ ss, ay_lay ss → ss[244]? = some (.inr (244, .inl (0, 701))) := fun _ h => h.2 22 _ rfl
theorem ay_245 : ∀ ss, ay_lay ss → ss[245]? = some (.inr (245, .inl (0, 701))) := fun _ h => h.2 23 _ rfl
theorem ay_246 : ∀ ss, ay_lay ss → ss[246]? = some (.inr (246, .inl (0, 701))) := fun _ h => h.2 24 _ rfl
theorem ay_247 : ∀ ss, ay_lay ss → ss[247]? = some (.inr (247, .inl (0, 701))) := fun _ h => h.2 25 _ rfl
theorem ay_248 : ∀ ss, ay_lay ss → ss[248]? = some (.inr (248, .inl (0, 701))) := fun _ h => h.2 26 _ rfl
theorem ay_249 : ∀ ss, ay_lay ss → ss[249]? = some (.inr (249, .inl (0, 701))) := fun _ h => h.2 27 _ rfl
theorem ay_250 : ∀ ss, ay_lay ss → ss[250]? = some (.inr (250, .inl (0, 701))) := fun _ h => h.2 28 _ rfl
theorem ay_251 : ∀ ss, ay_lay ss → ss[251]? = some (.inr (251, .inl (0, 701))) := fun _ h => h.2 29 _ rfl
theorem ay_252 : ∀ ss, ay_lay ss → ss[252]? = some (.inr (252, .inl (0, 701))) := fun _ h => h.2 30 _ rfl
theorem ay_253 : ∀ ss, ay_lay ss → ss[253]? = some (.inr (253, .inl (0, 701))) := fun _ h => h.2 31 _ rfl
theorem ay_254 : ∀ ss, ay_lay ss → ss[254]? = some (.inr (254, .inl (0, 701))) := fun _ h => h.2 32 _ rfl
theorem ay_255 : ∀ ss, ay_lay ss → ss[255]? = some (.inr (255, .inl (1, 701))) := fun _ h => h.2 33 _ rfl
theorem ay_256 : ∀ ss, ay_lay ss → ss[256]? = some (.inr (256, .inl (1, 701))) := fun _ h => h.2 34 _ rfl
theorem ay_257 : ∀ ss, ay_lay ss → ss[257]? = some (.inr (257, .inl (0, 701))) := fun _ h => h.2 35 _ rfl
theorem ay_258 : ∀ ss, ay_lay ss → ss[258]? = some (.inr (258, .inl (0, 351))) := fun _ h => h.2 36 _ rfl
theorem ay_259 : ∀ ss, ay_lay ss → ss[259]? = some (.inr (259, .inl (0, 351))) := fun _ h => h.2 37 _ rfl
theorem ay_260 : ∀ ss, ay_lay ss → ss[260]? = some (.inr (260, .inl (0, 351))) := fun _ h => h.2 38 _ rfl
theorem ay_261 : ∀ ss, ay_lay ss → ss[261]? = some (.inr (261, .inl (0, 351))) := fun _ h => h.2 39 _ rfl
theorem ay_262 : ∀ ss, ay_lay ss → ss[262]? = some (.inr (262, .inl (0, 351))) := fun _ h => h.2 40 _ rfl
theorem ay_263 : ∀ ss, ay_lay ss → ss[263]? = some (.inr (263, .inl (0, 351))) := fun _ h => h.2 41 _ rfl
theorem ay_264 : ∀ ss, ay_lay ss → ss[264]? = some (.inr (264, .inl (0, 351))) := fun _ h => h.2 42 _ rfl
theorem ay_265 : ∀ ss, ay_lay ss → ss[265]? = some (.inr (265, .inl (0, 701))) := fun _ h => h.2 43 _ rfl
theorem ay_266 : ∀ ss, ay_lay ss → ss[266]? = some (.inr (266, .inl (0, 701))) := fun _ h => h.2 44 _ rfl
theorem ay_267 : ∀ ss, ay_lay ss → ss[267]? = some (.inr (267, .inl (0, 351))) := fun _ h => h.2 45 _ rfl
theorem ay_268 : ∀ ss, ay_lay ss → ss[268]? = some (.inr (268, .inl (0, 351))) := fun _ h => h.2 46 _ rfl
theorem ay_269 : ∀ ss, ay_lay ss → ss[269]? = some (.inr (269, .inl (0, 351))) := fun _ h => h.2 47 _ rfl
theorem ay_270 : ∀ ss, ay_lay ss → ss[270]? = some (.inr (270, .inl (0, 351))) := fun _ h => h.2 48 _ rfl
theorem ay_271 : ∀ ss, ay_lay ss → ss[271]? = some (.inr (271, .inl (0, 351))) := fun _ h => h.2 49 _ rfl
theorem ay_272 : ∀ ss, ay_lay ss → ss[272]? = some (.inr (272, .inl (0, 351))) := fun _ h => h.2 50 _ rfl
theorem ay_273 : ∀ ss, ay_lay ss → ss[273]? = some (.inr (273, .inl (1, 351))) := fun _ h => h.2 51 _ rfl
theorem ay_274 : ∀ ss, ay_lay ss → ss[274]? = some (.inr (274, .inl (1, 351))) := fun _ h => h.2 52 _ rfl
theorem ay_275 : ∀ ss, ay_lay ss → ss[275]? = some (.inr (275, .inl (0, 351))) := fun _ h => h.2 53 _ rfl
theorem ay_276 : ∀ ss, ay_lay ss → ss[276]? = some (.inr (276, .inl (0, 351))) := fun _ h => h.2 54 _ rfl
theorem ay_277 : ∀ ss, ay_lay ss → ss[277]? = some (.inr (277, .inl (0, 351))) := fun _ h => h.2 55 _ rfl
theorem ay_278 : ∀ ss, ay_lay ss → ss[278]? = some (.inr (278, .inl (0, 351))) := fun _ h => h.2 56 _ rfl
theorem ay_279 : ∀ ss, ay_lay ss → ss[279]? = some (.inr (279, .inl (0, 240))) := fun _ h => h.2 57 _ rfl
theorem ay_280 : ∀ ss, ay_lay ss → ss[280]? = some (.inr (280, .inl (0, 240))) := fun _ h => h.2 58 _ rfl
theorem ay_281 : ∀ ss, ay_lay ss → ss[281]? = some (.inr (281, .inl (0, 240))) := fun _ h => h.2 59 _ rfl
theorem ay_282 : ∀ ss, ay_lay ss → ss[282]? = some (.inr (282, .inl (1, 240))) := fun _ h => h.2 60 _ rfl
theorem ay_283 : ∀ ss, ay_lay ss → ss[283]? = some (.inr (283, .inl (1, 676))) := fun _ h => h.2 61 _ rfl
theorem ay_284 : ∀ ss, ay_lay ss → ss[284]? = some (.inr (284, .inl (0, 9))) := fun _ h => h.2 62 _ rfl
theorem ay_285 : ∀ ss, ay_lay ss → ss[285]? = some (.inr (285, .inl (0, 240))) := fun _ h => h.2 63 _ rfl
theorem ay_286 : ∀ ss, ay_lay ss → ss[286]? = some (.inr (286, .inl (1, 26))) := fun _ h => h.2 64 _ rfl
theorem ay_287 : ∀ ss, ay_lay ss → ss[287]? = some (.inr (287, .inl (0, 9))) := fun _ h => h.2 65 _ rfl
theorem ay_288 : ∀ ss, ay_lay ss → ss[288]? = some (.inr (288, .inl (0, 9))) := fun _ h => h.2 66 _ rfl
theorem ay_289 : ∀ ss, ay_lay ss → ss[289]? = some (.inr (289, .inl (0, 9))) := fun _ h => h.2 67 _ rfl
theorem ay_290 : ∀ ss, ay_lay ss → ss[290]? = some (.inr (290, .inl (0, 2700))) := fun _ h => h.2 68 _ rfl
theorem ay_291 : ∀ ss, ay_lay ss → ss[291]? = some (.inr (291, .inl (0, 600))) := fun _ h => h.2 69 _ rfl
theorem ay_292 : ∀ ss, ay_lay ss → ss[292]? = some (.inr (292, .inl (0, 600))) := fun _ h => h.2 70 _ rfl
theorem ay_293 : ∀ ss, ay_lay ss → ss[293]? = some (.inr (293, .inl (0, 240))) := fun _ h => h.2 71 _ rfl
theorem ay_294 : ∀ ss, ay_lay ss → ss[294]? = some (.inr (294, .inl (1, 240))) := fun _ h => h.2 72 _ rfl
theorem ay_295 : ∀ ss, ay_lay ss → ss[295]? = some (.inr (295, .inl (1, 240))) := fun _ h => h.2 73 _ rfl
theorem ay_296 : ∀ ss, ay_lay ss → ss[296]? = some (.inr (296, .inl (0, 6309))) := fun _ h => h.2 74 _ rfl
theorem ay_297 : ∀ ss, ay_lay ss → ss[297]? = some (.inr (297, .inl (1, 3159))) := fun _ h => h.2 75 _ rfl
theorem ay_298 : ∀ ss, ay_lay ss → ss[298]? = some (.inr (298, .inl (0, 3159))) := fun _ h => h.2 76 _ rfl
theorem ay_299 : ∀ ss, ay_lay ss → ss[299]? = some (.inr (299, .inl (0, 8))) := fun _ h => h.2 77 _ rfl
theorem ay_300 : ∀ ss, ay_lay ss → ss[300]? = some (.inr (300, .inl (0, 208))) := fun _ h => h.2 78 _ rfl
theorem ay_301 : ∀ ss, ay_lay ss → ss[301]? = some (.inr (301, .inl (0, 2400))) := fun _ h => h.2 79 _ rfl
theorem ay_302 : ∀ ss, ay_lay ss → ss[302]? = some (.inr (302, .inl (0, 8))) := fun _ h => h.2 80 _ rfl
theorem ay_303 : ∀ ss, ay_lay ss → ss[303]? = some (.inr (303, .inl (1, 8))) := fun _ h => h.2 81 _ rfl
theorem ay_304 : ∀ ss, ay_lay ss → ss[304]? = some (.inr (304, .inl (0, 208))) := fun _ h => h.2 82 _ rfl
theorem ay_305 : ∀ ss, ay_lay ss → ss[305]? = some (.inr (305, .inl (1, 208))) := fun _ h => h.2 83 _ rfl
theorem ay_306 : ∀ ss, ay_lay ss → ss[306]? = some (.inr (306, .inl (1, 32))) := fun _ h => h.2 84 _ rfl
theorem ay_307 : ∀ ss, ay_lay ss → ss[307]? = some (.inr (307, .inl (0, 9600))) := fun _ h => h.2 85 _ rfl
theorem ay_308 : ∀ ss, ay_lay ss → ss[308]? = some (.inr (308, .inl (0, 32))) := fun _ h => h.2 86 _ rfl
theorem ay_309 : ∀ ss, ay_lay ss → ss[309]? = some (.inr (309, .inl (0, 180000))) := fun _ h => h.2 87 _ rfl
theorem ay_310 : ∀ ss, ay_lay ss → ss[310]? = some (.inr (310, .inl (0, 300))) := fun _ h => h.2 88 _ rfl
theorem ay_311 : ∀ ss, ay_lay ss → ss[311]? = some (.inr (311, .inl (0, 300))) := fun _ h => h.2 89 _ rfl
theorem ay_312 : ∀ ss, ay_lay ss → ss[312]? = some (.inr (312, .inl (0, 301))) := fun _ h => h.2 90 _ rfl
theorem ay_313 : ∀ ss, ay_lay ss → ss[313]? = some (.inr (313, .inl (0, 26))) := fun _ h => h.2 91 _ rfl
theorem fl_12_7 : ai_P0.2.1 12 7 = some (12, 2, (.array .int), true) := rfl
theorem fl_12_13 : ai_P0.2.1 12 13 = some (12, 4, (.array .int), true) := rfl
theorem fl_12_16 : ai_P0.2.1 12 16 = some (12, 6, (.array .int), true) := rfl
theorem fl_12_19 : ai_P0.2.1 12 19 = some (12, 11, (.array .int), true) := rfl
theorem fl_12_22 : ai_P0.2.1 12 22 = some (12, 12, (.array .int), true) := rfl
theorem fl_12_25 : ai_P0.2.1 12 25 = some (12, 13, (.array .int), true) := rfl
theorem fl_12_28 : ai_P0.2.1 12 28 = some (12, 14, (.array .int), true) := rfl
theorem fl_12_31 : ai_P0.2.1 12 31 = some (12, 15, (.array .int), true) := rfl
theorem fl_12_34 : ai_P0.2.1 12 34 = some (12, 16, (.array .int), true) := rfl
theorem fl_12_37 : ai_P0.2.1 12 37 = some (12, 17, (.array .int), true) := rfl
theorem fl_12_40 : ai_P0.2.1 12 40 = some (12, 18, (.array .int), true) := rfl
theorem fl_12_43 : ai_P0.2.1 12 43 = some (12, 19, (.array .int), true) := rfl
theorem fl_12_46 : ai_P0.2.1 12 46 = some (12, 20, (.array .int), true) := rfl
theorem fl_12_49 : ai_P0.2.1 12 49 = some (12, 21, (.array .boolean), true) := rfl
theorem fl_12_53 : ai_P0.2.1 12 53 = some (12, 22, (.array .int), true) := rfl
theorem fl_12_56 : ai_P0.2.1 12 56 = some (12, 23, (.array .int), true) := rfl
theorem fl_12_59 : ai_P0.2.1 12 59 = some (12, 24, (.array .int), true) := rfl
theorem fl_12_62 : ai_P0.2.1 12 62 = some (12, 25, (.array .int), true) := rfl
theorem fl_12_65 : ai_P0.2.1 12 65 = some (12, 27, (.array .int), true) := rfl
theorem fl_12_68 : ai_P0.2.1 12 68 = some (12, 28, (.array .int), true) := rfl
theorem fl_12_71 : ai_P0.2.1 12 71 = some (12, 29, (.array .int), true) := rfl
theorem fl_12_74 : ai_P0.2.1 12 74 = some (12, 30, (.array .int), true) := rfl
theorem fl_12_77 : ai_P0.2.1 12 77 = some (12, 31, (.array .int), true) := rfl
theorem fl_12_80 : ai_P0.2.1 12 80 = some (12, 32, (.array .int), true) := rfl
theorem fl_12_83 : ai_P0.2.1 12 83 = some (12, 33, (.array .int), true) := rfl
theorem fl_12_86 : ai_P0.2.1 12 86 = some (12, 34, (.array .int), true) := rfl
theorem fl_12_89 : ai_P0.2.1 12 89 = some (12, 35, (.array .int), true) := rfl
theorem fl_12_92 : ai_P0.2.1 12 92 = some (12, 36, (.array .int), true) := rfl
theorem fl_12_95 : ai_P0.2.1 12 95 = some (12, 37, (.array .int), true) := rfl
theorem fl_12_98 : ai_P0.2.1 12 98 = some (12, 38, (.array .int), true) := rfl
theorem fl_12_101 : ai_P0.2.1 12 101 = some (12, 39, (.array .int), true) := rfl
theorem fl_12_104 : ai_P0.2.1 12 104 = some (12, 40, (.array .int), true) := rfl
theorem fl_12_107 : ai_P0.2.1 12 107 = some (12, 41, (.array .boolean), true) := rfl
theorem fl_12_110 : ai_P0.2.1 12 110 = some (12, 42, (.array .boolean), true) := rfl
theorem fl_12_113 : ai_P0.2.1 12 113 = some (12, 43, (.array .int), true) := rfl
theorem fl_12_116 : ai_P0.2.1 12 116 = some (12, 45, (.array .int), true) := rfl
theorem fl_12_119 : ai_P0.2.1 12 119 = some (12, 46, (.array .int), true) := rfl
theorem fl_12_122 : ai_P0.2.1 12 122 = some (12, 47, (.array .int), true) := rfl
theorem fl_12_125 : ai_P0.2.1 12 125 = some (12, 48, (.array .int), true) := rfl
theorem fl_12_128 : ai_P0.2.1 12 128 = some (12, 49, (.array .int), true) := rfl
theorem fl_12_131 : ai_P0.2.1 12 131 = some (12, 50, (.array .int), true) := rfl
theorem fl_12_134 : ai_P0.2.1 12 134 = some (12, 51, (.array .int), true) := rfl
theorem fl_12_137 : ai_P0.2.1 12 137 = some (12, 53, (.array .int), true) := rfl
theorem fl_12_140 : ai_P0.2.1 12 140 = some (12, 54, (.array .int), true) := rfl
theorem fl_12_143 : ai_P0.2.1 12 143 = some (12, 56, (.array .int), true) := rfl
theorem fl_12_146 : ai_P0.2.1 12 146 = some (12, 57, (.array .int), true) := rfl
theorem fl_12_149 : ai_P0.2.1 12 149 = some (12, 58, (.array .int), true) := rfl
theorem fl_12_152 : ai_P0.2.1 12 152 = some (12, 59, (.array .int), true) := rfl
theorem fl_12_155 : ai_P0.2.1 12 155 = some (12, 61, (.array .int), true) := rfl
theorem fl_12_158 : ai_P0.2.1 12 158 = some (12, 62, (.array .int), true) := rfl
theorem fl_12_161 : ai_P0.2.1 12 161 = some (12, 63, (.array .boolean), true) := rfl
theorem fl_12_164 : ai_P0.2.1 12 164 = some (12, 64, (.array .boolean), true) := rfl
theorem fl_12_167 : ai_P0.2.1 12 167 = some (12, 65, (.array .int), true) := rfl
theorem fl_12_170 : ai_P0.2.1 12 170 = some (12, 66, (.array .int), true) := rfl
theorem fl_12_173 : ai_P0.2.1 12 173 = some (12, 67, (.array .int), true) := rfl
theorem fl_12_176 : ai_P0.2.1 12 176 = some (12, 76, (.array .int), true) := rfl
theorem fl_12_179 : ai_P0.2.1 12 179 = some (12, 78, (.array .int), true) := rfl
theorem fl_12_182 : ai_P0.2.1 12 182 = some (12, 79, (.array .int), true) := rfl
theorem fl_12_185 : ai_P0.2.1 12 185 = some (12, 80, (.array .int), true) := rfl
theorem fl_12_188 : ai_P0.2.1 12 188 = some (12, 81, (.array .boolean), true) := rfl
theorem fl_12_191 : ai_P0.2.1 12 191 = some (12, 82, (.array .boolean), true) := rfl
theorem fl_12_194 : ai_P0.2.1 12 194 = some (12, 83, (.array .int), true) := rfl
theorem fl_12_197 : ai_P0.2.1 12 197 = some (12, 84, (.array .int), true) := rfl
theorem fl_12_200 : ai_P0.2.1 12 200 = some (12, 85, (.array .boolean), true) := rfl
theorem fl_12_203 : ai_P0.2.1 12 203 = some (12, 87, (.array .int), true) := rfl
theorem fl_12_206 : ai_P0.2.1 12 206 = some (12, 90, (.array .int), true) := rfl
theorem fl_12_209 : ai_P0.2.1 12 209 = some (12, 91, (.array .int), true) := rfl
theorem fl_12_212 : ai_P0.2.1 12 212 = some (12, 92, (.array .int), true) := rfl
theorem fl_12_215 : ai_P0.2.1 12 215 = some (12, 93, (.array .int), true) := rfl
theorem fl_12_218 : ai_P0.2.1 12 218 = some (12, 94, (.array .int), true) := rfl
theorem fl_12_221 : ai_P0.2.1 12 221 = some (12, 95, (.array .int), true) := rfl
theorem fl_12_224 : ai_P0.2.1 12 224 = some (12, 96, (.array .boolean), true) := rfl
theorem fl_12_227 : ai_P0.2.1 12 227 = some (12, 97, (.array .boolean), true) := rfl
theorem fl_12_230 : ai_P0.2.1 12 230 = some (12, 98, (.array .int), true) := rfl
theorem fl_12_233 : ai_P0.2.1 12 233 = some (12, 99, (.array .boolean), true) := rfl
theorem fl_12_236 : ai_P0.2.1 12 236 = some (12, 100, (.array .int), true) := rfl
theorem fl_12_239 : ai_P0.2.1 12 239 = some (12, 103, (.array .int), true) := rfl
theorem fl_12_242 : ai_P0.2.1 12 242 = some (12, 104, (.array .int), true) := rfl
theorem fl_12_245 : ai_P0.2.1 12 245 = some (12, 105, (.array .int), true) := rfl
theorem fl_12_248 : ai_P0.2.1 12 248 = some (12, 106, (.array .int), true) := rfl
theorem fl_12_251 : ai_P0.2.1 12 251 = some (12, 107, (.array .boolean), true) := rfl
theorem fl_12_254 : ai_P0.2.1 12 254 = some (12, 108, (.array .int), true) := rfl
theorem fl_12_257 : ai_P0.2.1 12 257 = some (12, 109, (.array .boolean), true) := rfl
theorem fl_12_260 : ai_P0.2.1 12 260 = some (12, 110, (.array .boolean), true) := rfl
theorem fl_12_263 : ai_P0.2.1 12 263 = some (12, 111, (.array .int), true) := rfl
theorem fl_12_266 : ai_P0.2.1 12 266 = some (12, 112, (.array .int), true) := rfl
theorem fl_12_270 : ai_P0.2.1 12 270 = some (12, 117, (.array .int), true) := rfl
theorem fl_12_273 : ai_P0.2.1 12 273 = some (12, 118, (.array .int), true) := rfl
theorem fl_12_276 : ai_P0.2.1 12 276 = some (12, 119, (.array .int), true) := rfl
theorem fl_12_279 : ai_P0.2.1 12 279 = some (12, 121, (.array .int), true) := rfl
theorem fl_12_282 : ai_P0.2.1 12 282 = some (12, 122, (.array .int), true) := rfl
theorem fl_12_285 : ai_P0.2.1 12 285 = some (12, 0, .int, false) := rfl
theorem fl_12_289 : ai_P0.2.1 12 289 = some (12, 1, .int, false) := rfl
theorem fl_12_294 : ai_P0.2.1 12 294 = some (12, 68, .int, false) := rfl
theorem fl_12_297 : ai_P0.2.1 12 297 = some (12, 3, .int, false) := rfl
theorem fl_12_304 : ai_P0.2.1 12 304 = some (12, 73, .int, false) := rfl
theorem fl_12_314 : ai_P0.2.1 12 314 = some (12, 69, .int, false) := rfl
theorem fl_12_317 : ai_P0.2.1 12 317 = some (12, 26, .int, false) := rfl
theorem fl_12_320 : ai_P0.2.1 12 320 = some (12, 10, .int, false) := rfl
theorem fl_12_323 : ai_P0.2.1 12 323 = some (12, 74, .int, false) := rfl
theorem fl_12_333 : ai_P0.2.1 12 333 = some (12, 75, .int, false) := rfl
theorem fl_12_345 : ai_P0.2.1 12 345 = some (12, 71, .boolean, false) := rfl
theorem fl_12_378 : ai_P0.2.1 12 378 = some (12, 72, .int, false) := rfl
theorem fl_12_390 : ai_P0.2.1 12 390 = some (12, 70, .boolean, false) := rfl
theorem fl_12_414 : ai_P0.2.1 12 414 = some (12, 44, .int, false) := rfl
theorem fl_12_417 : ai_P0.2.1 12 417 = some (12, 52, .int, false) := rfl
theorem fl_12_420 : ai_P0.2.1 12 420 = some (12, 60, .int, false) := rfl
theorem fl_12_423 : ai_P0.2.1 12 423 = some (12, 55, .int, false) := rfl
theorem fl_12_441 : ai_P0.2.1 12 441 = some (12, 77, .int, false) := rfl
theorem fl_12_444 : ai_P0.2.1 12 444 = some (12, 86, .int, false) := rfl
theorem fl_12_573 : ai_P0.2.1 12 573 = some (12, 88, .int, false) := rfl
theorem fl_12_579 : ai_P0.2.1 12 579 = some (12, 89, .int, false) := rfl
theorem fl_12_604 : ai_P0.2.1 12 604 = some (12, 8, .int, false) := rfl
theorem fl_12_607 : ai_P0.2.1 12 607 = some (12, 9, .int, false) := rfl
theorem fl_12_610 : ai_P0.2.1 12 610 = some (12, 7, .boolean, false) := rfl
theorem fl_12_613 : ai_P0.2.1 12 613 = some (12, 5, .int, false) := rfl
theorem fl_12_616 : ai_P0.2.1 12 616 = some (12, 102, .int, false) := rfl
theorem fl_12_622 : ai_P0.2.1 12 622 = some (12, 101, .int, false) := rfl
theorem fl_12_685 : ai_P0.2.1 12 685 = some (12, 116, .int, false) := rfl
theorem fl_12_688 : ai_P0.2.1 12 688 = some (12, 115, .int, false) := rfl
theorem fl_12_694 : ai_P0.2.1 12 694 = some (12, 123, .boolean, false) := rfl
theorem fl_12_697 : ai_P0.2.1 12 697 = some (12, 120, .int, false) := rfl
theorem fl_12_700 : ai_P0.2.1 12 700 = some (12, 113, .boolean, false) := rfl
theorem fl_12_728 : ai_P0.2.1 12 728 = some (12, 114, .int, false) := rfl
theorem ml_12_300 : ai_P0.2.2.2.1 12 300 = some (0, 166, 0, 12) := rfl
theorem ml_12_307 : ai_P0.2.2.2.1 12 307 = some (2, 167, 3, 0) := rfl
theorem ml_12_311 : ai_P0.2.2.2.1 12 311 = some (0, 189, 0, 12) := rfl
theorem ml_12_326 : ai_P0.2.2.2.1 12 326 = some (0, 172, 0, 12) := rfl
theorem ml_12_330 : ai_P0.2.2.2.1 12 330 = some (0, 176, 0, 12) := rfl
theorem ml_12_336 : ai_P0.2.2.2.1 12 336 = some (0, 180, 0, 12) := rfl
theorem ml_12_339 : ai_P0.2.2.2.1 12 339 = some (0, 188, 0, 12) := rfl
theorem ml_12_342 : ai_P0.2.2.2.1 12 342 = some (0, 197, 0, 12) := rfl
theorem ml_12_349 : ai_P0.2.2.2.1 12 349 = some (0, 191, 1, 12) := rfl
theorem ml_12_353 : ai_P0.2.2.2.1 12 353 = some (0, 179, 0, 12) := rfl
theorem ml_12_356 : ai_P0.2.2.2.1 12 356 = some (0, 192, 5, 12) := rfl
theorem ml_12_360 : ai_P0.2.2.2.1 12 360 = some (0, 181, 0, 12) := rfl
theorem ml_12_363 : ai_P0.2.2.2.1 12 363 = some (0, 196, 0, 12) := rfl
theorem ml_12_366 : ai_P0.2.2.2.1 12 366 = some (0, 169, 1, 12) := rfl
theorem ml_12_369 : ai_P0.2.2.2.1 12 369 = some (0, 182, 0, 12) := rfl
theorem ml_12_372 : ai_P0.2.2.2.1 12 372 = some (0, 183, 0, 12) := rfl
theorem ml_12_375 : ai_P0.2.2.2.1 12 375 = some (0, 184, 0, 12) := rfl
theorem ml_12_381 : ai_P0.2.2.2.1 12 381 = some (0, 185, 0, 12) := rfl
theorem ml_12_384 : ai_P0.2.2.2.1 12 384 = some (0, 186, 0, 12) := rfl
theorem ml_12_387 : ai_P0.2.2.2.1 12 387 = some (0, 187, 0, 12) := rfl
theorem ml_12_393 : ai_P0.2.2.2.1 12 393 = some (0, 171, 0, 12) := rfl
theorem ml_12_396 : ai_P0.2.2.2.1 12 396 = some (0, 190, 1, 12) := rfl
theorem ml_12_399 : ai_P0.2.2.2.1 12 399 = some (0, 193, 0, 12) := rfl
theorem ml_12_402 : ai_P0.2.2.2.1 12 402 = some (0, 194, 0, 12) := rfl
theorem ml_12_405 : ai_P0.2.2.2.1 12 405 = some (0, 165, 0, 12) := rfl
theorem ml_12_408 : ai_P0.2.2.2.1 12 408 = some (0, 195, 0, 12) := rfl
theorem ml_12_411 : ai_P0.2.2.2.1 12 411 = some (0, 175, 0, 12) := rfl
theorem ml_12_426 : ai_P0.2.2.2.1 12 426 = some (0, 178, 2, 12) := rfl
theorem ml_12_430 : ai_P0.2.2.2.1 12 430 = some (0, 198, 2, 12) := rfl
theorem ml_12_433 : ai_P0.2.2.2.1 12 433 = some (0, 173, 1, 12) := rfl
theorem ml_12_437 : ai_P0.2.2.2.1 12 437 = some (0, 174, 2, 12) := rfl
theorem ml_12_447 : ai_P0.2.2.2.1 12 447 = some (0, 201, 2, 12) := rfl
theorem ml_12_451 : ai_P0.2.2.2.1 12 451 = some (0, 202, 1, 12) := rfl
theorem ml_12_454 : ai_P0.2.2.2.1 12 454 = some (0, 204, 1, 12) := rfl
theorem ml_12_457 : ai_P0.2.2.2.1 12 457 = some (0, 168, 1, 12) := rfl
theorem ml_12_460 : ai_P0.2.2.2.1 12 460 = some (0, 207, 2, 12) := rfl
theorem ml_12_463 : ai_P0.2.2.2.1 12 463 = some (0, 209, 1, 12) := rfl
theorem ml_12_466 : ai_P0.2.2.2.1 12 466 = some (0, 203, 2, 12) := rfl
theorem ml_12_469 : ai_P0.2.2.2.1 12 469 = some (0, 208, 2, 12) := rfl
theorem ml_12_472 : ai_P0.2.2.2.1 12 472 = some (0, 206, 1, 12) := rfl
theorem ml_12_475 : ai_P0.2.2.2.1 12 475 = some (0, 205, 2, 12) := rfl
theorem ml_12_478 : ai_P0.2.2.2.1 12 478 = some (0, 210, 3, 12) := rfl
theorem ml_12_481 : ai_P0.2.2.2.1 12 481 = some (0, 212, 1, 12) := rfl
theorem ml_12_484 : ai_P0.2.2.2.1 12 484 = some (0, 214, 2, 12) := rfl
theorem ml_12_487 : ai_P0.2.2.2.1 12 487 = some (0, 215, 1, 12) := rfl
theorem ml_12_490 : ai_P0.2.2.2.1 12 490 = some (0, 218, 2, 12) := rfl
theorem ml_12_494 : ai_P0.2.2.2.1 12 494 = some (0, 219, 2, 12) := rfl
theorem ml_12_497 : ai_P0.2.2.2.1 12 497 = some (0, 221, 2, 12) := rfl
theorem ml_12_500 : ai_P0.2.2.2.1 12 500 = some (0, 223, 1, 12) := rfl
theorem ml_12_503 : ai_P0.2.2.2.1 12 503 = some (0, 228, 1, 12) := rfl
theorem ml_12_506 : ai_P0.2.2.2.1 12 506 = some (0, 230, 1, 12) := rfl
theorem ml_12_509 : ai_P0.2.2.2.1 12 509 = some (0, 231, 3, 12) := rfl
theorem ml_12_513 : ai_P0.2.2.2.1 12 513 = some (0, 227, 0, 12) := rfl
theorem ml_12_516 : ai_P0.2.2.2.1 12 516 = some (0, 229, 1, 12) := rfl
theorem ml_12_519 : ai_P0.2.2.2.1 12 519 = some (0, 235, 3, 12) := rfl
theorem ml_12_522 : ai_P0.2.2.2.1 12 522 = some (0, 234, 1, 12) := rfl
theorem ml_12_525 : ai_P0.2.2.2.1 12 525 = some (0, 236, 1, 12) := rfl
theorem ml_12_528 : ai_P0.2.2.2.1 12 528 = some (0, 170, 1, 12) := rfl
theorem ml_12_531 : ai_P0.2.2.2.1 12 531 = some (0, 177, 0, 12) := rfl
theorem ml_12_534 : ai_P0.2.2.2.1 12 534 = some (0, 164, 0, 12) := rfl
theorem ml_12_537 : ai_P0.2.2.2.1 12 537 = some (0, 200, 1, 12) := rfl
theorem ml_12_540 : ai_P0.2.2.2.1 12 540 = some (0, 211, 0, 12) := rfl
theorem ml_12_543 : ai_P0.2.2.2.1 12 543 = some (0, 213, 1, 12) := rfl
theorem ml_12_546 : ai_P0.2.2.2.1 12 546 = some (0, 216, 1, 12) := rfl
theorem ml_12_549 : ai_P0.2.2.2.1 12 549 = some (0, 217, 1, 12) := rfl
theorem ml_12_552 : ai_P0.2.2.2.1 12 552 = some (0, 220, 1, 12) := rfl
theorem ml_12_555 : ai_P0.2.2.2.1 12 555 = some (0, 222, 1, 12) := rfl
theorem ml_12_558 : ai_P0.2.2.2.1 12 558 = some (0, 224, 2, 12) := rfl
theorem ml_12_561 : ai_P0.2.2.2.1 12 561 = some (0, 225, 1, 12) := rfl
theorem ml_12_564 : ai_P0.2.2.2.1 12 564 = some (0, 226, 0, 12) := rfl
theorem ml_12_567 : ai_P0.2.2.2.1 12 567 = some (0, 232, 0, 12) := rfl
theorem ml_12_570 : ai_P0.2.2.2.1 12 570 = some (0, 233, 1, 12) := rfl
theorem ml_12_576 : ai_P0.2.2.2.1 12 576 = some (0, 163, 0, 12) := rfl
theorem ml_12_582 : ai_P0.2.2.2.1 12 582 = some (0, 199, 1, 12) := rfl
theorem ml_12_585 : ai_P0.2.2.2.1 12 585 = some (0, 237, 0, 12) := rfl
theorem ml_12_588 : ai_P0.2.2.2.1 12 588 = some (0, 239, 0, 12) := rfl
theorem ml_12_591 : ai_P0.2.2.2.1 12 591 = some (0, 238, 2, 12) := rfl
theorem ml_12_595 : ai_P0.2.2.2.1 12 595 = some (0, 241, 1, 12) := rfl
theorem ml_12_598 : ai_P0.2.2.2.1 12 598 = some (0, 240, 2, 12) := rfl
theorem ml_12_601 : ai_P0.2.2.2.1 12 601 = some (0, 162, 0, 12) := rfl
theorem ml_12_619 : ai_P0.2.2.2.1 12 619 = some (0, 244, 1, 12) := rfl
theorem ml_12_625 : ai_P0.2.2.2.1 12 625 = some (0, 258, 1, 12) := rfl
theorem ml_12_628 : ai_P0.2.2.2.1 12 628 = some (0, 256, 2, 12) := rfl
theorem ml_12_631 : ai_P0.2.2.2.1 12 631 = some (0, 257, 3, 12) := rfl
theorem ml_12_635 : ai_P0.2.2.2.1 12 635 = some (0, 259, 3, 12) := rfl
theorem ml_12_638 : ai_P0.2.2.2.1 12 638 = some (0, 260, 3, 12) := rfl
theorem ml_12_642 : ai_P0.2.2.2.1 12 642 = some (0, 250, 3, 12) := rfl
theorem ml_12_645 : ai_P0.2.2.2.1 12 645 = some (0, 254, 2, 12) := rfl
theorem ml_12_648 : ai_P0.2.2.2.1 12 648 = some (0, 255, 4, 12) := rfl
theorem ml_12_652 : ai_P0.2.2.2.1 12 652 = some (0, 253, 6, 12) := rfl
theorem ml_12_656 : ai_P0.2.2.2.1 12 656 = some (0, 262, 6, 12) := rfl
theorem ml_12_660 : ai_P0.2.2.2.1 12 660 = some (0, 263, 4, 12) := rfl
theorem ml_12_664 : ai_P0.2.2.2.1 12 664 = some (0, 252, 4, 12) := rfl
theorem ml_12_667 : ai_P0.2.2.2.1 12 667 = some (0, 261, 4, 12) := rfl
theorem ml_12_670 : ai_P0.2.2.2.1 12 670 = some (0, 264, 3, 12) := rfl
theorem ml_12_673 : ai_P0.2.2.2.1 12 673 = some (0, 251, 4, 12) := rfl
theorem ml_12_676 : ai_P0.2.2.2.1 12 676 = some (0, 265, 4, 12) := rfl
theorem ml_12_679 : ai_P0.2.2.2.1 12 679 = some (0, 246, 1, 12) := rfl
theorem ml_12_682 : ai_P0.2.2.2.1 12 682 = some (0, 248, 1, 12) := rfl
theorem ml_12_691 : ai_P0.2.2.2.1 12 691 = some (0, 279, 2, 12) := rfl
theorem ml_12_703 : ai_P0.2.2.2.1 12 703 = some (0, 275, 2, 12) := rfl
theorem ml_12_705 : ai_P0.2.2.2.1 12 705 = some (0, 276, 2, 12) := rfl
theorem ml_12_708 : ai_P0.2.2.2.1 12 708 = some (0, 277, 1, 12) := rfl
theorem ml_12_711 : ai_P0.2.2.2.1 12 711 = some (0, 278, 4, 12) := rfl
theorem ml_12_715 : ai_P0.2.2.2.1 12 715 = some (0, 280, 2, 12) := rfl
theorem ml_12_718 : ai_P0.2.2.2.1 12 718 = some (0, 281, 0, 12) := rfl
theorem ml_12_721 : ai_P0.2.2.2.1 12 721 = some (0, 273, 1, 12) := rfl
theorem ml_12_724 : ai_P0.2.2.2.1 12 724 = some (0, 274, 4, 12) := rfl
