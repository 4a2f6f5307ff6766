/-! THE CONSTRUCTORS: the class and the reference (written by wip/whole/g98.py) -/
def mkX_0 : MkL := [mkN 11 0]
def mkX_1 : MkL := mkN 27 4 :: mkX_0
def mkX_2 : MkL := mkN 10 0 :: mkX_1
def mkX_3 : MkL := mkN 22 60 :: mkX_2
def mkX_4 : MkL := mkR 640 2 3 :: mkX_3
def mkX_5 : MkL := mkI 641 2 (-1) :: mkX_4
def mkX_6 : MkL := mkC 1 0 2 :: mkX_5
def mkX_7 : MkL := mkN 10 0 :: mkX_6
def mkX_8 : MkL := mkN 22 60 :: mkX_7
def mkX_9 : MkL := mkR 640 4 5 :: mkX_8
def mkX_10 : MkL := mkI 641 4 (-1) :: mkX_9
def mkX_11 : MkL := mkC 1 1 4 :: mkX_10
def mkX_12 : MkL := mkN 10 0 :: mkX_11
def mkX_13 : MkL := mkN 22 60 :: mkX_12
def mkX_14 : MkL := mkR 640 6 7 :: mkX_13
def mkX_15 : MkL := mkI 641 6 (-1) :: mkX_14
def mkX_16 : MkL := mkC 1 2 6 :: mkX_15
def mkX_17 : MkL := mkN 10 0 :: mkX_16
def mkX_18 : MkL := mkN 22 60 :: mkX_17
def mkX_19 : MkL := mkR 640 8 9 :: mkX_18
def mkX_20 : MkL := mkI 641 8 (-1) :: mkX_19
def mkX_21 : MkL := mkC 1 3 8 :: mkX_20
def mkX_22 : MkL := mkR 704 0 1 :: mkX_21
def mkX_23 : MkL := mkN 9 0 :: mkX_22
def mkX_24 : MkL := mkN 20 900 :: mkX_23
def mkX_25 : MkL := mkR 576 10 11 :: mkX_24
def mkX_26 : MkL := mkI 578 10 (-1) :: mkX_25
def mkX_27 : MkL := mkI 579 10 (-1) :: mkX_26
def mkX_28 : MkL := mkR 705 0 10 :: mkX_27
def mkX_29 : MkL := mkN 8 0 :: mkX_28
def mkX_30 : MkL := mkN 21 8 :: mkX_29
def mkX_31 : MkL := mkR 513 12 13 :: mkX_30
def mkX_32 : MkL := mkN 21 8 :: mkX_31
def mkX_33 : MkL := mkR 514 12 14 :: mkX_32
def mkX_34 : MkL := mkN 21 8 :: mkX_33
def mkX_35 : MkL := mkR 515 12 15 :: mkX_34
def mkX_36 : MkL := mkN 21 8 :: mkX_35
def mkX_37 : MkL := mkR 516 12 16 :: mkX_36
def mkX_38 : MkL := mkR 512 12 10 :: mkX_37
def mkX_39 : MkL := mkN 7 0 :: mkX_38
def mkX_40 : MkL := mkN 26 8 :: mkX_39
def mkX_41 : MkL := mkR 448 17 18 :: mkX_40
def mkX_42 : MkL := mkN 24 8 :: mkX_41
def mkX_43 : MkL := mkR 449 17 19 :: mkX_42
def mkX_44 : MkL := mkN 6 0 :: mkX_43
def mkX_45 : MkL := mkN 21 16 :: mkX_44
def mkX_46 : MkL := mkR 384 20 21 :: mkX_45
def mkX_47 : MkL := mkC 18 0 20 :: mkX_46
def mkX_48 : MkL := mkN 0 0 :: mkX_47
def mkX_49 : MkL := mkI 4 22 1 :: mkX_48
def mkX_50 : MkL := mkC 19 0 22 :: mkX_49
def mkX_51 : MkL := mkN 6 0 :: mkX_50
def mkX_52 : MkL := mkN 21 16 :: mkX_51
def mkX_53 : MkL := mkR 384 23 24 :: mkX_52
def mkX_54 : MkL := mkC 18 1 23 :: mkX_53
def mkX_55 : MkL := mkN 0 0 :: mkX_54
def mkX_56 : MkL := mkI 4 25 1 :: mkX_55
def mkX_57 : MkL := mkC 19 1 25 :: mkX_56
def mkX_58 : MkL := mkN 6 0 :: mkX_57
def mkX_59 : MkL := mkN 21 16 :: mkX_58
def mkX_60 : MkL := mkR 384 26 27 :: mkX_59
def mkX_61 : MkL := mkC 18 2 26 :: mkX_60
def mkX_62 : MkL := mkN 0 0 :: mkX_61
def mkX_63 : MkL := mkI 4 28 1 :: mkX_62
def mkX_64 : MkL := mkC 19 2 28 :: mkX_63
def mkX_65 : MkL := mkN 6 0 :: mkX_64
def mkX_66 : MkL := mkN 21 16 :: mkX_65
def mkX_67 : MkL := mkR 384 29 30 :: mkX_66
def mkX_68 : MkL := mkC 18 3 29 :: mkX_67
def mkX_69 : MkL := mkN 0 0 :: mkX_68
def mkX_70 : MkL := mkI 4 31 1 :: mkX_69
def mkX_71 : MkL := mkC 19 3 31 :: mkX_70
def mkX_72 : MkL := mkN 6 0 :: mkX_71
def mkX_73 : MkL := mkN 21 16 :: mkX_72
def mkX_74 : MkL := mkR 384 32 33 :: mkX_73
def mkX_75 : MkL := mkC 18 4 32 :: mkX_74
def mkX_76 : MkL := mkN 0 0 :: mkX_75
def mkX_77 : MkL := mkI 4 34 1 :: mkX_76
def mkX_78 : MkL := mkC 19 4 34 :: mkX_77
def mkX_79 : MkL := mkN 6 0 :: mkX_78
def mkX_80 : MkL := mkN 21 16 :: mkX_79
def mkX_81 : MkL := mkR 384 35 36 :: mkX_80
def mkX_82 : MkL := mkC 18 5 35 :: mkX_81
def mkX_83 : MkL := mkN 0 0 :: mkX_82
def mkX_84 : MkL := mkI 4 37 1 :: mkX_83
def mkX_85 : MkL := mkC 19 5 37 :: mkX_84
def mkX_86 : MkL := mkN 6 0 :: mkX_85
def mkX_87 : MkL := mkN 21 16 :: mkX_86
def mkX_88 : MkL := mkR 384 38 39 :: mkX_87
def mkX_89 : MkL := mkC 18 6 38 :: mkX_88
def mkX_90 : MkL := mkN 0 0 :: mkX_89
def mkX_91 : MkL := mkI 4 40 1 :: mkX_90
def mkX_92 : MkL := mkC 19 6 40 :: mkX_91
def mkX_93 : MkL := mkN 6 0 :: mkX_92
def mkX_94 : MkL := mkN 21 16 :: mkX_93
def mkX_95 : MkL := mkR 384 41 42 :: mkX_94
def mkX_96 : MkL := mkC 18 7 41 :: mkX_95
def mkX_97 : MkL := mkN 0 0 :: mkX_96
def mkX_98 : MkL := mkI 4 43 1 :: mkX_97
def mkX_99 : MkL := mkC 19 7 43 :: mkX_98
def mkX_100 : MkL := mkR 517 12 17 :: mkX_99
def mkX_101 : MkL := mkR 706 0 12 :: mkX_100
def mkX_102 : MkL := mkN 2 0 :: mkX_101
def mkX_103 : MkL := mkR 128 44 10 :: mkX_102
def mkX_104 : MkL := mkR 707 0 44 :: mkX_103
def mkX_105 : MkL := mkN 7 0 :: mkX_104
def mkX_106 : MkL := mkN 26 8 :: mkX_105
def mkX_107 : MkL := mkR 448 45 46 :: mkX_106
def mkX_108 : MkL := mkN 24 8 :: mkX_107
def mkX_109 : MkL := mkR 449 45 47 :: mkX_108
def mkX_110 : MkL := mkN 6 0 :: mkX_109
def mkX_111 : MkL := mkN 21 16 :: mkX_110
def mkX_112 : MkL := mkR 384 48 49 :: mkX_111
def mkX_113 : MkL := mkC 46 0 48 :: mkX_112
def mkX_114 : MkL := mkN 0 0 :: mkX_113
def mkX_115 : MkL := mkI 4 50 1 :: mkX_114
def mkX_116 : MkL := mkC 47 0 50 :: mkX_115
def mkX_117 : MkL := mkN 6 0 :: mkX_116
def mkX_118 : MkL := mkN 21 16 :: mkX_117
def mkX_119 : MkL := mkR 384 51 52 :: mkX_118
def mkX_120 : MkL := mkC 46 1 51 :: mkX_119
def mkX_121 : MkL := mkN 0 0 :: mkX_120
def mkX_122 : MkL := mkI 4 53 1 :: mkX_121
def mkX_123 : MkL := mkC 47 1 53 :: mkX_122
def mkX_124 : MkL := mkN 6 0 :: mkX_123
def mkX_125 : MkL := mkN 21 16 :: mkX_124
def mkX_126 : MkL := mkR 384 54 55 :: mkX_125
def mkX_127 : MkL := mkC 46 2 54 :: mkX_126
def mkX_128 : MkL := mkN 0 0 :: mkX_127
def mkX_129 : MkL := mkI 4 56 1 :: mkX_128
def mkX_130 : MkL := mkC 47 2 56 :: mkX_129
def mkX_131 : MkL := mkN 6 0 :: mkX_130
def mkX_132 : MkL := mkN 21 16 :: mkX_131
def mkX_133 : MkL := mkR 384 57 58 :: mkX_132
def mkX_134 : MkL := mkC 46 3 57 :: mkX_133
def mkX_135 : MkL := mkN 0 0 :: mkX_134
def mkX_136 : MkL := mkI 4 59 1 :: mkX_135
def mkX_137 : MkL := mkC 47 3 59 :: mkX_136
def mkX_138 : MkL := mkN 6 0 :: mkX_137
def mkX_139 : MkL := mkN 21 16 :: mkX_138
def mkX_140 : MkL := mkR 384 60 61 :: mkX_139
def mkX_141 : MkL := mkC 46 4 60 :: mkX_140
def mkX_142 : MkL := mkN 0 0 :: mkX_141
def mkX_143 : MkL := mkI 4 62 1 :: mkX_142
def mkX_144 : MkL := mkC 47 4 62 :: mkX_143
def mkX_145 : MkL := mkN 6 0 :: mkX_144
def mkX_146 : MkL := mkN 21 16 :: mkX_145
def mkX_147 : MkL := mkR 384 63 64 :: mkX_146
def mkX_148 : MkL := mkC 46 5 63 :: mkX_147
def mkX_149 : MkL := mkN 0 0 :: mkX_148
def mkX_150 : MkL := mkI 4 65 1 :: mkX_149
def mkX_151 : MkL := mkC 47 5 65 :: mkX_150
def mkX_152 : MkL := mkN 6 0 :: mkX_151
def mkX_153 : MkL := mkN 21 16 :: mkX_152
def mkX_154 : MkL := mkR 384 66 67 :: mkX_153
def mkX_155 : MkL := mkC 46 6 66 :: mkX_154
def mkX_156 : MkL := mkN 0 0 :: mkX_155
def mkX_157 : MkL := mkI 4 68 1 :: mkX_156
def mkX_158 : MkL := mkC 47 6 68 :: mkX_157
def mkX_159 : MkL := mkN 6 0 :: mkX_158
def mkX_160 : MkL := mkN 21 16 :: mkX_159
def mkX_161 : MkL := mkR 384 69 70 :: mkX_160
def mkX_162 : MkL := mkC 46 7 69 :: mkX_161
def mkX_163 : MkL := mkN 0 0 :: mkX_162
def mkX_164 : MkL := mkI 4 71 1 :: mkX_163
def mkX_165 : MkL := mkC 47 7 71 :: mkX_164
def mkX_166 : MkL := mkR 717 0 45 :: mkX_165
def mkX_167 : MkL := mkN 1 0 :: mkX_166
def mkX_168 : MkL := mkN 21 12 :: mkX_167
def mkX_169 : MkL := mkR 64 72 73 :: mkX_168
def mkX_170 : MkL := mkN 21 12 :: mkX_169
def mkX_171 : MkL := mkR 65 72 74 :: mkX_170
def mkX_172 : MkL := mkN 21 12 :: mkX_171
def mkX_173 : MkL := mkR 66 72 75 :: mkX_172
def mkX_174 : MkL := mkR 718 0 72 :: mkX_173
def mkX_175 : MkL := mkN 25 3 :: mkX_174
def mkX_176 : MkL := mkN 3 0 :: mkX_175
def mkX_177 : MkL := mkR 192 77 45 :: mkX_176
def mkX_178 : MkL := mkR 193 77 72 :: mkX_177
def mkX_179 : MkL := mkC 76 0 77 :: mkX_178
def mkX_180 : MkL := mkN 3 0 :: mkX_179
def mkX_181 : MkL := mkR 192 78 45 :: mkX_180
def mkX_182 : MkL := mkR 193 78 72 :: mkX_181
def mkX_183 : MkL := mkC 76 1 78 :: mkX_182
def mkX_184 : MkL := mkN 3 0 :: mkX_183
def mkX_185 : MkL := mkR 192 79 45 :: mkX_184
def mkX_186 : MkL := mkR 193 79 72 :: mkX_185
def mkX_187 : MkL := mkC 76 2 79 :: mkX_186
def mkX_188 : MkL := mkR 708 0 76 :: mkX_187
def mkX_189 : MkL := mkN 26 8 :: mkX_188
def mkX_190 : MkL := mkR 709 0 80 :: mkX_189
def mkX_191 : MkL := mkN 6 0 :: mkX_190
def mkX_192 : MkL := mkN 21 0 :: mkX_191
def mkX_193 : MkL := mkR 384 81 82 :: mkX_192
def mkX_194 : MkL := mkC 80 0 81 :: mkX_193
def mkX_195 : MkL := mkN 6 0 :: mkX_194
def mkX_196 : MkL := mkN 21 0 :: mkX_195
def mkX_197 : MkL := mkR 384 83 84 :: mkX_196
def mkX_198 : MkL := mkC 80 1 83 :: mkX_197
def mkX_199 : MkL := mkN 6 0 :: mkX_198
def mkX_200 : MkL := mkN 21 0 :: mkX_199
def mkX_201 : MkL := mkR 384 85 86 :: mkX_200
def mkX_202 : MkL := mkC 80 2 85 :: mkX_201
def mkX_203 : MkL := mkN 6 0 :: mkX_202
def mkX_204 : MkL := mkN 21 0 :: mkX_203
def mkX_205 : MkL := mkR 384 87 88 :: mkX_204
def mkX_206 : MkL := mkC 80 3 87 :: mkX_205
def mkX_207 : MkL := mkN 6 0 :: mkX_206
def mkX_208 : MkL := mkN 21 0 :: mkX_207
def mkX_209 : MkL := mkR 384 89 90 :: mkX_208
def mkX_210 : MkL := mkC 80 4 89 :: mkX_209
def mkX_211 : MkL := mkN 6 0 :: mkX_210
def mkX_212 : MkL := mkN 21 0 :: mkX_211
def mkX_213 : MkL := mkR 384 91 92 :: mkX_212
def mkX_214 : MkL := mkC 80 5 91 :: mkX_213
def mkX_215 : MkL := mkN 6 0 :: mkX_214
def mkX_216 : MkL := mkN 21 0 :: mkX_215
def mkX_217 : MkL := mkR 384 93 94 :: mkX_216
def mkX_218 : MkL := mkC 80 6 93 :: mkX_217
def mkX_219 : MkL := mkN 6 0 :: mkX_218
def mkX_220 : MkL := mkN 21 0 :: mkX_219
def mkX_221 : MkL := mkR 384 95 96 :: mkX_220
def mkX_222 : MkL := mkC 80 7 95 :: mkX_221
def mkX_223 : MkL := mkN 6 0 :: mkX_222
def mkX_224 : MkL := mkN 21 0 :: mkX_223
def mkX_225 : MkL := mkR 384 97 98 :: mkX_224
def mkX_226 : MkL := mkR 710 0 97 :: mkX_225
def mkX_227 : MkL := mkN 6 0 :: mkX_226
def mkX_228 : MkL := mkN 21 31 :: mkX_227
def mkX_229 : MkL := mkR 384 99 100 :: mkX_228
def mkX_230 : MkL := mkR 711 0 99 :: mkX_229
def mkX_231 : MkL := mkN 21 27 :: mkX_230
def mkX_232 : MkL := mkR 712 0 101 :: mkX_231
def mkX_233 : MkL := mkN 21 8 :: mkX_232
def mkX_234 : MkL := mkR 713 0 102 :: mkX_233
def mkX_235 : MkL := mkN 21 8 :: mkX_234
def mkX_236 : MkL := mkR 714 0 103 :: mkX_235
def mkX_237 : MkL := mkN 4 0 :: mkX_236
def mkX_238 : MkL := mkN 26 6 :: mkX_237
def mkX_239 : MkL := mkR 256 104 105 :: mkX_238
def mkX_240 : MkL := mkN 21 36 :: mkX_239
def mkX_241 : MkL := mkR 257 104 106 :: mkX_240
def mkX_242 : MkL := mkN 21 384 :: mkX_241
def mkX_243 : MkL := mkR 258 104 107 :: mkX_242
def mkX_244 : MkL := mkN 23 384 :: mkX_243
def mkX_245 : MkL := mkR 259 104 108 :: mkX_244
def mkX_246 : MkL := mkN 21 384 :: mkX_245
def mkX_247 : MkL := mkR 260 104 109 :: mkX_246
def mkX_248 : MkL := mkN 21 384 :: mkX_247
def mkX_249 : MkL := mkR 261 104 110 :: mkX_248
def mkX_250 : MkL := mkN 6 0 :: mkX_249
def mkX_251 : MkL := mkN 21 72 :: mkX_250
def mkX_252 : MkL := mkR 384 111 112 :: mkX_251
def mkX_253 : MkL := mkR 264 104 111 :: mkX_252
def mkX_254 : MkL := mkC 105 0 111 :: mkX_253
def mkX_255 : MkL := mkC 105 1 111 :: mkX_254
def mkX_256 : MkL := mkC 105 2 111 :: mkX_255
def mkX_257 : MkL := mkC 105 3 111 :: mkX_256
def mkX_258 : MkL := mkC 105 4 111 :: mkX_257
def mkX_259 : MkL := mkC 105 5 111 :: mkX_258
def mkX_260 : MkL := mkR 715 0 104 :: mkX_259
def mkX_261 : MkL := mkN 5 0 :: mkX_260
def mkX_262 : MkL := mkN 21 8 :: mkX_261
def mkX_263 : MkL := mkR 320 113 114 :: mkX_262
def mkX_264 : MkL := mkN 21 2048 :: mkX_263
def mkX_265 : MkL := mkR 321 113 115 :: mkX_264
def mkX_266 : MkL := mkN 21 256 :: mkX_265
def mkX_267 : MkL := mkR 322 113 116 :: mkX_266
def mkX_268 : MkL := mkN 6 0 :: mkX_267
def mkX_269 : MkL := mkN 21 8 :: mkX_268
def mkX_270 : MkL := mkR 384 117 118 :: mkX_269
def mkX_271 : MkL := mkR 323 113 117 :: mkX_270
def mkX_272 : MkL := mkN 6 0 :: mkX_271
def mkX_273 : MkL := mkN 21 8 :: mkX_272
def mkX_274 : MkL := mkR 384 119 120 :: mkX_273
def mkX_275 : MkL := mkR 324 113 119 :: mkX_274
def mkX_276 : MkL := mkR 716 0 113 :: mkX_275
def mkX_277 : MkL := mkJ 723 0 1 :: mkX_276
def mkX_278 : MkL := mkN 12 0 :: mkX_277
def mkX_279 : MkL := mkJ 771 121 1 :: mkX_278
def mkX_280 : MkL := mkN 21 4 :: mkX_279
def mkX_281 : MkL := mkR 772 121 122 :: mkX_280
def mkX_282 : MkL := mkN 21 4 :: mkX_281
def mkX_283 : MkL := mkR 773 121 123 :: mkX_282
def mkX_284 : MkL := mkN 22 240 :: mkX_283
def mkX_285 : MkL := mkR 774 121 124 :: mkX_284
def mkX_286 : MkL := mkN 20 900 :: mkX_285
def mkX_287 : MkL := mkR 775 121 125 :: mkX_286
def mkX_288 : MkL := mkI 778 121 (-1) :: mkX_287
def mkX_289 : MkL := mkI 779 121 (-1) :: mkX_288
def mkX_290 : MkL := mkN 21 1850 :: mkX_289
def mkX_291 : MkL := mkR 788 121 126 :: mkX_290
def mkX_292 : MkL := mkN 22 16 :: mkX_291
def mkX_293 : MkL := mkR 789 121 127 :: mkX_292
def mkX_294 : MkL := mkN 21 80 :: mkX_293
def mkX_295 : MkL := mkR 791 121 128 :: mkX_294
def mkX_296 : MkL := mkN 21 80 :: mkX_295
def mkX_297 : MkL := mkR 792 121 129 :: mkX_296
def mkX_298 : MkL := mkN 21 80 :: mkX_297
def mkX_299 : MkL := mkR 793 121 130 :: mkX_298
def mkX_300 : MkL := mkN 21 289 :: mkX_299
def mkX_301 : MkL := mkR 795 121 131 :: mkX_300
def mkX_302 : MkL := mkN 21 8 :: mkX_301
def mkX_303 : MkL := mkR 796 121 132 :: mkX_302
def mkX_304 : MkL := mkN 21 8 :: mkX_303
def mkX_305 : MkL := mkR 797 121 133 :: mkX_304
def mkX_306 : MkL := mkN 21 8 :: mkX_305
def mkX_307 : MkL := mkR 798 121 134 :: mkX_306
def mkX_308 : MkL := mkN 21 6 :: mkX_307
def mkX_309 : MkL := mkR 801 121 135 :: mkX_308
def mkX_310 : MkL := mkN 21 80 :: mkX_309
def mkX_311 : MkL := mkR 802 121 136 :: mkX_310
def mkX_312 : MkL := mkN 21 80 :: mkX_311
def mkX_313 : MkL := mkR 803 121 137 :: mkX_312
def mkX_314 : MkL := mkN 21 256 :: mkX_313
def mkX_315 : MkL := mkR 807 121 138 :: mkX_314
def mkX_316 : MkL := mkN 21 8 :: mkX_315
def mkX_317 : MkL := mkR 808 121 139 :: mkX_316
def mkX_318 : MkL := mkN 21 17 :: mkX_317
def mkX_319 : MkL := mkR 810 121 140 :: mkX_318
def mkX_320 : MkL := mkN 21 17 :: mkX_319
def mkX_321 : MkL := mkR 811 121 141 :: mkX_320
def mkX_322 : MkL := mkN 21 8 :: mkX_321
def mkX_323 : MkL := mkR 814 121 142 :: mkX_322
def mkX_324 : MkL := mkN 21 8 :: mkX_323
def mkX_325 : MkL := mkR 815 121 143 :: mkX_324
def mkX_326 : MkL := mkA 123 0 (-1) :: mkX_325
def mkX_327 : MkL := mkA 123 1 (-1) :: mkX_326
def mkX_328 : MkL := mkA 123 2 (-1) :: mkX_327
def mkX_329 : MkL := mkA 123 3 (-1) :: mkX_328
set_option maxRecDepth 100000 in
set_option maxHeartbeats 4000000 in
theorem mkX__t1 {X : Nat} {h : Hp} (hz : hZ h = X) : fX10_init (mkH' X h mkX_2) (X + 2) = some (mkH' X h mkX_5) := by
  unfold fX10_init
  refine ltzg (v' := X + 3) (mk_zz hz (by decide +kernel)) ?_
  refine ltzg (v' := (mkH' X h mkX_3)) rfl ?_
  refine gdg (mk_k1 (i := 2) hz (by decide +kernel)) ?_
  refine ltzg (v' := (mkH' X h mkX_4)) rfl ?_
  refine ltzg (v' := (mkH' X h mkX_5)) rfl ?_
  rfl

set_option maxRecDepth 100000 in
set_option maxHeartbeats 4000000 in
theorem mkX__t2 {X : Nat} {h : Hp} (hz : hZ h = X) : fX10_init (mkH' X h mkX_7) (X + 4) = some (mkH' X h mkX_10) := by
  unfold fX10_init
  refine ltzg (v' := X + 5) (mk_zz hz (by decide +kernel)) ?_
  refine ltzg (v' := (mkH' X h mkX_8)) rfl ?_
  refine gdg (mk_k1 (i := 4) hz (by decide +kernel)) ?_
  refine ltzg (v' := (mkH' X h mkX_9)) rfl ?_
  refine ltzg (v' := (mkH' X h mkX_10)) rfl ?_
  rfl

set_option maxRecDepth 100000 in
set_option maxHeartbeats 4000000 in
theorem mkX__t3 {X : Nat} {h : Hp} (hz : hZ h = X) : fX10_init (mkH' X h mkX_12) (X + 6) = some (mkH' X h mkX_15) := by
  unfold fX10_init
  refine ltzg (v' := X + 7) (mk_zz hz (by decide +kernel)) ?_
  refine ltzg (v' := (mkH' X h mkX_13)) rfl ?_
  refine gdg (mk_k1 (i := 6) hz (by decide +kernel)) ?_
  refine ltzg (v' := (mkH' X h mkX_14)) rfl ?_
  refine ltzg (v' := (mkH' X h mkX_15)) rfl ?_
  rfl

set_option maxRecDepth 100000 in
set_option maxHeartbeats 4000000 in
theorem mkX__t4 {X : Nat} {h : Hp} (hz : hZ h = X) : fX10_init (mkH' X h mkX_17) (X + 8) = some (mkH' X h mkX_20) := by
  unfold fX10_init
  refine ltzg (v' := X + 9) (mk_zz hz (by decide +kernel)) ?_
  refine ltzg (v' := (mkH' X h mkX_18)) rfl ?_
  refine gdg (mk_k1 (i := 8) hz (by decide +kernel)) ?_
  refine ltzg (v' := (mkH' X h mkX_19)) rfl ?_
  refine ltzg (v' := (mkH' X h mkX_20)) rfl ?_
  rfl

set_option maxRecDepth 100000 in
set_option maxHeartbeats 4000000 in
theorem mkX__t5 {X : Nat} {h : Hp} (hz : hZ h = X) : fX9_init (mkH' X h mkX_23) (X + 10) = some (mkH' X h mkX_27) := by
  unfold fX9_init
  refine ltzg (v' := X + 11) (mk_zz hz (by decide +kernel)) ?_
  refine ltzg (v' := (mkH' X h mkX_24)) rfl ?_
  refine gdg (mk_k1 (i := 10) hz (by decide +kernel)) ?_
  refine ltzg (v' := (mkH' X h mkX_25)) rfl ?_
  refine ltzg (v' := (mkH' X h mkX_26)) rfl ?_
  refine ltzg (v' := (mkH' X h mkX_27)) rfl ?_
  rfl

set_option maxRecDepth 100000 in
set_option maxHeartbeats 4000000 in
theorem mkX__t8 {X : Nat} {h : Hp} (hz : hZ h = X) : fX6_init (mkH' X h mkX_45) (X + 20) (X + 21) = some (mkH' X h mkX_46) := by
  unfold fX6_init
  refine gdg (mk_k1 (i := 20) hz (by decide +kernel)) ?_
  refine ltzg (v' := (mkH' X h mkX_46)) rfl ?_
  rfl

set_option maxRecDepth 100000 in
set_option maxHeartbeats 4000000 in
theorem mkX__t9 {X : Nat} {h : Hp} (hz : hZ h = X) : fX0_init (mkH' X h mkX_48) (X + 22) = some (mkH' X h mkX_49) := by
  unfold fX0_init
  refine gdg (mk_k1 (i := 22) hz (by decide +kernel)) ?_
  refine ltzg (v' := (mkH' X h mkX_49)) rfl ?_
  rfl

set_option maxRecDepth 100000 in
set_option maxHeartbeats 4000000 in
theorem mkX__t10 {X : Nat} {h : Hp} (hz : hZ h = X) : fX6_init (mkH' X h mkX_52) (X + 23) (X + 24) = some (mkH' X h mkX_53) := by
  unfold fX6_init
  refine gdg (mk_k1 (i := 23) hz (by decide +kernel)) ?_
  refine ltzg (v' := (mkH' X h mkX_53)) rfl ?_
  rfl

set_option maxRecDepth 100000 in
set_option maxHeartbeats 4000000 in
theorem mkX__t11 {X : Nat} {h : Hp} (hz : hZ h = X) : fX0_init (mkH' X h mkX_55) (X + 25) = some (mkH' X h mkX_56) := by
  unfold fX0_init
  refine gdg (mk_k1 (i := 25) hz (by decide +kernel)) ?_
  refine ltzg (v' := (mkH' X h mkX_56)) rfl ?_
  rfl

set_option maxRecDepth 100000 in
set_option maxHeartbeats 4000000 in
theorem mkX__t12 {X : Nat} {h : Hp} (hz : hZ h = X) : fX6_init (mkH' X h mkX_59) (X + 26) (X + 27) = some (mkH' X h mkX_60) := by
  unfold fX6_init
  refine gdg (mk_k1 (i := 26) hz (by decide +kernel)) ?_
  refine ltzg (v' := (mkH' X h mkX_60)) rfl ?_
  rfl

set_option maxRecDepth 100000 in
set_option maxHeartbeats 4000000 in
theorem mkX__t13 {X : Nat} {h : Hp} (hz : hZ h = X) : fX0_init (mkH' X h mkX_62) (X + 28) = some (mkH' X h mkX_63) := by
  unfold fX0_init
  refine gdg (mk_k1 (i := 28) hz (by decide +kernel)) ?_
  refine ltzg (v' := (mkH' X h mkX_63)) rfl ?_
  rfl

set_option maxRecDepth 100000 in
set_option maxHeartbeats 4000000 in
theorem mkX__t14 {X : Nat} {h : Hp} (hz : hZ h = X) : fX6_init (mkH' X h mkX_66) (X + 29) (X + 30) = some (mkH' X h mkX_67) := by
  unfold fX6_init
  refine gdg (mk_k1 (i := 29) hz (by decide +kernel)) ?_
  refine ltzg (v' := (mkH' X h mkX_67)) rfl ?_
  rfl

set_option maxRecDepth 100000 in
set_option maxHeartbeats 4000000 in
theorem mkX__t15 {X : Nat} {h : Hp} (hz : hZ h = X) : fX0_init (mkH' X h mkX_69) (X + 31) = some (mkH' X h mkX_70) := by
  unfold fX0_init
  refine gdg (mk_k1 (i := 31) hz (by decide +kernel)) ?_
  refine ltzg (v' := (mkH' X h mkX_70)) rfl ?_
  rfl

set_option maxRecDepth 100000 in
set_option maxHeartbeats 4000000 in
theorem mkX__t16 {X : Nat} {h : Hp} (hz : hZ h = X) : fX6_init (mkH' X h mkX_73) (X + 32) (X + 33) = some (mkH' X h mkX_74) := by
  unfold fX6_init
  refine gdg (mk_k1 (i := 32) hz (by decide +kernel)) ?_
  refine ltzg (v' := (mkH' X h mkX_74)) rfl ?_
  rfl

set_option maxRecDepth 100000 in
set_option maxHeartbeats 4000000 in
theorem mkX__t17 {X : Nat} {h : Hp} (hz : hZ h = X) : fX0_init (mkH' X h mkX_76) (X + 34) = some (mkH' X h mkX_77) := by
  unfold fX0_init
  refine gdg (mk_k1 (i := 34) hz (by decide +kernel)) ?_
  refine ltzg (v' := (mkH' X h mkX_77)) rfl ?_
  rfl

set_option maxRecDepth 100000 in
set_option maxHeartbeats 4000000 in
theorem mkX__t18 {X : Nat} {h : Hp} (hz : hZ h = X) : fX6_init (mkH' X h mkX_80) (X + 35) (X + 36) = some (mkH' X h mkX_81) := by
  unfold fX6_init
  refine gdg (mk_k1 (i := 35) hz (by decide +kernel)) ?_
  refine ltzg (v' := (mkH' X h mkX_81)) rfl ?_
  rfl

set_option maxRecDepth 100000 in
set_option maxHeartbeats 4000000 in
theorem mkX__t19 {X : Nat} {h : Hp} (hz : hZ h = X) : fX0_init (mkH' X h mkX_83) (X + 37) = some (mkH' X h mkX_84) := by
  unfold fX0_init
  refine gdg (mk_k1 (i := 37) hz (by decide +kernel)) ?_
  refine ltzg (v' := (mkH' X h mkX_84)) rfl ?_
  rfl

set_option maxRecDepth 100000 in
set_option maxHeartbeats 4000000 in
theorem mkX__t20 {X : Nat} {h : Hp} (hz : hZ h = X) : fX6_init (mkH' X h mkX_87) (X + 38) (X + 39) = some (mkH' X h mkX_88) := by
  unfold fX6_init
  refine gdg (mk_k1 (i := 38) hz (by decide +kernel)) ?_
  refine ltzg (v' := (mkH' X h mkX_88)) rfl ?_
  rfl

set_option maxRecDepth 100000 in
set_option maxHeartbeats 4000000 in
theorem mkX__t21 {X : Nat} {h : Hp} (hz : hZ h = X) : fX0_init (mkH' X h mkX_90) (X + 40) = some (mkH' X h mkX_91) := by
  unfold fX0_init
  refine gdg (mk_k1 (i := 40) hz (by decide +kernel)) ?_
  refine ltzg (v' := (mkH' X h mkX_91)) rfl ?_
  rfl

set_option maxRecDepth 100000 in
set_option maxHeartbeats 4000000 in
theorem mkX__t22 {X : Nat} {h : Hp} (hz : hZ h = X) : fX6_init (mkH' X h mkX_94) (X + 41) (X + 42) = some (mkH' X h mkX_95) := by
  unfold fX6_init
  refine gdg (mk_k1 (i := 41) hz (by decide +kernel)) ?_
  refine ltzg (v' := (mkH' X h mkX_95)) rfl ?_
  rfl

set_option maxRecDepth 100000 in
set_option maxHeartbeats 4000000 in
theorem mkX__t23 {X : Nat} {h : Hp} (hz : hZ h = X) : fX0_init (mkH' X h mkX_97) (X + 43) = some (mkH' X h mkX_98) := by
  unfold fX0_init
  refine gdg (mk_k1 (i := 43) hz (by decide +kernel)) ?_
  refine ltzg (v' := (mkH' X h mkX_98)) rfl ?_
  rfl

set_option maxRecDepth 100000 in
set_option maxHeartbeats 4000000 in
theorem mkX__t7 {X : Nat} {h : Hp} (hz : hZ h = X) : fX7_init (mkH' X h mkX_39) (X + 17) = some (mkH' X h mkX_99) := by
  unfold fX7_init
  refine ltzg (v' := X + 18) (mk_zz hz (by decide +kernel)) ?_
  refine ltzg (v' := (mkH' X h mkX_40)) rfl ?_
  refine gdg (mk_k1 (i := 17) hz (by decide +kernel)) ?_
  refine ltzg (v' := (mkH' X h mkX_41)) rfl ?_
  refine ltzg (v' := X + 19) (mk_zz hz (by decide +kernel)) ?_
  refine ltzg (v' := (mkH' X h mkX_42)) rfl ?_
  refine gdg (mk_k1 (i := 17) hz (by decide +kernel)) ?_
  refine ltzg (v' := (mkH' X h mkX_43)) rfl ?_
  rw [show FU = 999980 + 20 from rfl]
  rw [fX7_init_b24.eq_2]
  refine iteT (by decide) ?_
  refine gdg (mk_k1 (i := 17) hz (by decide +kernel)) ?_
  refine nng (mk_rr (i := 17) (j := 18) hz (by decide +kernel)) ?_
  refine gdg (by decide) ?_
  refine ltzg (v' := X + 20) (mk_zz hz (by decide +kernel)) ?_
  refine ltzg (v' := (mkH' X h mkX_44)) rfl ?_
  refine gdg (by decide) ?_
  refine ltzg (v' := X + 21) (mk_zz hz (by decide +kernel)) ?_
  refine ltzg (v' := (mkH' X h mkX_45)) rfl ?_
  refine gdg (by decide) ?_
  refine bdg (mkX__t8 hz) ?_
  refine gdg (mk_k1 (i := 18) hz (by decide +kernel)) ?_
  refine gdg (by rw [mk_kk (i := 18) (k := (26, 8)) hz (by decide +kernel)]; exact ⟨by decide, by decide⟩) ?_
  refine gdg (mk_k1 (i := 20) hz (by decide +kernel)) ?_
  refine ltzg (v' := (mkH' X h mkX_47)) rfl ?_
  refine gdg (mk_k1 (i := 17) hz (by decide +kernel)) ?_
  refine nng (mk_rr (i := 17) (j := 19) hz (by decide +kernel)) ?_
  refine gdg (by decide) ?_
  refine ltzg (v' := X + 22) (mk_zz hz (by decide +kernel)) ?_
  refine ltzg (v' := (mkH' X h mkX_48)) rfl ?_
  refine gdg (by decide) ?_
  refine bdg (mkX__t9 hz) ?_
  refine gdg (mk_k1 (i := 19) hz (by decide +kernel)) ?_
  refine gdg (by rw [mk_kk (i := 19) (k := (24, 8)) hz (by decide +kernel)]; exact ⟨by decide, by decide⟩) ?_
  refine gdg (mk_k1 (i := 22) hz (by decide +kernel)) ?_
  refine ltzg (v' := (mkH' X h mkX_50)) rfl ?_
  refine ltzg (v' := 1) (by decide +kernel) ?_
  rw [fX7_init_b24.eq_2]
  refine iteT (by decide) ?_
  refine gdg (mk_k1 (i := 17) hz (by decide +kernel)) ?_
  refine nng (mk_rr (i := 17) (j := 18) hz (by decide +kernel)) ?_
  refine gdg (by decide) ?_
  refine ltzg (v' := X + 23) (mk_zz hz (by decide +kernel)) ?_
  refine ltzg (v' := (mkH' X h mkX_51)) rfl ?_
  refine gdg (by decide) ?_
  refine ltzg (v' := X + 24) (mk_zz hz (by decide +kernel)) ?_
  refine ltzg (v' := (mkH' X h mkX_52)) rfl ?_
  refine gdg (by decide) ?_
  refine bdg (mkX__t10 hz) ?_
  refine gdg (mk_k1 (i := 18) hz (by decide +kernel)) ?_
  refine gdg (by rw [mk_kk (i := 18) (k := (26, 8)) hz (by decide +kernel)]; exact ⟨by decide, by decide⟩) ?_
  refine gdg (mk_k1 (i := 23) hz (by decide +kernel)) ?_
  refine ltzg (v' := (mkH' X h mkX_54)) rfl ?_
  refine gdg (mk_k1 (i := 17) hz (by decide +kernel)) ?_
  refine nng (mk_rr (i := 17) (j := 19) hz (by decide +kernel)) ?_
  refine gdg (by decide) ?_
  refine ltzg (v' := X + 25) (mk_zz hz (by decide +kernel)) ?_
  refine ltzg (v' := (mkH' X h mkX_55)) rfl ?_
  refine gdg (by decide) ?_
  refine bdg (mkX__t11 hz) ?_
  refine gdg (mk_k1 (i := 19) hz (by decide +kernel)) ?_
  refine gdg (by rw [mk_kk (i := 19) (k := (24, 8)) hz (by decide +kernel)]; exact ⟨by decide, by decide⟩) ?_
  refine gdg (mk_k1 (i := 25) hz (by decide +kernel)) ?_
  refine ltzg (v' := (mkH' X h mkX_57)) rfl ?_
  refine ltzg (v' := 2) (by decide +kernel) ?_
  rw [fX7_init_b24.eq_2]
  refine iteT (by decide) ?_
  refine gdg (mk_k1 (i := 17) hz (by decide +kernel)) ?_
  refine nng (mk_rr (i := 17) (j := 18) hz (by decide +kernel)) ?_
  refine gdg (by decide) ?_
  refine ltzg (v' := X + 26) (mk_zz hz (by decide +kernel)) ?_
  refine ltzg (v' := (mkH' X h mkX_58)) rfl ?_
  refine gdg (by decide) ?_
  refine ltzg (v' := X + 27) (mk_zz hz (by decide +kernel)) ?_
  refine ltzg (v' := (mkH' X h mkX_59)) rfl ?_
  refine gdg (by decide) ?_
  refine bdg (mkX__t12 hz) ?_
  refine gdg (mk_k1 (i := 18) hz (by decide +kernel)) ?_
  refine gdg (by rw [mk_kk (i := 18) (k := (26, 8)) hz (by decide +kernel)]; exact ⟨by decide, by decide⟩) ?_
  refine gdg (mk_k1 (i := 26) hz (by decide +kernel)) ?_
  refine ltzg (v' := (mkH' X h mkX_61)) rfl ?_
  refine gdg (mk_k1 (i := 17) hz (by decide +kernel)) ?_
  refine nng (mk_rr (i := 17) (j := 19) hz (by decide +kernel)) ?_
  refine gdg (by decide) ?_
  refine ltzg (v' := X + 28) (mk_zz hz (by decide +kernel)) ?_
  refine ltzg (v' := (mkH' X h mkX_62)) rfl ?_
  refine gdg (by decide) ?_
  refine bdg (mkX__t13 hz) ?_
  refine gdg (mk_k1 (i := 19) hz (by decide +kernel)) ?_
  refine gdg (by rw [mk_kk (i := 19) (k := (24, 8)) hz (by decide +kernel)]; exact ⟨by decide, by decide⟩) ?_
  refine gdg (mk_k1 (i := 28) hz (by decide +kernel)) ?_
  refine ltzg (v' := (mkH' X h mkX_64)) rfl ?_
  refine ltzg (v' := 3) (by decide +kernel) ?_
  rw [fX7_init_b24.eq_2]
  refine iteT (by decide) ?_
  refine gdg (mk_k1 (i := 17) hz (by decide +kernel)) ?_
  refine nng (mk_rr (i := 17) (j := 18) hz (by decide +kernel)) ?_
  refine gdg (by decide) ?_
  refine ltzg (v' := X + 29) (mk_zz hz (by decide +kernel)) ?_
  refine ltzg (v' := (mkH' X h mkX_65)) rfl ?_
  refine gdg (by decide) ?_
  refine ltzg (v' := X + 30) (mk_zz hz (by decide +kernel)) ?_
  refine ltzg (v' := (mkH' X h mkX_66)) rfl ?_
  refine gdg (by decide) ?_
  refine bdg (mkX__t14 hz) ?_
  refine gdg (mk_k1 (i := 18) hz (by decide +kernel)) ?_
  refine gdg (by rw [mk_kk (i := 18) (k := (26, 8)) hz (by decide +kernel)]; exact ⟨by decide, by decide⟩) ?_
  refine gdg (mk_k1 (i := 29) hz (by decide +kernel)) ?_
  refine ltzg (v' := (mkH' X h mkX_68)) rfl ?_
  refine gdg (mk_k1 (i := 17) hz (by decide +kernel)) ?_
  refine nng (mk_rr (i := 17) (j := 19) hz (by decide +kernel)) ?_
  refine gdg (by decide) ?_
  refine ltzg (v' := X + 31) (mk_zz hz (by decide +kernel)) ?_
  refine ltzg (v' := (mkH' X h mkX_69)) rfl ?_
  refine gdg (by decide) ?_
  refine bdg (mkX__t15 hz) ?_
  refine gdg (mk_k1 (i := 19) hz (by decide +kernel)) ?_
  refine gdg (by rw [mk_kk (i := 19) (k := (24, 8)) hz (by decide +kernel)]; exact ⟨by decide, by decide⟩) ?_
  refine gdg (mk_k1 (i := 31) hz (by decide +kernel)) ?_
  refine ltzg (v' := (mkH' X h mkX_71)) rfl ?_
  refine ltzg (v' := 4) (by decide +kernel) ?_
  rw [fX7_init_b24.eq_2]
  refine iteT (by decide) ?_
  refine gdg (mk_k1 (i := 17) hz (by decide +kernel)) ?_
  refine nng (mk_rr (i := 17) (j := 18) hz (by decide +kernel)) ?_
  refine gdg (by decide) ?_
  refine ltzg (v' := X + 32) (mk_zz hz (by decide +kernel)) ?_
  refine ltzg (v' := (mkH' X h mkX_72)) rfl ?_
  refine gdg (by decide) ?_
  refine ltzg (v' := X + 33) (mk_zz hz (by decide +kernel)) ?_
  refine ltzg (v' := (mkH' X h mkX_73)) rfl ?_
  refine gdg (by decide) ?_
  refine bdg (mkX__t16 hz) ?_
  refine gdg (mk_k1 (i := 18) hz (by decide +kernel)) ?_
  refine gdg (by rw [mk_kk (i := 18) (k := (26, 8)) hz (by decide +kernel)]; exact ⟨by decide, by decide⟩) ?_
  refine gdg (mk_k1 (i := 32) hz (by decide +kernel)) ?_
  refine ltzg (v' := (mkH' X h mkX_75)) rfl ?_
  refine gdg (mk_k1 (i := 17) hz (by decide +kernel)) ?_
  refine nng (mk_rr (i := 17) (j := 19) hz (by decide +kernel)) ?_
  refine gdg (by decide) ?_
  refine ltzg (v' := X + 34) (mk_zz hz (by decide +kernel)) ?_
  refine ltzg (v' := (mkH' X h mkX_76)) rfl ?_
  refine gdg (by decide) ?_
  refine bdg (mkX__t17 hz) ?_
  refine gdg (mk_k1 (i := 19) hz (by decide +kernel)) ?_
  refine gdg (by rw [mk_kk (i := 19) (k := (24, 8)) hz (by decide +kernel)]; exact ⟨by decide, by decide⟩) ?_
  refine gdg (mk_k1 (i := 34) hz (by decide +kernel)) ?_
  refine ltzg (v' := (mkH' X h mkX_78)) rfl ?_
  refine ltzg (v' := 5) (by decide +kernel) ?_
  rw [fX7_init_b24.eq_2]
  refine iteT (by decide) ?_
  refine gdg (mk_k1 (i := 17) hz (by decide +kernel)) ?_
  refine nng (mk_rr (i := 17) (j := 18) hz (by decide +kernel)) ?_
  refine gdg (by decide) ?_
  refine ltzg (v' := X + 35) (mk_zz hz (by decide +kernel)) ?_
  refine ltzg (v' := (mkH' X h mkX_79)) rfl ?_
  refine gdg (by decide) ?_
  refine ltzg (v' := X + 36) (mk_zz hz (by decide +kernel)) ?_
  refine ltzg (v' := (mkH' X h mkX_80)) rfl ?_
  refine gdg (by decide) ?_
  refine bdg (mkX__t18 hz) ?_
  refine gdg (mk_k1 (i := 18) hz (by decide +kernel)) ?_
  refine gdg (by rw [mk_kk (i := 18) (k := (26, 8)) hz (by decide +kernel)]; exact ⟨by decide, by decide⟩) ?_
  refine gdg (mk_k1 (i := 35) hz (by decide +kernel)) ?_
  refine ltzg (v' := (mkH' X h mkX_82)) rfl ?_
  refine gdg (mk_k1 (i := 17) hz (by decide +kernel)) ?_
  refine nng (mk_rr (i := 17) (j := 19) hz (by decide +kernel)) ?_
  refine gdg (by decide) ?_
  refine ltzg (v' := X + 37) (mk_zz hz (by decide +kernel)) ?_
  refine ltzg (v' := (mkH' X h mkX_83)) rfl ?_
  refine gdg (by decide) ?_
  refine bdg (mkX__t19 hz) ?_
  refine gdg (mk_k1 (i := 19) hz (by decide +kernel)) ?_
  refine gdg (by rw [mk_kk (i := 19) (k := (24, 8)) hz (by decide +kernel)]; exact ⟨by decide, by decide⟩) ?_
  refine gdg (mk_k1 (i := 37) hz (by decide +kernel)) ?_
  refine ltzg (v' := (mkH' X h mkX_85)) rfl ?_
  refine ltzg (v' := 6) (by decide +kernel) ?_
  rw [fX7_init_b24.eq_2]
  refine iteT (by decide) ?_
  refine gdg (mk_k1 (i := 17) hz (by decide +kernel)) ?_
  refine nng (mk_rr (i := 17) (j := 18) hz (by decide +kernel)) ?_
  refine gdg (by decide) ?_
  refine ltzg (v' := X + 38) (mk_zz hz (by decide +kernel)) ?_
  refine ltzg (v' := (mkH' X h mkX_86)) rfl ?_
  refine gdg (by decide) ?_
  refine ltzg (v' := X + 39) (mk_zz hz (by decide +kernel)) ?_
  refine ltzg (v' := (mkH' X h mkX_87)) rfl ?_
  refine gdg (by decide) ?_
  refine bdg (mkX__t20 hz) ?_
  refine gdg (mk_k1 (i := 18) hz (by decide +kernel)) ?_
  refine gdg (by rw [mk_kk (i := 18) (k := (26, 8)) hz (by decide +kernel)]; exact ⟨by decide, by decide⟩) ?_
  refine gdg (mk_k1 (i := 38) hz (by decide +kernel)) ?_
  refine ltzg (v' := (mkH' X h mkX_89)) rfl ?_
  refine gdg (mk_k1 (i := 17) hz (by decide +kernel)) ?_
  refine nng (mk_rr (i := 17) (j := 19) hz (by decide +kernel)) ?_
  refine gdg (by decide) ?_
  refine ltzg (v' := X + 40) (mk_zz hz (by decide +kernel)) ?_
  refine ltzg (v' := (mkH' X h mkX_90)) rfl ?_
  refine gdg (by decide) ?_
  refine bdg (mkX__t21 hz) ?_
  refine gdg (mk_k1 (i := 19) hz (by decide +kernel)) ?_
  refine gdg (by rw [mk_kk (i := 19) (k := (24, 8)) hz (by decide +kernel)]; exact ⟨by decide, by decide⟩) ?_
  refine gdg (mk_k1 (i := 40) hz (by decide +kernel)) ?_
  refine ltzg (v' := (mkH' X h mkX_92)) rfl ?_
  refine ltzg (v' := 7) (by decide +kernel) ?_
  rw [fX7_init_b24.eq_2]
  refine iteT (by decide) ?_
  refine gdg (mk_k1 (i := 17) hz (by decide +kernel)) ?_
  refine nng (mk_rr (i := 17) (j := 18) hz (by decide +kernel)) ?_
  refine gdg (by decide) ?_
  refine ltzg (v' := X + 41) (mk_zz hz (by decide +kernel)) ?_
  refine ltzg (v' := (mkH' X h mkX_93)) rfl ?_
  refine gdg (by decide) ?_
  refine ltzg (v' := X + 42) (mk_zz hz (by decide +kernel)) ?_
  refine ltzg (v' := (mkH' X h mkX_94)) rfl ?_
  refine gdg (by decide) ?_
  refine bdg (mkX__t22 hz) ?_
  refine gdg (mk_k1 (i := 18) hz (by decide +kernel)) ?_
  refine gdg (by rw [mk_kk (i := 18) (k := (26, 8)) hz (by decide +kernel)]; exact ⟨by decide, by decide⟩) ?_
  refine gdg (mk_k1 (i := 41) hz (by decide +kernel)) ?_
  refine ltzg (v' := (mkH' X h mkX_96)) rfl ?_
  refine gdg (mk_k1 (i := 17) hz (by decide +kernel)) ?_
  refine nng (mk_rr (i := 17) (j := 19) hz (by decide +kernel)) ?_
  refine gdg (by decide) ?_
  refine ltzg (v' := X + 43) (mk_zz hz (by decide +kernel)) ?_
  refine ltzg (v' := (mkH' X h mkX_97)) rfl ?_
  refine gdg (by decide) ?_
  refine bdg (mkX__t23 hz) ?_
  refine gdg (mk_k1 (i := 19) hz (by decide +kernel)) ?_
  refine gdg (by rw [mk_kk (i := 19) (k := (24, 8)) hz (by decide +kernel)]; exact ⟨by decide, by decide⟩) ?_
  refine gdg (mk_k1 (i := 43) hz (by decide +kernel)) ?_
  refine ltzg (v' := (mkH' X h mkX_99)) rfl ?_
  refine ltzg (v' := 8) (by decide +kernel) ?_
  rw [fX7_init_b24.eq_2]
  refine iteF (by decide) ?_
  refine gdg (by decide) ?_
  rfl

set_option maxRecDepth 100000 in
set_option maxHeartbeats 4000000 in
theorem mkX__t6 {X : Nat} {h : Hp} (hz : hZ h = X) : fX8_init (mkH' X h mkX_29) (X + 12) (X + 10) = some (mkH' X h mkX_100) := by
  unfold fX8_init
  refine ltzg (v' := X + 13) (mk_zz hz (by decide +kernel)) ?_
  refine ltzg (v' := (mkH' X h mkX_30)) rfl ?_
  refine gdg (mk_k1 (i := 12) hz (by decide +kernel)) ?_
  refine ltzg (v' := (mkH' X h mkX_31)) rfl ?_
  refine ltzg (v' := X + 14) (mk_zz hz (by decide +kernel)) ?_
  refine ltzg (v' := (mkH' X h mkX_32)) rfl ?_
  refine gdg (mk_k1 (i := 12) hz (by decide +kernel)) ?_
  refine ltzg (v' := (mkH' X h mkX_33)) rfl ?_
  refine ltzg (v' := X + 15) (mk_zz hz (by decide +kernel)) ?_
  refine ltzg (v' := (mkH' X h mkX_34)) rfl ?_
  refine gdg (mk_k1 (i := 12) hz (by decide +kernel)) ?_
  refine ltzg (v' := (mkH' X h mkX_35)) rfl ?_
  refine ltzg (v' := X + 16) (mk_zz hz (by decide +kernel)) ?_
  refine ltzg (v' := (mkH' X h mkX_36)) rfl ?_
  refine gdg (mk_k1 (i := 12) hz (by decide +kernel)) ?_
  refine ltzg (v' := (mkH' X h mkX_37)) rfl ?_
  refine ltzg (v' := (mkH' X h mkX_38)) rfl ?_
  refine ltzg (v' := X + 17) (mk_zz hz (by decide +kernel)) ?_
  refine ltzg (v' := (mkH' X h mkX_39)) rfl ?_
  refine bdg (mkX__t7 hz) ?_
  refine gdg (mk_k1 (i := 12) hz (by decide +kernel)) ?_
  refine ltzg (v' := (mkH' X h mkX_100)) rfl ?_
  rfl

set_option maxRecDepth 100000 in
set_option maxHeartbeats 4000000 in
theorem mkX__t24 {X : Nat} {h : Hp} (hz : hZ h = X) : fX2_init (mkH' X h mkX_102) (X + 44) (X + 10) = some (mkH' X h mkX_103) := by
  unfold fX2_init
  refine gdg (mk_k1 (i := 44) hz (by decide +kernel)) ?_
  refine ltzg (v' := (mkH' X h mkX_103)) rfl ?_
  rfl

set_option maxRecDepth 100000 in
set_option maxHeartbeats 4000000 in
theorem mkX__t26 {X : Nat} {h : Hp} (hz : hZ h = X) : fX6_init (mkH' X h mkX_111) (X + 48) (X + 49) = some (mkH' X h mkX_112) := by
  unfold fX6_init
  refine gdg (mk_k1 (i := 48) hz (by decide +kernel)) ?_
  refine ltzg (v' := (mkH' X h mkX_112)) rfl ?_
  rfl

set_option maxRecDepth 100000 in
set_option maxHeartbeats 4000000 in
theorem mkX__t27 {X : Nat} {h : Hp} (hz : hZ h = X) : fX0_init (mkH' X h mkX_114) (X + 50) = some (mkH' X h mkX_115) := by
  unfold fX0_init
  refine gdg (mk_k1 (i := 50) hz (by decide +kernel)) ?_
  refine ltzg (v' := (mkH' X h mkX_115)) rfl ?_
  rfl

set_option maxRecDepth 100000 in
set_option maxHeartbeats 4000000 in
theorem mkX__t28 {X : Nat} {h : Hp} (hz : hZ h = X) : fX6_init (mkH' X h mkX_118) (X + 51) (X + 52) = some (mkH' X h mkX_119) := by
  unfold fX6_init
  refine gdg (mk_k1 (i := 51) hz (by decide +kernel)) ?_
  refine ltzg (v' := (mkH' X h mkX_119)) rfl ?_
  rfl

set_option maxRecDepth 100000 in
set_option maxHeartbeats 4000000 in
theorem mkX__t29 {X : Nat} {h : Hp} (hz : hZ h = X) : fX0_init (mkH' X h mkX_121) (X + 53) = some (mkH' X h mkX_122) := by
  unfold fX0_init
  refine gdg (mk_k1 (i := 53) hz (by decide +kernel)) ?_
  refine ltzg (v' := (mkH' X h mkX_122)) rfl ?_
  rfl

set_option maxRecDepth 100000 in
set_option maxHeartbeats 4000000 in
theorem mkX__t30 {X : Nat} {h : Hp} (hz : hZ h = X) : fX6_init (mkH' X h mkX_125) (X + 54) (X + 55) = some (mkH' X h mkX_126) := by
  unfold fX6_init
  refine gdg (mk_k1 (i := 54) hz (by decide +kernel)) ?_
  refine ltzg (v' := (mkH' X h mkX_126)) rfl ?_
  rfl

set_option maxRecDepth 100000 in
set_option maxHeartbeats 4000000 in
theorem mkX__t31 {X : Nat} {h : Hp} (hz : hZ h = X) : fX0_init (mkH' X h mkX_128) (X + 56) = some (mkH' X h mkX_129) := by
  unfold fX0_init
  refine gdg (mk_k1 (i := 56) hz (by decide +kernel)) ?_
  refine ltzg (v' := (mkH' X h mkX_129)) rfl ?_
  rfl

set_option maxRecDepth 100000 in
set_option maxHeartbeats 4000000 in
theorem mkX__t32 {X : Nat} {h : Hp} (hz : hZ h = X) : fX6_init (mkH' X h mkX_132) (X + 57) (X + 58) = some (mkH' X h mkX_133) := by
  unfold fX6_init
  refine gdg (mk_k1 (i := 57) hz (by decide +kernel)) ?_
  refine ltzg (v' := (mkH' X h mkX_133)) rfl ?_
  rfl

set_option maxRecDepth 100000 in
set_option maxHeartbeats 4000000 in
theorem mkX__t33 {X : Nat} {h : Hp} (hz : hZ h = X) : fX0_init (mkH' X h mkX_135) (X + 59) = some (mkH' X h mkX_136) := by
  unfold fX0_init
  refine gdg (mk_k1 (i := 59) hz (by decide +kernel)) ?_
  refine ltzg (v' := (mkH' X h mkX_136)) rfl ?_
  rfl

set_option maxRecDepth 100000 in
set_option maxHeartbeats 4000000 in
theorem mkX__t34 {X : Nat} {h : Hp} (hz : hZ h = X) : fX6_init (mkH' X h mkX_139) (X + 60) (X + 61) = some (mkH' X h mkX_140) := by
  unfold fX6_init
  refine gdg (mk_k1 (i := 60) hz (by decide +kernel)) ?_
  refine ltzg (v' := (mkH' X h mkX_140)) rfl ?_
  rfl

set_option maxRecDepth 100000 in
set_option maxHeartbeats 4000000 in
theorem mkX__t35 {X : Nat} {h : Hp} (hz : hZ h = X) : fX0_init (mkH' X h mkX_142) (X + 62) = some (mkH' X h mkX_143) := by
  unfold fX0_init
  refine gdg (mk_k1 (i := 62) hz (by decide +kernel)) ?_
  refine ltzg (v' := (mkH' X h mkX_143)) rfl ?_
  rfl

set_option maxRecDepth 100000 in
set_option maxHeartbeats 4000000 in
theorem mkX__t36 {X : Nat} {h : Hp} (hz : hZ h = X) : fX6_init (mkH' X h mkX_146) (X + 63) (X + 64) = some (mkH' X h mkX_147) := by
  unfold fX6_init
  refine gdg (mk_k1 (i := 63) hz (by decide +kernel)) ?_
  refine ltzg (v' := (mkH' X h mkX_147)) rfl ?_
  rfl

set_option maxRecDepth 100000 in
set_option maxHeartbeats 4000000 in
theorem mkX__t37 {X : Nat} {h : Hp} (hz : hZ h = X) : fX0_init (mkH' X h mkX_149) (X + 65) = some (mkH' X h mkX_150) := by
  unfold fX0_init
  refine gdg (mk_k1 (i := 65) hz (by decide +kernel)) ?_
  refine ltzg (v' := (mkH' X h mkX_150)) rfl ?_
  rfl

set_option maxRecDepth 100000 in
set_option maxHeartbeats 4000000 in
theorem mkX__t38 {X : Nat} {h : Hp} (hz : hZ h = X) : fX6_init (mkH' X h mkX_153) (X + 66) (X + 67) = some (mkH' X h mkX_154) := by
  unfold fX6_init
  refine gdg (mk_k1 (i := 66) hz (by decide +kernel)) ?_
  refine ltzg (v' := (mkH' X h mkX_154)) rfl ?_
  rfl

set_option maxRecDepth 100000 in
set_option maxHeartbeats 4000000 in
theorem mkX__t39 {X : Nat} {h : Hp} (hz : hZ h = X) : fX0_init (mkH' X h mkX_156) (X + 68) = some (mkH' X h mkX_157) := by
  unfold fX0_init
  refine gdg (mk_k1 (i := 68) hz (by decide +kernel)) ?_
  refine ltzg (v' := (mkH' X h mkX_157)) rfl ?_
  rfl

set_option maxRecDepth 100000 in
set_option maxHeartbeats 4000000 in
theorem mkX__t40 {X : Nat} {h : Hp} (hz : hZ h = X) : fX6_init (mkH' X h mkX_160) (X + 69) (X + 70) = some (mkH' X h mkX_161) := by
  unfold fX6_init
  refine gdg (mk_k1 (i := 69) hz (by decide +kernel)) ?_
  refine ltzg (v' := (mkH' X h mkX_161)) rfl ?_
  rfl

set_option maxRecDepth 100000 in
set_option maxHeartbeats 4000000 in
theorem mkX__t41 {X : Nat} {h : Hp} (hz : hZ h = X) : fX0_init (mkH' X h mkX_163) (X + 71) = some (mkH' X h mkX_164) := by
  unfold fX0_init
  refine gdg (mk_k1 (i := 71) hz (by decide +kernel)) ?_
  refine ltzg (v' := (mkH' X h mkX_164)) rfl ?_
  rfl

set_option maxRecDepth 100000 in
set_option maxHeartbeats 4000000 in
theorem mkX__t25 {X : Nat} {h : Hp} (hz : hZ h = X) : fX7_init (mkH' X h mkX_105) (X + 45) = some (mkH' X h mkX_165) := by
  unfold fX7_init
  refine ltzg (v' := X + 46) (mk_zz hz (by decide +kernel)) ?_
  refine ltzg (v' := (mkH' X h mkX_106)) rfl ?_
  refine gdg (mk_k1 (i := 45) hz (by decide +kernel)) ?_
  refine ltzg (v' := (mkH' X h mkX_107)) rfl ?_
  refine ltzg (v' := X + 47) (mk_zz hz (by decide +kernel)) ?_
  refine ltzg (v' := (mkH' X h mkX_108)) rfl ?_
  refine gdg (mk_k1 (i := 45) hz (by decide +kernel)) ?_
  refine ltzg (v' := (mkH' X h mkX_109)) rfl ?_
  rw [show FU = 999980 + 20 from rfl]
  rw [fX7_init_b24.eq_2]
  refine iteT (by decide) ?_
  refine gdg (mk_k1 (i := 45) hz (by decide +kernel)) ?_
  refine nng (mk_rr (i := 45) (j := 46) hz (by decide +kernel)) ?_
  refine gdg (by decide) ?_
  refine ltzg (v' := X + 48) (mk_zz hz (by decide +kernel)) ?_
  refine ltzg (v' := (mkH' X h mkX_110)) rfl ?_
  refine gdg (by decide) ?_
  refine ltzg (v' := X + 49) (mk_zz hz (by decide +kernel)) ?_
  refine ltzg (v' := (mkH' X h mkX_111)) rfl ?_
  refine gdg (by decide) ?_
  refine bdg (mkX__t26 hz) ?_
  refine gdg (mk_k1 (i := 46) hz (by decide +kernel)) ?_
  refine gdg (by rw [mk_kk (i := 46) (k := (26, 8)) hz (by decide +kernel)]; exact ⟨by decide, by decide⟩) ?_
  refine gdg (mk_k1 (i := 48) hz (by decide +kernel)) ?_
  refine ltzg (v' := (mkH' X h mkX_113)) rfl ?_
  refine gdg (mk_k1 (i := 45) hz (by decide +kernel)) ?_
  refine nng (mk_rr (i := 45) (j := 47) hz (by decide +kernel)) ?_
  refine gdg (by decide) ?_
  refine ltzg (v' := X + 50) (mk_zz hz (by decide +kernel)) ?_
  refine ltzg (v' := (mkH' X h mkX_114)) rfl ?_
  refine gdg (by decide) ?_
  refine bdg (mkX__t27 hz) ?_
  refine gdg (mk_k1 (i := 47) hz (by decide +kernel)) ?_
  refine gdg (by rw [mk_kk (i := 47) (k := (24, 8)) hz (by decide +kernel)]; exact ⟨by decide, by decide⟩) ?_
  refine gdg (mk_k1 (i := 50) hz (by decide +kernel)) ?_
  refine ltzg (v' := (mkH' X h mkX_116)) rfl ?_
  refine ltzg (v' := 1) (by decide +kernel) ?_
  rw [fX7_init_b24.eq_2]
  refine iteT (by decide) ?_
  refine gdg (mk_k1 (i := 45) hz (by decide +kernel)) ?_
  refine nng (mk_rr (i := 45) (j := 46) hz (by decide +kernel)) ?_
  refine gdg (by decide) ?_
  refine ltzg (v' := X + 51) (mk_zz hz (by decide +kernel)) ?_
  refine ltzg (v' := (mkH' X h mkX_117)) rfl ?_
  refine gdg (by decide) ?_
  refine ltzg (v' := X + 52) (mk_zz hz (by decide +kernel)) ?_
  refine ltzg (v' := (mkH' X h mkX_118)) rfl ?_
  refine gdg (by decide) ?_
  refine bdg (mkX__t28 hz) ?_
  refine gdg (mk_k1 (i := 46) hz (by decide +kernel)) ?_
  refine gdg (by rw [mk_kk (i := 46) (k := (26, 8)) hz (by decide +kernel)]; exact ⟨by decide, by decide⟩) ?_
  refine gdg (mk_k1 (i := 51) hz (by decide +kernel)) ?_
  refine ltzg (v' := (mkH' X h mkX_120)) rfl ?_
  refine gdg (mk_k1 (i := 45) hz (by decide +kernel)) ?_
  refine nng (mk_rr (i := 45) (j := 47) hz (by decide +kernel)) ?_
  refine gdg (by decide) ?_
  refine ltzg (v' := X + 53) (mk_zz hz (by decide +kernel)) ?_
  refine ltzg (v' := (mkH' X h mkX_121)) rfl ?_
  refine gdg (by decide) ?_
  refine bdg (mkX__t29 hz) ?_
  refine gdg (mk_k1 (i := 47) hz (by decide +kernel)) ?_
  refine gdg (by rw [mk_kk (i := 47) (k := (24, 8)) hz (by decide +kernel)]; exact ⟨by decide, by decide⟩) ?_
  refine gdg (mk_k1 (i := 53) hz (by decide +kernel)) ?_
  refine ltzg (v' := (mkH' X h mkX_123)) rfl ?_
  refine ltzg (v' := 2) (by decide +kernel) ?_
  rw [fX7_init_b24.eq_2]
  refine iteT (by decide) ?_
  refine gdg (mk_k1 (i := 45) hz (by decide +kernel)) ?_
  refine nng (mk_rr (i := 45) (j := 46) hz (by decide +kernel)) ?_
  refine gdg (by decide) ?_
  refine ltzg (v' := X + 54) (mk_zz hz (by decide +kernel)) ?_
  refine ltzg (v' := (mkH' X h mkX_124)) rfl ?_
  refine gdg (by decide) ?_
  refine ltzg (v' := X + 55) (mk_zz hz (by decide +kernel)) ?_
  refine ltzg (v' := (mkH' X h mkX_125)) rfl ?_
  refine gdg (by decide) ?_
  refine bdg (mkX__t30 hz) ?_
  refine gdg (mk_k1 (i := 46) hz (by decide +kernel)) ?_
  refine gdg (by rw [mk_kk (i := 46) (k := (26, 8)) hz (by decide +kernel)]; exact ⟨by decide, by decide⟩) ?_
  refine gdg (mk_k1 (i := 54) hz (by decide +kernel)) ?_
  refine ltzg (v' := (mkH' X h mkX_127)) rfl ?_
  refine gdg (mk_k1 (i := 45) hz (by decide +kernel)) ?_
  refine nng (mk_rr (i := 45) (j := 47) hz (by decide +kernel)) ?_
  refine gdg (by decide) ?_
  refine ltzg (v' := X + 56) (mk_zz hz (by decide +kernel)) ?_
  refine ltzg (v' := (mkH' X h mkX_128)) rfl ?_
  refine gdg (by decide) ?_
  refine bdg (mkX__t31 hz) ?_
  refine gdg (mk_k1 (i := 47) hz (by decide +kernel)) ?_
  refine gdg (by rw [mk_kk (i := 47) (k := (24, 8)) hz (by decide +kernel)]; exact ⟨by decide, by decide⟩) ?_
  refine gdg (mk_k1 (i := 56) hz (by decide +kernel)) ?_
  refine ltzg (v' := (mkH' X h mkX_130)) rfl ?_
  refine ltzg (v' := 3) (by decide +kernel) ?_
  rw [fX7_init_b24.eq_2]
  refine iteT (by decide) ?_
  refine gdg (mk_k1 (i := 45) hz (by decide +kernel)) ?_
  refine nng (mk_rr (i := 45) (j := 46) hz (by decide +kernel)) ?_
  refine gdg (by decide) ?_
  refine ltzg (v' := X + 57) (mk_zz hz (by decide +kernel)) ?_
  refine ltzg (v' := (mkH' X h mkX_131)) rfl ?_
  refine gdg (by decide) ?_
  refine ltzg (v' := X + 58) (mk_zz hz (by decide +kernel)) ?_
  refine ltzg (v' := (mkH' X h mkX_132)) rfl ?_
  refine gdg (by decide) ?_
  refine bdg (mkX__t32 hz) ?_
  refine gdg (mk_k1 (i := 46) hz (by decide +kernel)) ?_
  refine gdg (by rw [mk_kk (i := 46) (k := (26, 8)) hz (by decide +kernel)]; exact ⟨by decide, by decide⟩) ?_
  refine gdg (mk_k1 (i := 57) hz (by decide +kernel)) ?_
  refine ltzg (v' := (mkH' X h mkX_134)) rfl ?_
  refine gdg (mk_k1 (i := 45) hz (by decide +kernel)) ?_
  refine nng (mk_rr (i := 45) (j := 47) hz (by decide +kernel)) ?_
  refine gdg (by decide) ?_
  refine ltzg (v' := X + 59) (mk_zz hz (by decide +kernel)) ?_
  refine ltzg (v' := (mkH' X h mkX_135)) rfl ?_
  refine gdg (by decide) ?_
  refine bdg (mkX__t33 hz) ?_
  refine gdg (mk_k1 (i := 47) hz (by decide +kernel)) ?_
  refine gdg (by rw [mk_kk (i := 47) (k := (24, 8)) hz (by decide +kernel)]; exact ⟨by decide, by decide⟩) ?_
  refine gdg (mk_k1 (i := 59) hz (by decide +kernel)) ?_
  refine ltzg (v' := (mkH' X h mkX_137)) rfl ?_
  refine ltzg (v' := 4) (by decide +kernel) ?_
  rw [fX7_init_b24.eq_2]
  refine iteT (by decide) ?_
  refine gdg (mk_k1 (i := 45) hz (by decide +kernel)) ?_
  refine nng (mk_rr (i := 45) (j := 46) hz (by decide +kernel)) ?_
  refine gdg (by decide) ?_
  refine ltzg (v' := X + 60) (mk_zz hz (by decide +kernel)) ?_
  refine ltzg (v' := (mkH' X h mkX_138)) rfl ?_
  refine gdg (by decide) ?_
  refine ltzg (v' := X + 61) (mk_zz hz (by decide +kernel)) ?_
  refine ltzg (v' := (mkH' X h mkX_139)) rfl ?_
  refine gdg (by decide) ?_
  refine bdg (mkX__t34 hz) ?_
  refine gdg (mk_k1 (i := 46) hz (by decide +kernel)) ?_
  refine gdg (by rw [mk_kk (i := 46) (k := (26, 8)) hz (by decide +kernel)]; exact ⟨by decide, by decide⟩) ?_
  refine gdg (mk_k1 (i := 60) hz (by decide +kernel)) ?_
  refine ltzg (v' := (mkH' X h mkX_141)) rfl ?_
  refine gdg (mk_k1 (i := 45) hz (by decide +kernel)) ?_
  refine nng (mk_rr (i := 45) (j := 47) hz (by decide +kernel)) ?_
  refine gdg (by decide) ?_
  refine ltzg (v' := X + 62) (mk_zz hz (by decide +kernel)) ?_
  refine ltzg (v' := (mkH' X h mkX_142)) rfl ?_
  refine gdg (by decide) ?_
  refine bdg (mkX__t35 hz) ?_
  refine gdg (mk_k1 (i := 47) hz (by decide +kernel)) ?_
  refine gdg (by rw [mk_kk (i := 47) (k := (24, 8)) hz (by decide +kernel)]; exact ⟨by decide, by decide⟩) ?_
  refine gdg (mk_k1 (i := 62) hz (by decide +kernel)) ?_
  refine ltzg (v' := (mkH' X h mkX_144)) rfl ?_
  refine ltzg (v' := 5) (by decide +kernel) ?_
  rw [fX7_init_b24.eq_2]
  refine iteT (by decide) ?_
  refine gdg (mk_k1 (i := 45) hz (by decide +kernel)) ?_
  refine nng (mk_rr (i := 45) (j := 46) hz (by decide +kernel)) ?_
  refine gdg (by decide) ?_
  refine ltzg (v' := X + 63) (mk_zz hz (by decide +kernel)) ?_
  refine ltzg (v' := (mkH' X h mkX_145)) rfl ?_
  refine gdg (by decide) ?_
  refine ltzg (v' := X + 64) (mk_zz hz (by decide +kernel)) ?_
  refine ltzg (v' := (mkH' X h mkX_146)) rfl ?_
  refine gdg (by decide) ?_
  refine bdg (mkX__t36 hz) ?_
  refine gdg (mk_k1 (i := 46) hz (by decide +kernel)) ?_
  refine gdg (by rw [mk_kk (i := 46) (k := (26, 8)) hz (by decide +kernel)]; exact ⟨by decide, by decide⟩) ?_
  refine gdg (mk_k1 (i := 63) hz (by decide +kernel)) ?_
  refine ltzg (v' := (mkH' X h mkX_148)) rfl ?_
  refine gdg (mk_k1 (i := 45) hz (by decide +kernel)) ?_
  refine nng (mk_rr (i := 45) (j := 47) hz (by decide +kernel)) ?_
  refine gdg (by decide) ?_
  refine ltzg (v' := X + 65) (mk_zz hz (by decide +kernel)) ?_
  refine ltzg (v' := (mkH' X h mkX_149)) rfl ?_
  refine gdg (by decide) ?_
  refine bdg (mkX__t37 hz) ?_
  refine gdg (mk_k1 (i := 47) hz (by decide +kernel)) ?_
  refine gdg (by rw [mk_kk (i := 47) (k := (24, 8)) hz (by decide +kernel)]; exact ⟨by decide, by decide⟩) ?_
  refine gdg (mk_k1 (i := 65) hz (by decide +kernel)) ?_
  refine ltzg (v' := (mkH' X h mkX_151)) rfl ?_
  refine ltzg (v' := 6) (by decide +kernel) ?_
  rw [fX7_init_b24.eq_2]
  refine iteT (by decide) ?_
  refine gdg (mk_k1 (i := 45) hz (by decide +kernel)) ?_
  refine nng (mk_rr (i := 45) (j := 46) hz (by decide +kernel)) ?_
  refine gdg (by decide) ?_
  refine ltzg (v' := X + 66) (mk_zz hz (by decide +kernel)) ?_
  refine ltzg (v' := (mkH' X h mkX_152)) rfl ?_
  refine gdg (by decide) ?_
  refine ltzg (v' := X + 67) (mk_zz hz (by decide +kernel)) ?_
  refine ltzg (v' := (mkH' X h mkX_153)) rfl ?_
  refine gdg (by decide) ?_
  refine bdg (mkX__t38 hz) ?_
  refine gdg (mk_k1 (i := 46) hz (by decide +kernel)) ?_
  refine gdg (by rw [mk_kk (i := 46) (k := (26, 8)) hz (by decide +kernel)]; exact ⟨by decide, by decide⟩) ?_
  refine gdg (mk_k1 (i := 66) hz (by decide +kernel)) ?_
  refine ltzg (v' := (mkH' X h mkX_155)) rfl ?_
  refine gdg (mk_k1 (i := 45) hz (by decide +kernel)) ?_
  refine nng (mk_rr (i := 45) (j := 47) hz (by decide +kernel)) ?_
  refine gdg (by decide) ?_
  refine ltzg (v' := X + 68) (mk_zz hz (by decide +kernel)) ?_
  refine ltzg (v' := (mkH' X h mkX_156)) rfl ?_
  refine gdg (by decide) ?_
  refine bdg (mkX__t39 hz) ?_
  refine gdg (mk_k1 (i := 47) hz (by decide +kernel)) ?_
  refine gdg (by rw [mk_kk (i := 47) (k := (24, 8)) hz (by decide +kernel)]; exact ⟨by decide, by decide⟩) ?_
  refine gdg (mk_k1 (i := 68) hz (by decide +kernel)) ?_
  refine ltzg (v' := (mkH' X h mkX_158)) rfl ?_
  refine ltzg (v' := 7) (by decide +kernel) ?_
  rw [fX7_init_b24.eq_2]
  refine iteT (by decide) ?_
  refine gdg (mk_k1 (i := 45) hz (by decide +kernel)) ?_
  refine nng (mk_rr (i := 45) (j := 46) hz (by decide +kernel)) ?_
  refine gdg (by decide) ?_
  refine ltzg (v' := X + 69) (mk_zz hz (by decide +kernel)) ?_
  refine ltzg (v' := (mkH' X h mkX_159)) rfl ?_
  refine gdg (by decide) ?_
  refine ltzg (v' := X + 70) (mk_zz hz (by decide +kernel)) ?_
  refine ltzg (v' := (mkH' X h mkX_160)) rfl ?_
  refine gdg (by decide) ?_
  refine bdg (mkX__t40 hz) ?_
  refine gdg (mk_k1 (i := 46) hz (by decide +kernel)) ?_
  refine gdg (by rw [mk_kk (i := 46) (k := (26, 8)) hz (by decide +kernel)]; exact ⟨by decide, by decide⟩) ?_
  refine gdg (mk_k1 (i := 69) hz (by decide +kernel)) ?_
  refine ltzg (v' := (mkH' X h mkX_162)) rfl ?_
  refine gdg (mk_k1 (i := 45) hz (by decide +kernel)) ?_
  refine nng (mk_rr (i := 45) (j := 47) hz (by decide +kernel)) ?_
  refine gdg (by decide) ?_
  refine ltzg (v' := X + 71) (mk_zz hz (by decide +kernel)) ?_
  refine ltzg (v' := (mkH' X h mkX_163)) rfl ?_
  refine gdg (by decide) ?_
  refine bdg (mkX__t41 hz) ?_
  refine gdg (mk_k1 (i := 47) hz (by decide +kernel)) ?_
  refine gdg (by rw [mk_kk (i := 47) (k := (24, 8)) hz (by decide +kernel)]; exact ⟨by decide, by decide⟩) ?_
  refine gdg (mk_k1 (i := 71) hz (by decide +kernel)) ?_
  refine ltzg (v' := (mkH' X h mkX_165)) rfl ?_
  refine ltzg (v' := 8) (by decide +kernel) ?_
  rw [fX7_init_b24.eq_2]
  refine iteF (by decide) ?_
  refine gdg (by decide) ?_
  rfl

set_option maxRecDepth 100000 in
set_option maxHeartbeats 4000000 in
theorem mkX__t42 {X : Nat} {h : Hp} (hz : hZ h = X) : fX1_init (mkH' X h mkX_167) (X + 72) = some (mkH' X h mkX_173) := by
  unfold fX1_init
  refine ltzg (v' := X + 73) (mk_zz hz (by decide +kernel)) ?_
  refine ltzg (v' := (mkH' X h mkX_168)) rfl ?_
  refine gdg (mk_k1 (i := 72) hz (by decide +kernel)) ?_
  refine ltzg (v' := (mkH' X h mkX_169)) rfl ?_
  refine ltzg (v' := X + 74) (mk_zz hz (by decide +kernel)) ?_
  refine ltzg (v' := (mkH' X h mkX_170)) rfl ?_
  refine gdg (mk_k1 (i := 72) hz (by decide +kernel)) ?_
  refine ltzg (v' := (mkH' X h mkX_171)) rfl ?_
  refine ltzg (v' := X + 75) (mk_zz hz (by decide +kernel)) ?_
  refine ltzg (v' := (mkH' X h mkX_172)) rfl ?_
  refine gdg (mk_k1 (i := 72) hz (by decide +kernel)) ?_
  refine ltzg (v' := (mkH' X h mkX_173)) rfl ?_
  rfl

set_option maxRecDepth 100000 in
set_option maxHeartbeats 4000000 in
theorem mkX__t43 {X : Nat} {h : Hp} (hz : hZ h = X) : fX3_init (mkH' X h mkX_176) (X + 77) (X + 45) (X + 72) = some (mkH' X h mkX_178) := by
  unfold fX3_init
  refine gdg (mk_k1 (i := 77) hz (by decide +kernel)) ?_
  refine ltzg (v' := (mkH' X h mkX_177)) rfl ?_
  refine ltzg (v' := (mkH' X h mkX_178)) rfl ?_
  rfl

set_option maxRecDepth 100000 in
set_option maxHeartbeats 4000000 in
theorem mkX__t44 {X : Nat} {h : Hp} (hz : hZ h = X) : fX3_init (mkH' X h mkX_180) (X + 78) (X + 45) (X + 72) = some (mkH' X h mkX_182) := by
  unfold fX3_init
  refine gdg (mk_k1 (i := 78) hz (by decide +kernel)) ?_
  refine ltzg (v' := (mkH' X h mkX_181)) rfl ?_
  refine ltzg (v' := (mkH' X h mkX_182)) rfl ?_
  rfl

set_option maxRecDepth 100000 in
set_option maxHeartbeats 4000000 in
theorem mkX__t45 {X : Nat} {h : Hp} (hz : hZ h = X) : fX3_init (mkH' X h mkX_184) (X + 79) (X + 45) (X + 72) = some (mkH' X h mkX_186) := by
  unfold fX3_init
  refine gdg (mk_k1 (i := 79) hz (by decide +kernel)) ?_
  refine ltzg (v' := (mkH' X h mkX_185)) rfl ?_
  refine ltzg (v' := (mkH' X h mkX_186)) rfl ?_
  rfl

set_option maxRecDepth 100000 in
set_option maxHeartbeats 4000000 in
theorem mkX__t46 {X : Nat} {h : Hp} (hz : hZ h = X) : fX6_init (mkH' X h mkX_192) (X + 81) (X + 82) = some (mkH' X h mkX_193) := by
  unfold fX6_init
  refine gdg (mk_k1 (i := 81) hz (by decide +kernel)) ?_
  refine ltzg (v' := (mkH' X h mkX_193)) rfl ?_
  rfl

set_option maxRecDepth 100000 in
set_option maxHeartbeats 4000000 in
theorem mkX__t47 {X : Nat} {h : Hp} (hz : hZ h = X) : fX6_init (mkH' X h mkX_196) (X + 83) (X + 84) = some (mkH' X h mkX_197) := by
  unfold fX6_init
  refine gdg (mk_k1 (i := 83) hz (by decide +kernel)) ?_
  refine ltzg (v' := (mkH' X h mkX_197)) rfl ?_
  rfl

set_option maxRecDepth 100000 in
set_option maxHeartbeats 4000000 in
theorem mkX__t48 {X : Nat} {h : Hp} (hz : hZ h = X) : fX6_init (mkH' X h mkX_200) (X + 85) (X + 86) = some (mkH' X h mkX_201) := by
  unfold fX6_init
  refine gdg (mk_k1 (i := 85) hz (by decide +kernel)) ?_
  refine ltzg (v' := (mkH' X h mkX_201)) rfl ?_
  rfl

set_option maxRecDepth 100000 in
set_option maxHeartbeats 4000000 in
theorem mkX__t49 {X : Nat} {h : Hp} (hz : hZ h = X) : fX6_init (mkH' X h mkX_204) (X + 87) (X + 88) = some (mkH' X h mkX_205) := by
  unfold fX6_init
  refine gdg (mk_k1 (i := 87) hz (by decide +kernel)) ?_
  refine ltzg (v' := (mkH' X h mkX_205)) rfl ?_
  rfl

set_option maxRecDepth 100000 in
set_option maxHeartbeats 4000000 in
theorem mkX__t50 {X : Nat} {h : Hp} (hz : hZ h = X) : fX6_init (mkH' X h mkX_208) (X + 89) (X + 90) = some (mkH' X h mkX_209) := by
  unfold fX6_init
  refine gdg (mk_k1 (i := 89) hz (by decide +kernel)) ?_
  refine ltzg (v' := (mkH' X h mkX_209)) rfl ?_
  rfl

set_option maxRecDepth 100000 in
set_option maxHeartbeats 4000000 in
theorem mkX__t51 {X : Nat} {h : Hp} (hz : hZ h = X) : fX6_init (mkH' X h mkX_212) (X + 91) (X + 92) = some (mkH' X h mkX_213) := by
  unfold fX6_init
  refine gdg (mk_k1 (i := 91) hz (by decide +kernel)) ?_
  refine ltzg (v' := (mkH' X h mkX_213)) rfl ?_
  rfl

set_option maxRecDepth 100000 in
set_option maxHeartbeats 4000000 in
theorem mkX__t52 {X : Nat} {h : Hp} (hz : hZ h = X) : fX6_init (mkH' X h mkX_216) (X + 93) (X + 94) = some (mkH' X h mkX_217) := by
  unfold fX6_init
  refine gdg (mk_k1 (i := 93) hz (by decide +kernel)) ?_
  refine ltzg (v' := (mkH' X h mkX_217)) rfl ?_
  rfl

set_option maxRecDepth 100000 in
set_option maxHeartbeats 4000000 in
theorem mkX__t53 {X : Nat} {h : Hp} (hz : hZ h = X) : fX6_init (mkH' X h mkX_220) (X + 95) (X + 96) = some (mkH' X h mkX_221) := by
  unfold fX6_init
  refine gdg (mk_k1 (i := 95) hz (by decide +kernel)) ?_
  refine ltzg (v' := (mkH' X h mkX_221)) rfl ?_
  rfl

set_option maxRecDepth 100000 in
set_option maxHeartbeats 4000000 in
theorem mkX__t54 {X : Nat} {h : Hp} (hz : hZ h = X) : fX6_init (mkH' X h mkX_224) (X + 97) (X + 98) = some (mkH' X h mkX_225) := by
  unfold fX6_init
  refine gdg (mk_k1 (i := 97) hz (by decide +kernel)) ?_
  refine ltzg (v' := (mkH' X h mkX_225)) rfl ?_
  rfl

set_option maxRecDepth 100000 in
set_option maxHeartbeats 4000000 in
theorem mkX__t55 {X : Nat} {h : Hp} (hz : hZ h = X) : fX6_init (mkH' X h mkX_228) (X + 99) (X + 100) = some (mkH' X h mkX_229) := by
  unfold fX6_init
  refine gdg (mk_k1 (i := 99) hz (by decide +kernel)) ?_
  refine ltzg (v' := (mkH' X h mkX_229)) rfl ?_
  rfl

set_option maxRecDepth 100000 in
set_option maxHeartbeats 4000000 in
theorem mkX__t57 {X : Nat} {h : Hp} (hz : hZ h = X) : fX6_init (mkH' X h mkX_251) (X + 111) (X + 112) = some (mkH' X h mkX_252) := by
  unfold fX6_init
  refine gdg (mk_k1 (i := 111) hz (by decide +kernel)) ?_
  refine ltzg (v' := (mkH' X h mkX_252)) rfl ?_
  rfl

set_option maxRecDepth 100000 in
set_option maxHeartbeats 4000000 in
theorem mkX__t56 {X : Nat} {h : Hp} (hz : hZ h = X) : fX4_init (mkH' X h mkX_237) (X + 104) = some (mkH' X h mkX_259) := by
  unfold fX4_init
  refine ltzg (v' := X + 105) (mk_zz hz (by decide +kernel)) ?_
  refine ltzg (v' := (mkH' X h mkX_238)) rfl ?_
  refine gdg (mk_k1 (i := 104) hz (by decide +kernel)) ?_
  refine ltzg (v' := (mkH' X h mkX_239)) rfl ?_
  refine ltzg (v' := X + 106) (mk_zz hz (by decide +kernel)) ?_
  refine ltzg (v' := (mkH' X h mkX_240)) rfl ?_
  refine gdg (mk_k1 (i := 104) hz (by decide +kernel)) ?_
  refine ltzg (v' := (mkH' X h mkX_241)) rfl ?_
  refine ltzg (v' := X + 107) (mk_zz hz (by decide +kernel)) ?_
  refine ltzg (v' := (mkH' X h mkX_242)) rfl ?_
  refine gdg (mk_k1 (i := 104) hz (by decide +kernel)) ?_
  refine ltzg (v' := (mkH' X h mkX_243)) rfl ?_
  refine ltzg (v' := X + 108) (mk_zz hz (by decide +kernel)) ?_
  refine ltzg (v' := (mkH' X h mkX_244)) rfl ?_
  refine gdg (mk_k1 (i := 104) hz (by decide +kernel)) ?_
  refine ltzg (v' := (mkH' X h mkX_245)) rfl ?_
  refine ltzg (v' := X + 109) (mk_zz hz (by decide +kernel)) ?_
  refine ltzg (v' := (mkH' X h mkX_246)) rfl ?_
  refine gdg (mk_k1 (i := 104) hz (by decide +kernel)) ?_
  refine ltzg (v' := (mkH' X h mkX_247)) rfl ?_
  refine ltzg (v' := X + 110) (mk_zz hz (by decide +kernel)) ?_
  refine ltzg (v' := (mkH' X h mkX_248)) rfl ?_
  refine gdg (mk_k1 (i := 104) hz (by decide +kernel)) ?_
  refine ltzg (v' := (mkH' X h mkX_249)) rfl ?_
  refine ltzg (v' := X + 111) (mk_zz hz (by decide +kernel)) ?_
  refine ltzg (v' := (mkH' X h mkX_250)) rfl ?_
  refine ltzg (v' := X + 112) (mk_zz hz (by decide +kernel)) ?_
  refine ltzg (v' := (mkH' X h mkX_251)) rfl ?_
  refine bdg (mkX__t57 hz) ?_
  refine gdg (mk_k1 (i := 104) hz (by decide +kernel)) ?_
  refine ltzg (v' := (mkH' X h mkX_253)) rfl ?_
  rw [show FU = 999980 + 20 from rfl]
  rw [fX4_init_b74.eq_2]
  refine iteT (by decide) ?_
  refine gdg (mk_k1 (i := 104) hz (by decide +kernel)) ?_
  refine nng (mk_rr (i := 104) (j := 105) hz (by decide +kernel)) ?_
  refine nng (mk_rr (i := 104) (j := 111) hz (by decide +kernel)) ?_
  refine gdg (mk_k1 (i := 105) hz (by decide +kernel)) ?_
  refine gdg (by rw [mk_kk (i := 105) (k := (26, 6)) hz (by decide +kernel)]; exact ⟨by decide, by decide⟩) ?_
  refine gdg (mk_k1 (i := 111) hz (by decide +kernel)) ?_
  refine ltzg (v' := (mkH' X h mkX_254)) rfl ?_
  refine ltzg (v' := 1) (by decide +kernel) ?_
  rw [fX4_init_b74.eq_2]
  refine iteT (by decide) ?_
  refine gdg (mk_k1 (i := 104) hz (by decide +kernel)) ?_
  refine nng (mk_rr (i := 104) (j := 105) hz (by decide +kernel)) ?_
  refine nng (mk_rr (i := 104) (j := 111) hz (by decide +kernel)) ?_
  refine gdg (mk_k1 (i := 105) hz (by decide +kernel)) ?_
  refine gdg (by rw [mk_kk (i := 105) (k := (26, 6)) hz (by decide +kernel)]; exact ⟨by decide, by decide⟩) ?_
  refine gdg (mk_k1 (i := 111) hz (by decide +kernel)) ?_
  refine ltzg (v' := (mkH' X h mkX_255)) rfl ?_
  refine ltzg (v' := 2) (by decide +kernel) ?_
  rw [fX4_init_b74.eq_2]
  refine iteT (by decide) ?_
  refine gdg (mk_k1 (i := 104) hz (by decide +kernel)) ?_
  refine nng (mk_rr (i := 104) (j := 105) hz (by decide +kernel)) ?_
  refine nng (mk_rr (i := 104) (j := 111) hz (by decide +kernel)) ?_
  refine gdg (mk_k1 (i := 105) hz (by decide +kernel)) ?_
  refine gdg (by rw [mk_kk (i := 105) (k := (26, 6)) hz (by decide +kernel)]; exact ⟨by decide, by decide⟩) ?_
  refine gdg (mk_k1 (i := 111) hz (by decide +kernel)) ?_
  refine ltzg (v' := (mkH' X h mkX_256)) rfl ?_
  refine ltzg (v' := 3) (by decide +kernel) ?_
  rw [fX4_init_b74.eq_2]
  refine iteT (by decide) ?_
  refine gdg (mk_k1 (i := 104) hz (by decide +kernel)) ?_
  refine nng (mk_rr (i := 104) (j := 105) hz (by decide +kernel)) ?_
  refine nng (mk_rr (i := 104) (j := 111) hz (by decide +kernel)) ?_
  refine gdg (mk_k1 (i := 105) hz (by decide +kernel)) ?_
  refine gdg (by rw [mk_kk (i := 105) (k := (26, 6)) hz (by decide +kernel)]; exact ⟨by decide, by decide⟩) ?_
  refine gdg (mk_k1 (i := 111) hz (by decide +kernel)) ?_
  refine ltzg (v' := (mkH' X h mkX_257)) rfl ?_
  refine ltzg (v' := 4) (by decide +kernel) ?_
  rw [fX4_init_b74.eq_2]
  refine iteT (by decide) ?_
  refine gdg (mk_k1 (i := 104) hz (by decide +kernel)) ?_
  refine nng (mk_rr (i := 104) (j := 105) hz (by decide +kernel)) ?_
  refine nng (mk_rr (i := 104) (j := 111) hz (by decide +kernel)) ?_
  refine gdg (mk_k1 (i := 105) hz (by decide +kernel)) ?_
  refine gdg (by rw [mk_kk (i := 105) (k := (26, 6)) hz (by decide +kernel)]; exact ⟨by decide, by decide⟩) ?_
  refine gdg (mk_k1 (i := 111) hz (by decide +kernel)) ?_
  refine ltzg (v' := (mkH' X h mkX_258)) rfl ?_
  refine ltzg (v' := 5) (by decide +kernel) ?_
  rw [fX4_init_b74.eq_2]
  refine iteT (by decide) ?_
  refine gdg (mk_k1 (i := 104) hz (by decide +kernel)) ?_
  refine nng (mk_rr (i := 104) (j := 105) hz (by decide +kernel)) ?_
  refine nng (mk_rr (i := 104) (j := 111) hz (by decide +kernel)) ?_
  refine gdg (mk_k1 (i := 105) hz (by decide +kernel)) ?_
  refine gdg (by rw [mk_kk (i := 105) (k := (26, 6)) hz (by decide +kernel)]; exact ⟨by decide, by decide⟩) ?_
  refine gdg (mk_k1 (i := 111) hz (by decide +kernel)) ?_
  refine ltzg (v' := (mkH' X h mkX_259)) rfl ?_
  refine ltzg (v' := 6) (by decide +kernel) ?_
  rw [fX4_init_b74.eq_2]
  refine iteF (by decide) ?_
  refine gdg (by decide) ?_
  rfl

set_option maxRecDepth 100000 in
set_option maxHeartbeats 4000000 in
theorem mkX__t59 {X : Nat} {h : Hp} (hz : hZ h = X) : fX6_init (mkH' X h mkX_269) (X + 117) (X + 118) = some (mkH' X h mkX_270) := by
  unfold fX6_init
  refine gdg (mk_k1 (i := 117) hz (by decide +kernel)) ?_
  refine ltzg (v' := (mkH' X h mkX_270)) rfl ?_
  rfl

set_option maxRecDepth 100000 in
set_option maxHeartbeats 4000000 in
theorem mkX__t60 {X : Nat} {h : Hp} (hz : hZ h = X) : fX6_init (mkH' X h mkX_273) (X + 119) (X + 120) = some (mkH' X h mkX_274) := by
  unfold fX6_init
  refine gdg (mk_k1 (i := 119) hz (by decide +kernel)) ?_
  refine ltzg (v' := (mkH' X h mkX_274)) rfl ?_
  rfl

set_option maxRecDepth 100000 in
set_option maxHeartbeats 4000000 in
theorem mkX__t58 {X : Nat} {h : Hp} (hz : hZ h = X) : fX5_init (mkH' X h mkX_261) (X + 113) = some (mkH' X h mkX_275) := by
  unfold fX5_init
  refine ltzg (v' := X + 114) (mk_zz hz (by decide +kernel)) ?_
  refine ltzg (v' := (mkH' X h mkX_262)) rfl ?_
  refine gdg (mk_k1 (i := 113) hz (by decide +kernel)) ?_
  refine ltzg (v' := (mkH' X h mkX_263)) rfl ?_
  refine ltzg (v' := X + 115) (mk_zz hz (by decide +kernel)) ?_
  refine ltzg (v' := (mkH' X h mkX_264)) rfl ?_
  refine gdg (mk_k1 (i := 113) hz (by decide +kernel)) ?_
  refine ltzg (v' := (mkH' X h mkX_265)) rfl ?_
  refine ltzg (v' := X + 116) (mk_zz hz (by decide +kernel)) ?_
  refine ltzg (v' := (mkH' X h mkX_266)) rfl ?_
  refine gdg (mk_k1 (i := 113) hz (by decide +kernel)) ?_
  refine ltzg (v' := (mkH' X h mkX_267)) rfl ?_
  refine ltzg (v' := X + 117) (mk_zz hz (by decide +kernel)) ?_
  refine ltzg (v' := (mkH' X h mkX_268)) rfl ?_
  refine ltzg (v' := X + 118) (mk_zz hz (by decide +kernel)) ?_
  refine ltzg (v' := (mkH' X h mkX_269)) rfl ?_
  refine bdg (mkX__t59 hz) ?_
  refine gdg (mk_k1 (i := 113) hz (by decide +kernel)) ?_
  refine ltzg (v' := (mkH' X h mkX_271)) rfl ?_
  refine ltzg (v' := X + 119) (mk_zz hz (by decide +kernel)) ?_
  refine ltzg (v' := (mkH' X h mkX_272)) rfl ?_
  refine ltzg (v' := X + 120) (mk_zz hz (by decide +kernel)) ?_
  refine ltzg (v' := (mkH' X h mkX_273)) rfl ?_
  refine bdg (mkX__t60 hz) ?_
  refine gdg (mk_k1 (i := 113) hz (by decide +kernel)) ?_
  refine ltzg (v' := (mkH' X h mkX_275)) rfl ?_
  rfl

set_option maxRecDepth 100000 in
set_option maxHeartbeats 4000000 in
theorem mkX__t0 {X : Nat} {h : Hp} (hz : hZ h = X) : fX11_init (mkH' X h mkX_0) (X + 0) = some (mkH' X h mkX_277) := by
  unfold fX11_init
  refine ltzg (v' := X + 1) (mk_zz hz (by decide +kernel)) ?_
  refine ltzg (v' := (mkH' X h mkX_1)) rfl ?_
  refine ltzg (v' := X + 2) (mk_zz hz (by decide +kernel)) ?_
  refine ltzg (v' := (mkH' X h mkX_2)) rfl ?_
  refine bdg (mkX__t1 hz) ?_
  refine gdg (mk_k1 (i := 1) hz (by decide +kernel)) ?_
  refine gdg (by rw [mk_kk (i := 1) (k := (27, 4)) hz (by decide +kernel)]; exact ⟨by decide, by decide⟩) ?_
  refine gdg (mk_k1 (i := 2) hz (by decide +kernel)) ?_
  refine ltzg (v' := (mkH' X h mkX_6)) rfl ?_
  refine ltzg (v' := X + 4) (mk_zz hz (by decide +kernel)) ?_
  refine ltzg (v' := (mkH' X h mkX_7)) rfl ?_
  refine bdg (mkX__t2 hz) ?_
  refine gdg (mk_k1 (i := 1) hz (by decide +kernel)) ?_
  refine gdg (by rw [mk_kk (i := 1) (k := (27, 4)) hz (by decide +kernel)]; exact ⟨by decide, by decide⟩) ?_
  refine gdg (mk_k1 (i := 4) hz (by decide +kernel)) ?_
  refine ltzg (v' := (mkH' X h mkX_11)) rfl ?_
  refine ltzg (v' := X + 6) (mk_zz hz (by decide +kernel)) ?_
  refine ltzg (v' := (mkH' X h mkX_12)) rfl ?_
  refine bdg (mkX__t3 hz) ?_
  refine gdg (mk_k1 (i := 1) hz (by decide +kernel)) ?_
  refine gdg (by rw [mk_kk (i := 1) (k := (27, 4)) hz (by decide +kernel)]; exact ⟨by decide, by decide⟩) ?_
  refine gdg (mk_k1 (i := 6) hz (by decide +kernel)) ?_
  refine ltzg (v' := (mkH' X h mkX_16)) rfl ?_
  refine ltzg (v' := X + 8) (mk_zz hz (by decide +kernel)) ?_
  refine ltzg (v' := (mkH' X h mkX_17)) rfl ?_
  refine bdg (mkX__t4 hz) ?_
  refine gdg (mk_k1 (i := 1) hz (by decide +kernel)) ?_
  refine gdg (by rw [mk_kk (i := 1) (k := (27, 4)) hz (by decide +kernel)]; exact ⟨by decide, by decide⟩) ?_
  refine gdg (mk_k1 (i := 8) hz (by decide +kernel)) ?_
  refine ltzg (v' := (mkH' X h mkX_21)) rfl ?_
  refine gdg (mk_k1 (i := 0) hz (by decide +kernel)) ?_
  refine ltzg (v' := (mkH' X h mkX_22)) rfl ?_
  refine ltzg (v' := X + 10) (mk_zz hz (by decide +kernel)) ?_
  refine ltzg (v' := (mkH' X h mkX_23)) rfl ?_
  refine bdg (mkX__t5 hz) ?_
  refine gdg (mk_k1 (i := 0) hz (by decide +kernel)) ?_
  refine ltzg (v' := (mkH' X h mkX_28)) rfl ?_
  refine ltzg (v' := X + 12) (mk_zz hz (by decide +kernel)) ?_
  refine ltzg (v' := (mkH' X h mkX_29)) rfl ?_
  refine gdg (mk_k1 (i := 0) hz (by decide +kernel)) ?_
  refine nng (mk_rr (i := 0) (j := 10) hz (by decide +kernel)) ?_
  refine bdg (mkX__t6 hz) ?_
  refine gdg (mk_k1 (i := 0) hz (by decide +kernel)) ?_
  refine ltzg (v' := (mkH' X h mkX_101)) rfl ?_
  refine ltzg (v' := X + 44) (mk_zz hz (by decide +kernel)) ?_
  refine ltzg (v' := (mkH' X h mkX_102)) rfl ?_
  refine gdg (mk_k1 (i := 0) hz (by decide +kernel)) ?_
  refine nng (mk_rr (i := 0) (j := 10) hz (by decide +kernel)) ?_
  refine bdg (mkX__t24 hz) ?_
  refine gdg (mk_k1 (i := 0) hz (by decide +kernel)) ?_
  refine ltzg (v' := (mkH' X h mkX_104)) rfl ?_
  refine ltzg (v' := X + 45) (mk_zz hz (by decide +kernel)) ?_
  refine ltzg (v' := (mkH' X h mkX_105)) rfl ?_
  refine bdg (mkX__t25 hz) ?_
  refine gdg (mk_k1 (i := 0) hz (by decide +kernel)) ?_
  refine ltzg (v' := (mkH' X h mkX_166)) rfl ?_
  refine ltzg (v' := X + 72) (mk_zz hz (by decide +kernel)) ?_
  refine ltzg (v' := (mkH' X h mkX_167)) rfl ?_
  refine bdg (mkX__t42 hz) ?_
  refine gdg (mk_k1 (i := 0) hz (by decide +kernel)) ?_
  refine ltzg (v' := (mkH' X h mkX_174)) rfl ?_
  refine ltzg (v' := X + 76) (mk_zz hz (by decide +kernel)) ?_
  refine ltzg (v' := (mkH' X h mkX_175)) rfl ?_
  refine ltzg (v' := X + 77) (mk_zz hz (by decide +kernel)) ?_
  refine ltzg (v' := (mkH' X h mkX_176)) rfl ?_
  refine gdg (mk_k1 (i := 0) hz (by decide +kernel)) ?_
  refine nng (mk_rr (i := 0) (j := 45) hz (by decide +kernel)) ?_
  refine nng (mk_rr (i := 0) (j := 72) hz (by decide +kernel)) ?_
  refine bdg (mkX__t43 hz) ?_
  refine gdg (mk_k1 (i := 76) hz (by decide +kernel)) ?_
  refine gdg (by rw [mk_kk (i := 76) (k := (25, 3)) hz (by decide +kernel)]; exact ⟨by decide, by decide⟩) ?_
  refine gdg (mk_k1 (i := 77) hz (by decide +kernel)) ?_
  refine ltzg (v' := (mkH' X h mkX_179)) rfl ?_
  refine ltzg (v' := X + 78) (mk_zz hz (by decide +kernel)) ?_
  refine ltzg (v' := (mkH' X h mkX_180)) rfl ?_
  refine gdg (mk_k1 (i := 0) hz (by decide +kernel)) ?_
  refine nng (mk_rr (i := 0) (j := 45) hz (by decide +kernel)) ?_
  refine nng (mk_rr (i := 0) (j := 72) hz (by decide +kernel)) ?_
  refine bdg (mkX__t44 hz) ?_
  refine gdg (mk_k1 (i := 76) hz (by decide +kernel)) ?_
  refine gdg (by rw [mk_kk (i := 76) (k := (25, 3)) hz (by decide +kernel)]; exact ⟨by decide, by decide⟩) ?_
  refine gdg (mk_k1 (i := 78) hz (by decide +kernel)) ?_
  refine ltzg (v' := (mkH' X h mkX_183)) rfl ?_
  refine ltzg (v' := X + 79) (mk_zz hz (by decide +kernel)) ?_
  refine ltzg (v' := (mkH' X h mkX_184)) rfl ?_
  refine gdg (mk_k1 (i := 0) hz (by decide +kernel)) ?_
  refine nng (mk_rr (i := 0) (j := 45) hz (by decide +kernel)) ?_
  refine nng (mk_rr (i := 0) (j := 72) hz (by decide +kernel)) ?_
  refine bdg (mkX__t45 hz) ?_
  refine gdg (mk_k1 (i := 76) hz (by decide +kernel)) ?_
  refine gdg (by rw [mk_kk (i := 76) (k := (25, 3)) hz (by decide +kernel)]; exact ⟨by decide, by decide⟩) ?_
  refine gdg (mk_k1 (i := 79) hz (by decide +kernel)) ?_
  refine ltzg (v' := (mkH' X h mkX_187)) rfl ?_
  refine gdg (mk_k1 (i := 0) hz (by decide +kernel)) ?_
  refine ltzg (v' := (mkH' X h mkX_188)) rfl ?_
  refine ltzg (v' := X + 80) (mk_zz hz (by decide +kernel)) ?_
  refine ltzg (v' := (mkH' X h mkX_189)) rfl ?_
  refine gdg (mk_k1 (i := 0) hz (by decide +kernel)) ?_
  refine ltzg (v' := (mkH' X h mkX_190)) rfl ?_
  rw [show FU = 999980 + 20 from rfl]
  rw [fX11_init_b188.eq_2]
  refine iteT (by decide) ?_
  refine gdg (mk_k1 (i := 0) hz (by decide +kernel)) ?_
  refine nng (mk_rr (i := 0) (j := 80) hz (by decide +kernel)) ?_
  refine gdg (by decide) ?_
  refine ltzg (v' := X + 81) (mk_zz hz (by decide +kernel)) ?_
  refine ltzg (v' := (mkH' X h mkX_191)) rfl ?_
  refine gdg (by decide) ?_
  refine ltzg (v' := X + 82) (mk_zz hz (by decide +kernel)) ?_
  refine ltzg (v' := (mkH' X h mkX_192)) rfl ?_
  refine gdg (by decide) ?_
  refine bdg (mkX__t46 hz) ?_
  refine gdg (mk_k1 (i := 80) hz (by decide +kernel)) ?_
  refine gdg (by rw [mk_kk (i := 80) (k := (26, 8)) hz (by decide +kernel)]; exact ⟨by decide, by decide⟩) ?_
  refine gdg (mk_k1 (i := 81) hz (by decide +kernel)) ?_
  refine ltzg (v' := (mkH' X h mkX_194)) rfl ?_
  refine ltzg (v' := 1) (by decide +kernel) ?_
  rw [fX11_init_b188.eq_2]
  refine iteT (by decide) ?_
  refine gdg (mk_k1 (i := 0) hz (by decide +kernel)) ?_
  refine nng (mk_rr (i := 0) (j := 80) hz (by decide +kernel)) ?_
  refine gdg (by decide) ?_
  refine ltzg (v' := X + 83) (mk_zz hz (by decide +kernel)) ?_
  refine ltzg (v' := (mkH' X h mkX_195)) rfl ?_
  refine gdg (by decide) ?_
  refine ltzg (v' := X + 84) (mk_zz hz (by decide +kernel)) ?_
  refine ltzg (v' := (mkH' X h mkX_196)) rfl ?_
  refine gdg (by decide) ?_
  refine bdg (mkX__t47 hz) ?_
  refine gdg (mk_k1 (i := 80) hz (by decide +kernel)) ?_
  refine gdg (by rw [mk_kk (i := 80) (k := (26, 8)) hz (by decide +kernel)]; exact ⟨by decide, by decide⟩) ?_
  refine gdg (mk_k1 (i := 83) hz (by decide +kernel)) ?_
  refine ltzg (v' := (mkH' X h mkX_198)) rfl ?_
  refine ltzg (v' := 2) (by decide +kernel) ?_
  rw [fX11_init_b188.eq_2]
  refine iteT (by decide) ?_
  refine gdg (mk_k1 (i := 0) hz (by decide +kernel)) ?_
  refine nng (mk_rr (i := 0) (j := 80) hz (by decide +kernel)) ?_
  refine gdg (by decide) ?_
  refine ltzg (v' := X + 85) (mk_zz hz (by decide +kernel)) ?_
  refine ltzg (v' := (mkH' X h mkX_199)) rfl ?_
  refine gdg (by decide) ?_
  refine ltzg (v' := X + 86) (mk_zz hz (by decide +kernel)) ?_
  refine ltzg (v' := (mkH' X h mkX_200)) rfl ?_
  refine gdg (by decide) ?_
  refine bdg (mkX__t48 hz) ?_
  refine gdg (mk_k1 (i := 80) hz (by decide +kernel)) ?_
  refine gdg (by rw [mk_kk (i := 80) (k := (26, 8)) hz (by decide +kernel)]; exact ⟨by decide, by decide⟩) ?_
  refine gdg (mk_k1 (i := 85) hz (by decide +kernel)) ?_
  refine ltzg (v' := (mkH' X h mkX_202)) rfl ?_
  refine ltzg (v' := 3) (by decide +kernel) ?_
  rw [fX11_init_b188.eq_2]
  refine iteT (by decide) ?_
  refine gdg (mk_k1 (i := 0) hz (by decide +kernel)) ?_
  refine nng (mk_rr (i := 0) (j := 80) hz (by decide +kernel)) ?_
  refine gdg (by decide) ?_
  refine ltzg (v' := X + 87) (mk_zz hz (by decide +kernel)) ?_
  refine ltzg (v' := (mkH' X h mkX_203)) rfl ?_
  refine gdg (by decide) ?_
  refine ltzg (v' := X + 88) (mk_zz hz (by decide +kernel)) ?_
  refine ltzg (v' := (mkH' X h mkX_204)) rfl ?_
  refine gdg (by decide) ?_
  refine bdg (mkX__t49 hz) ?_
  refine gdg (mk_k1 (i := 80) hz (by decide +kernel)) ?_
  refine gdg (by rw [mk_kk (i := 80) (k := (26, 8)) hz (by decide +kernel)]; exact ⟨by decide, by decide⟩) ?_
  refine gdg (mk_k1 (i := 87) hz (by decide +kernel)) ?_
  refine ltzg (v' := (mkH' X h mkX_206)) rfl ?_
  refine ltzg (v' := 4) (by decide +kernel) ?_
  rw [fX11_init_b188.eq_2]
  refine iteT (by decide) ?_
  refine gdg (mk_k1 (i := 0) hz (by decide +kernel)) ?_
  refine nng (mk_rr (i := 0) (j := 80) hz (by decide +kernel)) ?_
  refine gdg (by decide) ?_
  refine ltzg (v' := X + 89) (mk_zz hz (by decide +kernel)) ?_
  refine ltzg (v' := (mkH' X h mkX_207)) rfl ?_
  refine gdg (by decide) ?_
  refine ltzg (v' := X + 90) (mk_zz hz (by decide +kernel)) ?_
  refine ltzg (v' := (mkH' X h mkX_208)) rfl ?_
  refine gdg (by decide) ?_
  refine bdg (mkX__t50 hz) ?_
  refine gdg (mk_k1 (i := 80) hz (by decide +kernel)) ?_
  refine gdg (by rw [mk_kk (i := 80) (k := (26, 8)) hz (by decide +kernel)]; exact ⟨by decide, by decide⟩) ?_
  refine gdg (mk_k1 (i := 89) hz (by decide +kernel)) ?_
  refine ltzg (v' := (mkH' X h mkX_210)) rfl ?_
  refine ltzg (v' := 5) (by decide +kernel) ?_
  rw [fX11_init_b188.eq_2]
  refine iteT (by decide) ?_
  refine gdg (mk_k1 (i := 0) hz (by decide +kernel)) ?_
  refine nng (mk_rr (i := 0) (j := 80) hz (by decide +kernel)) ?_
  refine gdg (by decide) ?_
  refine ltzg (v' := X + 91) (mk_zz hz (by decide +kernel)) ?_
  refine ltzg (v' := (mkH' X h mkX_211)) rfl ?_
  refine gdg (by decide) ?_
  refine ltzg (v' := X + 92) (mk_zz hz (by decide +kernel)) ?_
  refine ltzg (v' := (mkH' X h mkX_212)) rfl ?_
  refine gdg (by decide) ?_
  refine bdg (mkX__t51 hz) ?_
  refine gdg (mk_k1 (i := 80) hz (by decide +kernel)) ?_
  refine gdg (by rw [mk_kk (i := 80) (k := (26, 8)) hz (by decide +kernel)]; exact ⟨by decide, by decide⟩) ?_
  refine gdg (mk_k1 (i := 91) hz (by decide +kernel)) ?_
  refine ltzg (v' := (mkH' X h mkX_214)) rfl ?_
  refine ltzg (v' := 6) (by decide +kernel) ?_
  rw [fX11_init_b188.eq_2]
  refine iteT (by decide) ?_
  refine gdg (mk_k1 (i := 0) hz (by decide +kernel)) ?_
  refine nng (mk_rr (i := 0) (j := 80) hz (by decide +kernel)) ?_
  refine gdg (by decide) ?_
  refine ltzg (v' := X + 93) (mk_zz hz (by decide +kernel)) ?_
  refine ltzg (v' := (mkH' X h mkX_215)) rfl ?_
  refine gdg (by decide) ?_
  refine ltzg (v' := X + 94) (mk_zz hz (by decide +kernel)) ?_
  refine ltzg (v' := (mkH' X h mkX_216)) rfl ?_
  refine gdg (by decide) ?_
  refine bdg (mkX__t52 hz) ?_
  refine gdg (mk_k1 (i := 80) hz (by decide +kernel)) ?_
  refine gdg (by rw [mk_kk (i := 80) (k := (26, 8)) hz (by decide +kernel)]; exact ⟨by decide, by decide⟩) ?_
  refine gdg (mk_k1 (i := 93) hz (by decide +kernel)) ?_
  refine ltzg (v' := (mkH' X h mkX_218)) rfl ?_
  refine ltzg (v' := 7) (by decide +kernel) ?_
  rw [fX11_init_b188.eq_2]
  refine iteT (by decide) ?_
  refine gdg (mk_k1 (i := 0) hz (by decide +kernel)) ?_
  refine nng (mk_rr (i := 0) (j := 80) hz (by decide +kernel)) ?_
  refine gdg (by decide) ?_
  refine ltzg (v' := X + 95) (mk_zz hz (by decide +kernel)) ?_
  refine ltzg (v' := (mkH' X h mkX_219)) rfl ?_
  refine gdg (by decide) ?_
  refine ltzg (v' := X + 96) (mk_zz hz (by decide +kernel)) ?_
  refine ltzg (v' := (mkH' X h mkX_220)) rfl ?_
  refine gdg (by decide) ?_
  refine bdg (mkX__t53 hz) ?_
  refine gdg (mk_k1 (i := 80) hz (by decide +kernel)) ?_
  refine gdg (by rw [mk_kk (i := 80) (k := (26, 8)) hz (by decide +kernel)]; exact ⟨by decide, by decide⟩) ?_
  refine gdg (mk_k1 (i := 95) hz (by decide +kernel)) ?_
  refine ltzg (v' := (mkH' X h mkX_222)) rfl ?_
  refine ltzg (v' := 8) (by decide +kernel) ?_
  rw [fX11_init_b188.eq_2]
  refine iteF (by decide) ?_
  refine gdg (by decide) ?_
  refine ltzg (v' := X + 97) (mk_zz hz (by decide +kernel)) ?_
  refine ltzg (v' := (mkH' X h mkX_223)) rfl ?_
  refine gdg (by decide) ?_
  refine ltzg (v' := X + 98) (mk_zz hz (by decide +kernel)) ?_
  refine ltzg (v' := (mkH' X h mkX_224)) rfl ?_
  refine gdg (by decide) ?_
  refine bdg (mkX__t54 hz) ?_
  refine gdg (mk_k1 (i := 0) hz (by decide +kernel)) ?_
  refine ltzg (v' := (mkH' X h mkX_226)) rfl ?_
  refine gdg (by decide) ?_
  refine ltzg (v' := X + 99) (mk_zz hz (by decide +kernel)) ?_
  refine ltzg (v' := (mkH' X h mkX_227)) rfl ?_
  refine gdg (by decide) ?_
  refine ltzg (v' := X + 100) (mk_zz hz (by decide +kernel)) ?_
  refine ltzg (v' := (mkH' X h mkX_228)) rfl ?_
  refine gdg (by decide) ?_
  refine bdg (mkX__t55 hz) ?_
  refine gdg (mk_k1 (i := 0) hz (by decide +kernel)) ?_
  refine ltzg (v' := (mkH' X h mkX_230)) rfl ?_
  refine gdg (by decide) ?_
  refine ltzg (v' := X + 101) (mk_zz hz (by decide +kernel)) ?_
  refine ltzg (v' := (mkH' X h mkX_231)) rfl ?_
  refine gdg (mk_k1 (i := 0) hz (by decide +kernel)) ?_
  refine ltzg (v' := (mkH' X h mkX_232)) rfl ?_
  refine gdg (by decide) ?_
  refine ltzg (v' := X + 102) (mk_zz hz (by decide +kernel)) ?_
  refine ltzg (v' := (mkH' X h mkX_233)) rfl ?_
  refine gdg (mk_k1 (i := 0) hz (by decide +kernel)) ?_
  refine ltzg (v' := (mkH' X h mkX_234)) rfl ?_
  refine gdg (by decide) ?_
  refine ltzg (v' := X + 103) (mk_zz hz (by decide +kernel)) ?_
  refine ltzg (v' := (mkH' X h mkX_235)) rfl ?_
  refine gdg (mk_k1 (i := 0) hz (by decide +kernel)) ?_
  refine ltzg (v' := (mkH' X h mkX_236)) rfl ?_
  refine gdg (by decide) ?_
  refine ltzg (v' := X + 104) (mk_zz hz (by decide +kernel)) ?_
  refine ltzg (v' := (mkH' X h mkX_237)) rfl ?_
  refine gdg (by decide) ?_
  refine bdg (mkX__t56 hz) ?_
  refine gdg (mk_k1 (i := 0) hz (by decide +kernel)) ?_
  refine ltzg (v' := (mkH' X h mkX_260)) rfl ?_
  refine gdg (by decide) ?_
  refine ltzg (v' := X + 113) (mk_zz hz (by decide +kernel)) ?_
  refine ltzg (v' := (mkH' X h mkX_261)) rfl ?_
  refine gdg (by decide) ?_
  refine bdg (mkX__t58 hz) ?_
  refine gdg (mk_k1 (i := 0) hz (by decide +kernel)) ?_
  refine ltzg (v' := (mkH' X h mkX_276)) rfl ?_
  refine ltzg (v' := (mkH' X h mkX_277)) rfl ?_
  refine gdg (by decide) ?_
  rfl

set_option maxRecDepth 100000 in
set_option maxHeartbeats 4000000 in
theorem mkX__t61 {X : Nat} {h : Hp} (hz : hZ h = X) : fX12_init (mkH' X h mkX_278) (X + 121) = some (mkH' X h mkX_329) := by
  unfold fX12_init
  refine gdg (mk_k1 (i := 121) hz (by decide +kernel)) ?_
  refine ltzg (v' := (mkH' X h mkX_279)) rfl ?_
  refine ltzg (v' := X + 122) (mk_zz hz (by decide +kernel)) ?_
  refine ltzg (v' := (mkH' X h mkX_280)) rfl ?_
  refine gdg (mk_k1 (i := 121) hz (by decide +kernel)) ?_
  refine ltzg (v' := (mkH' X h mkX_281)) rfl ?_
  refine ltzg (v' := X + 123) (mk_zz hz (by decide +kernel)) ?_
  refine ltzg (v' := (mkH' X h mkX_282)) rfl ?_
  refine gdg (mk_k1 (i := 121) hz (by decide +kernel)) ?_
  refine ltzg (v' := (mkH' X h mkX_283)) rfl ?_
  refine ltzg (v' := X + 124) (mk_zz hz (by decide +kernel)) ?_
  refine ltzg (v' := (mkH' X h mkX_284)) rfl ?_
  refine gdg (mk_k1 (i := 121) hz (by decide +kernel)) ?_
  refine ltzg (v' := (mkH' X h mkX_285)) rfl ?_
  refine ltzg (v' := X + 125) (mk_zz hz (by decide +kernel)) ?_
  refine ltzg (v' := (mkH' X h mkX_286)) rfl ?_
  refine gdg (mk_k1 (i := 121) hz (by decide +kernel)) ?_
  refine ltzg (v' := (mkH' X h mkX_287)) rfl ?_
  refine ltzg (v' := (mkH' X h mkX_288)) rfl ?_
  refine ltzg (v' := (mkH' X h mkX_289)) rfl ?_
  refine ltzg (v' := X + 126) (mk_zz hz (by decide +kernel)) ?_
  refine ltzg (v' := (mkH' X h mkX_290)) rfl ?_
  refine gdg (mk_k1 (i := 121) hz (by decide +kernel)) ?_
  refine ltzg (v' := (mkH' X h mkX_291)) rfl ?_
  refine ltzg (v' := X + 127) (mk_zz hz (by decide +kernel)) ?_
  refine ltzg (v' := (mkH' X h mkX_292)) rfl ?_
  refine gdg (mk_k1 (i := 121) hz (by decide +kernel)) ?_
  refine ltzg (v' := (mkH' X h mkX_293)) rfl ?_
  refine ltzg (v' := X + 128) (mk_zz hz (by decide +kernel)) ?_
  refine ltzg (v' := (mkH' X h mkX_294)) rfl ?_
  refine gdg (mk_k1 (i := 121) hz (by decide +kernel)) ?_
  refine ltzg (v' := (mkH' X h mkX_295)) rfl ?_
  refine ltzg (v' := X + 129) (mk_zz hz (by decide +kernel)) ?_
  refine ltzg (v' := (mkH' X h mkX_296)) rfl ?_
  refine gdg (mk_k1 (i := 121) hz (by decide +kernel)) ?_
  refine ltzg (v' := (mkH' X h mkX_297)) rfl ?_
  refine ltzg (v' := X + 130) (mk_zz hz (by decide +kernel)) ?_
  refine ltzg (v' := (mkH' X h mkX_298)) rfl ?_
  refine gdg (mk_k1 (i := 121) hz (by decide +kernel)) ?_
  refine ltzg (v' := (mkH' X h mkX_299)) rfl ?_
  refine ltzg (v' := X + 131) (mk_zz hz (by decide +kernel)) ?_
  refine ltzg (v' := (mkH' X h mkX_300)) rfl ?_
  refine gdg (mk_k1 (i := 121) hz (by decide +kernel)) ?_
  refine ltzg (v' := (mkH' X h mkX_301)) rfl ?_
  refine ltzg (v' := X + 132) (mk_zz hz (by decide +kernel)) ?_
  refine ltzg (v' := (mkH' X h mkX_302)) rfl ?_
  refine gdg (mk_k1 (i := 121) hz (by decide +kernel)) ?_
  refine ltzg (v' := (mkH' X h mkX_303)) rfl ?_
  refine ltzg (v' := X + 133) (mk_zz hz (by decide +kernel)) ?_
  refine ltzg (v' := (mkH' X h mkX_304)) rfl ?_
  refine gdg (mk_k1 (i := 121) hz (by decide +kernel)) ?_
  refine ltzg (v' := (mkH' X h mkX_305)) rfl ?_
  refine ltzg (v' := X + 134) (mk_zz hz (by decide +kernel)) ?_
  refine ltzg (v' := (mkH' X h mkX_306)) rfl ?_
  refine gdg (mk_k1 (i := 121) hz (by decide +kernel)) ?_
  refine ltzg (v' := (mkH' X h mkX_307)) rfl ?_
  refine ltzg (v' := X + 135) (mk_zz hz (by decide +kernel)) ?_
  refine ltzg (v' := (mkH' X h mkX_308)) rfl ?_
  refine gdg (mk_k1 (i := 121) hz (by decide +kernel)) ?_
  refine ltzg (v' := (mkH' X h mkX_309)) rfl ?_
  refine ltzg (v' := X + 136) (mk_zz hz (by decide +kernel)) ?_
  refine ltzg (v' := (mkH' X h mkX_310)) rfl ?_
  refine gdg (mk_k1 (i := 121) hz (by decide +kernel)) ?_
  refine ltzg (v' := (mkH' X h mkX_311)) rfl ?_
  refine ltzg (v' := X + 137) (mk_zz hz (by decide +kernel)) ?_
  refine ltzg (v' := (mkH' X h mkX_312)) rfl ?_
  refine gdg (mk_k1 (i := 121) hz (by decide +kernel)) ?_
  refine ltzg (v' := (mkH' X h mkX_313)) rfl ?_
  refine ltzg (v' := X + 138) (mk_zz hz (by decide +kernel)) ?_
  refine ltzg (v' := (mkH' X h mkX_314)) rfl ?_
  refine gdg (mk_k1 (i := 121) hz (by decide +kernel)) ?_
  refine ltzg (v' := (mkH' X h mkX_315)) rfl ?_
  refine ltzg (v' := X + 139) (mk_zz hz (by decide +kernel)) ?_
  refine ltzg (v' := (mkH' X h mkX_316)) rfl ?_
  refine gdg (mk_k1 (i := 121) hz (by decide +kernel)) ?_
  refine ltzg (v' := (mkH' X h mkX_317)) rfl ?_
  refine ltzg (v' := X + 140) (mk_zz hz (by decide +kernel)) ?_
  refine ltzg (v' := (mkH' X h mkX_318)) rfl ?_
  refine gdg (mk_k1 (i := 121) hz (by decide +kernel)) ?_
  refine ltzg (v' := (mkH' X h mkX_319)) rfl ?_
  refine ltzg (v' := X + 141) (mk_zz hz (by decide +kernel)) ?_
  refine ltzg (v' := (mkH' X h mkX_320)) rfl ?_
  refine gdg (mk_k1 (i := 121) hz (by decide +kernel)) ?_
  refine ltzg (v' := (mkH' X h mkX_321)) rfl ?_
  refine ltzg (v' := X + 142) (mk_zz hz (by decide +kernel)) ?_
  refine ltzg (v' := (mkH' X h mkX_322)) rfl ?_
  refine gdg (mk_k1 (i := 121) hz (by decide +kernel)) ?_
  refine ltzg (v' := (mkH' X h mkX_323)) rfl ?_
  refine ltzg (v' := X + 143) (mk_zz hz (by decide +kernel)) ?_
  refine ltzg (v' := (mkH' X h mkX_324)) rfl ?_
  refine gdg (mk_k1 (i := 121) hz (by decide +kernel)) ?_
  refine ltzg (v' := (mkH' X h mkX_325)) rfl ?_
  rw [show FU = 999980 + 20 from rfl]
  rw [fX12_init_b200.eq_2]
  refine iteT (by decide) ?_
  refine gdg (mk_k1 (i := 121) hz (by decide +kernel)) ?_
  refine nng (mk_rr (i := 121) (j := 123) hz (by decide +kernel)) ?_
  refine gdg (mk_k1 (i := 123) hz (by decide +kernel)) ?_
  refine gdg (by rw [mk_kk (i := 123) (k := (21, 4)) hz (by decide +kernel)]; exact ⟨by decide, by decide⟩) ?_
  refine ltzg (v' := (mkH' X h mkX_326)) rfl ?_
  refine ltzg (v' := 1) (by decide +kernel) ?_
  rw [fX12_init_b200.eq_2]
  refine iteT (by decide) ?_
  refine gdg (mk_k1 (i := 121) hz (by decide +kernel)) ?_
  refine nng (mk_rr (i := 121) (j := 123) hz (by decide +kernel)) ?_
  refine gdg (mk_k1 (i := 123) hz (by decide +kernel)) ?_
  refine gdg (by rw [mk_kk (i := 123) (k := (21, 4)) hz (by decide +kernel)]; exact ⟨by decide, by decide⟩) ?_
  refine ltzg (v' := (mkH' X h mkX_327)) rfl ?_
  refine ltzg (v' := 2) (by decide +kernel) ?_
  rw [fX12_init_b200.eq_2]
  refine iteT (by decide) ?_
  refine gdg (mk_k1 (i := 121) hz (by decide +kernel)) ?_
  refine nng (mk_rr (i := 121) (j := 123) hz (by decide +kernel)) ?_
  refine gdg (mk_k1 (i := 123) hz (by decide +kernel)) ?_
  refine gdg (by rw [mk_kk (i := 123) (k := (21, 4)) hz (by decide +kernel)]; exact ⟨by decide, by decide⟩) ?_
  refine ltzg (v' := (mkH' X h mkX_328)) rfl ?_
  refine ltzg (v' := 3) (by decide +kernel) ?_
  rw [fX12_init_b200.eq_2]
  refine iteT (by decide) ?_
  refine gdg (mk_k1 (i := 121) hz (by decide +kernel)) ?_
  refine nng (mk_rr (i := 121) (j := 123) hz (by decide +kernel)) ?_
  refine gdg (mk_k1 (i := 123) hz (by decide +kernel)) ?_
  refine gdg (by rw [mk_kk (i := 123) (k := (21, 4)) hz (by decide +kernel)]; exact ⟨by decide, by decide⟩) ?_
  refine ltzg (v' := (mkH' X h mkX_329)) rfl ?_
  refine ltzg (v' := 4) (by decide +kernel) ?_
  rw [fX12_init_b200.eq_2]
  refine iteF (by decide) ?_
  refine gdg (by decide) ?_
  rfl
