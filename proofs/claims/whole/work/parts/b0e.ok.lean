theorem ok258_169 : okL 258 169 c258_169 = true := by decide +kernel
theorem ok258_163 : okL 258 163 c258_163 = true := by decide +kernel
theorem ok258_157 : okL 258 157 c258_157 = true := by decide +kernel
theorem ok258_151 : okL 258 151 c258_151 = true := by decide +kernel
theorem ok258_106 : okL 258 106 c258_106 = true := okl_of (n := 25) (q := 151) (by decide +kernel) rfl ok258_151
theorem ok258_94 : okL 258 94 c258_94 = true := by decide +kernel
theorem ok258_86 : okL 258 86 c258_86 = true := by decide +kernel
theorem ok258_72 : okL 258 72 c258_72 = true := okl_of (n := 10) (q := 86) (by decide +kernel) rfl ok258_86
theorem ok258_44 : okL 258 44 c258_44 = true := by decide +kernel
theorem ok258_31 : okL 258 31 c258_31 = true := by decide +kernel
theorem ok258_0 : okL 258 0 c258_0 = true := by decide +kernel
theorem okk258 (t : Nat) : okL 258 t (k258 t).2 = true := (oknd (oknd (oknd (oklf ok258_0 t) (oklf ok258_31 t)) (oknd (oklf ok258_44 t) (oknd (oklf ok258_72 t) (oklf ok258_86 t)))) (oknd (oknd (oklf ok258_94 t) (oknd (oklf ok258_106 t) (oklf ok258_151 t))) (oknd (oklf ok258_157 t) (oknd (oklf ok258_163 t) (oklf ok258_169 t)))))
theorem ok259_40 : okL 259 40 c259_40 = true := by decide +kernel
theorem ok259_37 : okL 259 37 c259_37 = true := okl_of (n := 3) (q := 40) (by decide +kernel) rfl ok259_40
theorem ok259_0 : okL 259 0 c259_0 = true := by decide +kernel
theorem okk259 (t : Nat) : okL 259 t (k259 t).2 = true := (oknd (oklf ok259_0 t) (oknd (oklf ok259_37 t) (oklf ok259_40 t)))
theorem ok260_271 : okL 260 271 c260_271 = true := by decide +kernel
theorem ok260_211 : okL 260 211 c260_211 = true := by decide +kernel
theorem ok260_161 : okL 260 161 c260_161 = true := by decide +kernel
theorem ok260_153 : okL 260 153 c260_153 = true := okl_of (n := 4) (q := 161) (by decide +kernel) rfl ok260_161
theorem ok260_100 : okL 260 100 c260_100 = true := by decide +kernel
theorem ok260_94 : okL 260 94 c260_94 = true := by decide +kernel
theorem ok260_86 : okL 260 86 c260_86 = true := okl_of (n := 4) (q := 94) (by decide +kernel) rfl ok260_94
theorem ok260_50 : okL 260 50 c260_50 = true := okl_of (n := 17) (q := 86) (by decide +kernel) rfl ok260_86
theorem ok260_40 : okL 260 40 c260_40 = true := by decide +kernel
theorem ok260_0 : okL 260 0 c260_0 = true := by decide +kernel
theorem okk260 (t : Nat) : okL 260 t (k260 t).2 = true := (oknd (oknd (oknd (oklf ok260_0 t) (oklf ok260_40 t)) (oknd (oklf ok260_50 t) (oknd (oklf ok260_86 t) (oklf ok260_94 t)))) (oknd (oknd (oklf ok260_100 t) (oklf ok260_153 t)) (oknd (oklf ok260_161 t) (oknd (oklf ok260_211 t) (oklf ok260_271 t)))))
theorem ok261_149 : okL 261 149 c261_149 = true := by decide +kernel
theorem ok261_78 : okL 261 78 c261_78 = true := by decide +kernel
theorem ok261_74 : okL 261 74 c261_74 = true := by decide +kernel
theorem ok261_73 : okL 261 73 c261_73 = true := okl_of (n := 1) (q := 74) (by decide +kernel) rfl ok261_74
theorem ok261_50 : okL 261 50 c261_50 = true := by decide +kernel
theorem ok261_49 : okL 261 49 c261_49 = true := okl_of (n := 1) (q := 50) (by decide +kernel) rfl ok261_50
theorem ok261_0 : okL 261 0 c261_0 = true := by decide +kernel
theorem okk261 (t : Nat) : okL 261 t (k261 t).2 = true := (oknd (oknd (oklf ok261_0 t) (oknd (oklf ok261_49 t) (oklf ok261_50 t))) (oknd (oknd (oklf ok261_73 t) (oklf ok261_74 t)) (oknd (oklf ok261_78 t) (oklf ok261_149 t))))
theorem ok262_40 : okL 262 40 c262_40 = true := by decide +kernel
theorem ok262_39 : okL 262 39 c262_39 = true := okl_of (n := 1) (q := 40) (by decide +kernel) rfl ok262_40
theorem ok262_29 : okL 262 29 c262_29 = true := by decide +kernel
theorem ok262_17 : okL 262 17 c262_17 = true := okl_of (n := 6) (q := 29) (by decide +kernel) rfl ok262_29
theorem ok262_0 : okL 262 0 c262_0 = true := by decide +kernel
theorem okk262 (t : Nat) : okL 262 t (k262 t).2 = true := (oknd (oknd (oklf ok262_0 t) (oklf ok262_17 t)) (oknd (oklf ok262_29 t) (oknd (oklf ok262_39 t) (oklf ok262_40 t))))
theorem ok263_133 : okL 263 133 c263_133 = true := by decide +kernel
theorem ok263_132 : okL 263 132 c263_132 = true := by decide +kernel
theorem ok263_131 : okL 263 131 c263_131 = true := okl_of (n := 1) (q := 132) (by decide +kernel) rfl ok263_132
theorem ok263_117 : okL 263 117 c263_117 = true := by decide +kernel
theorem ok263_115 : okL 263 115 c263_115 = true := by decide +kernel
theorem ok263_101 : okL 263 101 c263_101 = true := by decide +kernel
theorem ok263_81 : okL 263 81 c263_81 = true := by decide +kernel
theorem ok263_68 : okL 263 68 c263_68 = true := by decide +kernel
theorem ok263_0 : okL 263 0 c263_0 = true := by decide +kernel
theorem okk263 (t : Nat) : okL 263 t (k263 t).2 = true := (oknd (oknd (oknd (oklf ok263_0 t) (oklf ok263_68 t)) (oknd (oklf ok263_81 t) (oklf ok263_101 t))) (oknd (oknd (oklf ok263_115 t) (oklf ok263_117 t)) (oknd (oklf ok263_131 t) (oknd (oklf ok263_132 t) (oklf ok263_133 t)))))
theorem ok264_85 : okL 264 85 c264_85 = true := by decide +kernel
theorem ok264_79 : okL 264 79 c264_79 = true := by decide +kernel
theorem ok264_51 : okL 264 51 c264_51 = true := okl_of (n := 16) (q := 79) (by decide +kernel) rfl ok264_79
theorem ok264_47 : okL 264 47 c264_47 = true := by decide +kernel
theorem ok264_10 : okL 264 10 c264_10 = true := by decide +kernel
theorem ok264_0 : okL 264 0 c264_0 = true := by decide +kernel
theorem okk264 (t : Nat) : okL 264 t (k264 t).2 = true := (oknd (oknd (oklf ok264_0 t) (oknd (oklf ok264_10 t) (oklf ok264_47 t))) (oknd (oklf ok264_51 t) (oknd (oklf ok264_79 t) (oklf ok264_85 t))))
theorem ok265_0 : okL 265 0 c265_0 = true := by decide +kernel
theorem okk265 (t : Nat) : okL 265 t (k265 t).2 = true := (oklf ok265_0 t)
theorem ok266_102 : okL 266 102 c266_102 = true := by decide +kernel
theorem ok266_96 : okL 266 96 c266_96 = true := by decide +kernel
theorem ok266_88 : okL 266 88 c266_88 = true := okl_of (n := 4) (q := 96) (by decide +kernel) rfl ok266_96
theorem ok266_30 : okL 266 30 c266_30 = true := okl_of (n := 31) (q := 88) (by decide +kernel) rfl ok266_88
theorem ok266_19 : okL 266 19 c266_19 = true := by decide +kernel
theorem ok266_15 : okL 266 15 c266_15 = true := okl_of (n := 2) (q := 19) (by decide +kernel) rfl ok266_19
theorem ok266_0 : okL 266 0 c266_0 = true := by decide +kernel
theorem okk266 (t : Nat) : okL 266 t (k266 t).2 = true := (oknd (oknd (oklf ok266_0 t) (oknd (oklf ok266_15 t) (oklf ok266_19 t))) (oknd (oknd (oklf ok266_30 t) (oklf ok266_88 t)) (oknd (oklf ok266_96 t) (oklf ok266_102 t))))
theorem ok267_0 : okL 267 0 c267_0 = true := by decide +kernel
theorem okk267 (t : Nat) : okL 267 t (k267 t).2 = true := (oklf ok267_0 t)
theorem ok268_123 : okL 268 123 c268_123 = true := by decide +kernel
theorem ok268_49 : okL 268 49 c268_49 = true := okl_of (n := 40) (q := 123) (by decide +kernel) rfl ok268_123
theorem ok268_30 : okL 268 30 c268_30 = true := okl_of (n := 12) (q := 49) (by decide +kernel) rfl ok268_49
theorem ok268_0 : okL 268 0 c268_0 = true := by decide +kernel
theorem okk268 (t : Nat) : okL 268 t (k268 t).2 = true := (oknd (oknd (oklf ok268_0 t) (oklf ok268_30 t)) (oknd (oklf ok268_49 t) (oklf ok268_123 t)))
theorem ok269_98 : okL 269 98 c269_98 = true := by decide +kernel
theorem ok269_92 : okL 269 92 c269_92 = true := by decide +kernel
theorem ok269_17 : okL 269 17 c269_17 = true := okl_of (n := 45) (q := 92) (by decide +kernel) rfl ok269_92
theorem ok269_0 : okL 269 0 c269_0 = true := by decide +kernel
theorem okk269 (t : Nat) : okL 269 t (k269 t).2 = true := (oknd (oknd (oklf ok269_0 t) (oklf ok269_17 t)) (oknd (oklf ok269_92 t) (oklf ok269_98 t)))
theorem ok270_14 : okL 270 14 c270_14 = true := by decide +kernel
theorem ok270_13 : okL 270 13 c270_13 = true := okl_of (n := 1) (q := 14) (by decide +kernel) rfl ok270_14
theorem ok270_0 : okL 270 0 c270_0 = true := by decide +kernel
theorem okk270 (t : Nat) : okL 270 t (k270 t).2 = true := (oknd (oklf ok270_0 t) (oknd (oklf ok270_13 t) (oklf ok270_14 t)))
theorem ok271_14 : okL 271 14 c271_14 = true := by decide +kernel
theorem ok271_11 : okL 271 11 c271_11 = true := okl_of (n := 3) (q := 14) (by decide +kernel) rfl ok271_14
theorem ok271_0 : okL 271 0 c271_0 = true := by decide +kernel
theorem okk271 (t : Nat) : okL 271 t (k271 t).2 = true := (oknd (oklf ok271_0 t) (oknd (oklf ok271_11 t) (oklf ok271_14 t)))
theorem ok272_0 : okL 272 0 c272_0 = true := by decide +kernel
theorem okk272 (t : Nat) : okL 272 t (k272 t).2 = true := (oklf ok272_0 t)
theorem ok273_0 : okL 273 0 c273_0 = true := by decide +kernel
theorem okk273 (t : Nat) : okL 273 t (k273 t).2 = true := (oklf ok273_0 t)
theorem ok274_49 : okL 274 49 c274_49 = true := by decide +kernel
theorem ok274_43 : okL 274 43 c274_43 = true := by decide +kernel
theorem ok274_3 : okL 274 3 c274_3 = true := okl_of (n := 22) (q := 43) (by decide +kernel) rfl ok274_43
theorem ok274_0 : okL 274 0 c274_0 = true := by decide +kernel
theorem okk274 (t : Nat) : okL 274 t (k274 t).2 = true := (oknd (oknd (oklf ok274_0 t) (oklf ok274_3 t)) (oknd (oklf ok274_43 t) (oklf ok274_49 t)))
theorem ok275_0 : okL 275 0 c275_0 = true := by decide +kernel
theorem okk275 (t : Nat) : okL 275 t (k275 t).2 = true := (oklf ok275_0 t)
theorem ok276_253 : okL 276 253 c276_253 = true := by decide +kernel
theorem ok276_250 : okL 276 250 c276_250 = true := okl_of (n := 1) (q := 253) (by decide +kernel) rfl ok276_253
theorem ok276_246 : okL 276 246 c276_246 = true := okl_of (n := 2) (q := 250) (by decide +kernel) rfl ok276_250
theorem ok276_222 : okL 276 222 c276_222 = true := by decide +kernel
theorem ok276_221 : okL 276 221 c276_221 = true := okl_of (n := 1) (q := 222) (by decide +kernel) rfl ok276_222
theorem ok276_194 : okL 276 194 c276_194 = true := by decide +kernel
theorem ok276_147 : okL 276 147 c276_147 = true := by decide +kernel
theorem ok276_144 : okL 276 144 c276_144 = true := by decide +kernel
theorem ok276_143 : okL 276 143 c276_143 = true := okl_of (n := 1) (q := 144) (by decide +kernel) rfl ok276_144
theorem ok276_127 : okL 276 127 c276_127 = true := by decide +kernel
theorem ok276_59 : okL 276 59 c276_59 = true := by decide +kernel
theorem ok276_46 : okL 276 46 c276_46 = true := by decide +kernel
theorem ok276_8 : okL 276 8 c276_8 = true := by decide +kernel
theorem ok276_0 : okL 276 0 c276_0 = true := by decide +kernel
theorem okk276 (t : Nat) : okL 276 t (k276 t).2 = true := (oknd (oknd (oknd (oklf ok276_0 t) (oknd (oklf ok276_8 t) (oklf ok276_46 t))) (oknd (oknd (oklf ok276_59 t) (oklf ok276_127 t)) (oknd (oklf ok276_143 t) (oklf ok276_144 t)))) (oknd (oknd (oklf ok276_147 t) (oknd (oklf ok276_194 t) (oklf ok276_221 t))) (oknd (oknd (oklf ok276_222 t) (oklf ok276_246 t)) (oknd (oklf ok276_250 t) (oklf ok276_253 t)))))
theorem ok277_17 : okL 277 17 c277_17 = true := by decide +kernel
theorem ok277_16 : okL 277 16 c277_16 = true := okl_of (n := 1) (q := 17) (by decide +kernel) rfl ok277_17
theorem ok277_0 : okL 277 0 c277_0 = true := by decide +kernel
theorem okk277 (t : Nat) : okL 277 t (k277 t).2 = true := (oknd (oklf ok277_0 t) (oknd (oklf ok277_16 t) (oklf ok277_17 t)))
theorem ok278_17 : okL 278 17 c278_17 = true := by decide +kernel
theorem ok278_16 : okL 278 16 c278_16 = true := okl_of (n := 1) (q := 17) (by decide +kernel) rfl ok278_17
theorem ok278_0 : okL 278 0 c278_0 = true := by decide +kernel
theorem okk278 (t : Nat) : okL 278 t (k278 t).2 = true := (oknd (oklf ok278_0 t) (oknd (oklf ok278_16 t) (oklf ok278_17 t)))
theorem ok279_63 : okL 279 63 c279_63 = true := by decide +kernel
theorem ok279_57 : okL 279 57 c279_57 = true := by decide +kernel
theorem ok279_28 : okL 279 28 c279_28 = true := by decide +kernel
theorem ok279_26 : okL 279 26 c279_26 = true := by decide +kernel
theorem ok279_24 : okL 279 24 c279_24 = true := by decide +kernel
theorem ok279_0 : okL 279 0 c279_0 = true := okl_of (n := 12) (q := 24) (by decide +kernel) rfl ok279_24
theorem okk279 (t : Nat) : okL 279 t (k279 t).2 = true := (oknd (oknd (oklf ok279_0 t) (oknd (oklf ok279_24 t) (oklf ok279_26 t))) (oknd (oklf ok279_28 t) (oknd (oklf ok279_57 t) (oklf ok279_63 t))))
theorem ok280_26 : okL 280 26 c280_26 = true := by decide +kernel
theorem ok280_25 : okL 280 25 c280_25 = true := okl_of (n := 1) (q := 26) (by decide +kernel) rfl ok280_26
theorem ok280_0 : okL 280 0 c280_0 = true := by decide +kernel
theorem okk280 (t : Nat) : okL 280 t (k280 t).2 = true := (oknd (oklf ok280_0 t) (oknd (oklf ok280_25 t) (oklf ok280_26 t)))
theorem ok281_0 : okL 281 0 c281_0 = true := by decide +kernel
theorem okk281 (t : Nat) : okL 281 t (k281 t).2 = true := (oklf ok281_0 t)
theorem ok282_43 : okL 282 43 c282_43 = true := by decide +kernel
theorem ok282_42 : okL 282 42 c282_42 = true := okl_of (n := 1) (q := 43) (by decide +kernel) rfl ok282_43
theorem ok282_38 : okL 282 38 c282_38 = true := by decide +kernel
theorem ok282_30 : okL 282 30 c282_30 = true := okl_of (n := 4) (q := 38) (by decide +kernel) rfl ok282_38
theorem ok282_14 : okL 282 14 c282_14 = true := okl_of (n := 8) (q := 30) (by decide +kernel) rfl ok282_30
theorem ok282_0 : okL 282 0 c282_0 = true := by decide +kernel
theorem okk282 (t : Nat) : okL 282 t (k282 t).2 = true := (oknd (oknd (oklf ok282_0 t) (oknd (oklf ok282_14 t) (oklf ok282_30 t))) (oknd (oklf ok282_38 t) (oknd (oklf ok282_42 t) (oklf ok282_43 t))))
theorem ok283_14 : okL 283 14 c283_14 = true := by decide +kernel
theorem ok283_0 : okL 283 0 c283_0 = true := by decide +kernel
theorem okk283 (t : Nat) : okL 283 t (k283 t).2 = true := (oknd (oklf ok283_0 t) (oklf ok283_14 t))
theorem ok284_0 : okL 284 0 c284_0 = true := by decide +kernel
theorem okk284 (t : Nat) : okL 284 t (k284 t).2 = true := (oklf ok284_0 t)
theorem ok285_19 : okL 285 19 c285_19 = true := by decide +kernel
theorem ok285_0 : okL 285 0 c285_0 = true := by decide +kernel
theorem okk285 (t : Nat) : okL 285 t (k285 t).2 = true := (oknd (oklf ok285_0 t) (oklf ok285_19 t))
theorem ok286_39 : okL 286 39 c286_39 = true := by decide +kernel
theorem ok286_38 : okL 286 38 c286_38 = true := okl_of (n := 1) (q := 39) (by decide +kernel) rfl ok286_39
theorem ok286_28 : okL 286 28 c286_28 = true := by decide +kernel
theorem ok286_9 : okL 286 9 c286_9 = true := okl_of (n := 12) (q := 28) (by decide +kernel) rfl ok286_28
theorem ok286_0 : okL 286 0 c286_0 = true := by decide +kernel
theorem okk286 (t : Nat) : okL 286 t (k286 t).2 = true := (oknd (oknd (oklf ok286_0 t) (oklf ok286_9 t)) (oknd (oklf ok286_28 t) (oknd (oklf ok286_38 t) (oklf ok286_39 t))))
theorem ok287_21 : okL 287 21 c287_21 = true := by decide +kernel
theorem ok287_20 : okL 287 20 c287_20 = true := okl_of (n := 1) (q := 21) (by decide +kernel) rfl ok287_21
theorem ok287_0 : okL 287 0 c287_0 = true := by decide +kernel
theorem okk287 (t : Nat) : okL 287 t (k287 t).2 = true := (oknd (oklf ok287_0 t) (oknd (oklf ok287_20 t) (oklf ok287_21 t)))
theorem ok288_88 : okL 288 88 c288_88 = true := by decide +kernel
theorem ok288_82 : okL 288 82 c288_82 = true := by decide +kernel
theorem ok288_23 : okL 288 23 c288_23 = true := by decide +kernel
theorem ok288_0 : okL 288 0 c288_0 = true := by decide +kernel
theorem okk288 (t : Nat) : okL 288 t (k288 t).2 = true := (oknd (oknd (oklf ok288_0 t) (oklf ok288_23 t)) (oknd (oklf ok288_82 t) (oklf ok288_88 t)))
theorem ok289_218 : okL 289 218 c289_218 = true := by decide +kernel
theorem ok289_194 : okL 289 194 c289_194 = true := by decide +kernel
theorem ok289_192 : okL 289 192 c289_192 = true := okl_of (n := 1) (q := 194) (by decide +kernel) rfl ok289_194
theorem ok289_176 : okL 289 176 c289_176 = true := by decide +kernel
theorem ok289_174 : okL 289 174 c289_174 = true := okl_of (n := 1) (q := 176) (by decide +kernel) rfl ok289_176
theorem ok289_173 : okL 289 173 c289_173 = true := okl_of (n := 1) (q := 174) (by decide +kernel) rfl ok289_174
theorem ok289_135 : okL 289 135 c289_135 = true := by decide +kernel
theorem ok289_124 : okL 289 124 c289_124 = true := okl_of (n := 6) (q := 135) (by decide +kernel) rfl ok289_135
theorem ok289_88 : okL 289 88 c289_88 = true := by decide +kernel
theorem ok289_29 : okL 289 29 c289_29 = true := by decide +kernel
theorem ok289_0 : okL 289 0 c289_0 = true := by decide +kernel
theorem okk289 (t : Nat) : okL 289 t (k289 t).2 = true := (oknd (oknd (oknd (oklf ok289_0 t) (oklf ok289_29 t)) (oknd (oklf ok289_88 t) (oknd (oklf ok289_124 t) (oklf ok289_135 t)))) (oknd (oknd (oklf ok289_173 t) (oknd (oklf ok289_174 t) (oklf ok289_176 t))) (oknd (oklf ok289_192 t) (oknd (oklf ok289_194 t) (oklf ok289_218 t)))))
theorem ok290_124 : okL 290 124 c290_124 = true := by decide +kernel
theorem ok290_92 : okL 290 92 c290_92 = true := by decide +kernel
theorem ok290_69 : okL 290 69 c290_69 = true := by decide +kernel
theorem ok290_54 : okL 290 54 c290_54 = true := by decide +kernel
theorem ok290_44 : okL 290 44 c290_44 = true := okl_of (n := 6) (q := 54) (by decide +kernel) rfl ok290_54
theorem ok290_22 : okL 290 22 c290_22 = true := by decide +kernel
theorem ok290_0 : okL 290 0 c290_0 = true := by decide +kernel
theorem okk290 (t : Nat) : okL 290 t (k290 t).2 = true := (oknd (oknd (oklf ok290_0 t) (oknd (oklf ok290_22 t) (oklf ok290_44 t))) (oknd (oknd (oklf ok290_54 t) (oklf ok290_69 t)) (oknd (oklf ok290_92 t) (oklf ok290_124 t))))
theorem ok291_209 : okL 291 209 c291_209 = true := by decide +kernel
theorem ok291_179 : okL 291 179 c291_179 = true := by decide +kernel
theorem ok291_107 : okL 291 107 c291_107 = true := by decide +kernel
theorem ok291_106 : okL 291 106 c291_106 = true := okl_of (n := 1) (q := 107) (by decide +kernel) rfl ok291_107
theorem ok291_89 : okL 291 89 c291_89 = true := by decide +kernel
theorem ok291_88 : okL 291 88 c291_88 = true := okl_of (n := 1) (q := 89) (by decide +kernel) rfl ok291_89
theorem ok291_30 : okL 291 30 c291_30 = true := by decide +kernel
theorem ok291_0 : okL 291 0 c291_0 = true := by decide +kernel
theorem okk291 (t : Nat) : okL 291 t (k291 t).2 = true := (oknd (oknd (oknd (oklf ok291_0 t) (oklf ok291_30 t)) (oknd (oklf ok291_88 t) (oklf ok291_89 t))) (oknd (oknd (oklf ok291_106 t) (oklf ok291_107 t)) (oknd (oklf ok291_179 t) (oklf ok291_209 t))))
theorem ok292_0 : okL 292 0 c292_0 = true := by decide +kernel
theorem okk292 (t : Nat) : okL 292 t (k292 t).2 = true := (oklf ok292_0 t)
theorem ok293_229 : okL 293 229 c293_229 = true := by decide +kernel
theorem ok293_223 : okL 293 223 c293_223 = true := by decide +kernel
theorem ok293_217 : okL 293 217 c293_217 = true := by decide +kernel
theorem ok293_211 : okL 293 211 c293_211 = true := by decide +kernel
theorem ok293_171 : okL 293 171 c293_171 = true := okl_of (n := 20) (q := 211) (by decide +kernel) rfl ok293_211
theorem ok293_148 : okL 293 148 c293_148 = true := okl_of (n := 12) (q := 171) (by decide +kernel) rfl ok293_171
theorem ok293_130 : okL 293 130 c293_130 = true := okl_of (n := 8) (q := 148) (by decide +kernel) rfl ok293_148
theorem ok293_120 : okL 293 120 c293_120 = true := okl_of (n := 6) (q := 130) (by decide +kernel) rfl ok293_130
theorem ok293_109 : okL 293 109 c293_109 = true := by decide +kernel
theorem ok293_78 : okL 293 78 c293_78 = true := by decide +kernel
theorem ok293_73 : okL 293 73 c293_73 = true := by decide +kernel
theorem ok293_63 : okL 293 63 c293_63 = true := okl_of (n := 6) (q := 73) (by decide +kernel) rfl ok293_73
theorem ok293_39 : okL 293 39 c293_39 = true := by decide +kernel
theorem ok293_12 : okL 293 12 c293_12 = true := by decide +kernel
theorem ok293_0 : okL 293 0 c293_0 = true := by decide +kernel
theorem okk293 (t : Nat) : okL 293 t (k293 t).2 = true := (oknd (oknd (oknd (oklf ok293_0 t) (oknd (oklf ok293_12 t) (oklf ok293_39 t))) (oknd (oknd (oklf ok293_63 t) (oklf ok293_73 t)) (oknd (oklf ok293_78 t) (oklf ok293_109 t)))) (oknd (oknd (oknd (oklf ok293_120 t) (oklf ok293_130 t)) (oknd (oklf ok293_148 t) (oklf ok293_171 t))) (oknd (oknd (oklf ok293_211 t) (oklf ok293_217 t)) (oknd (oklf ok293_223 t) (oklf ok293_229 t)))))
theorem ok294_114 : okL 294 114 c294_114 = true := by decide +kernel
theorem ok294_108 : okL 294 108 c294_108 = true := by decide +kernel
theorem ok294_90 : okL 294 90 c294_90 = true := okl_of (n := 9) (q := 108) (by decide +kernel) rfl ok294_108
theorem ok294_84 : okL 294 84 c294_84 = true := by decide +kernel
theorem ok294_41 : okL 294 41 c294_41 = true := by decide +kernel
theorem ok294_28 : okL 294 28 c294_28 = true := by decide +kernel
theorem ok294_0 : okL 294 0 c294_0 = true := by decide +kernel
theorem okk294 (t : Nat) : okL 294 t (k294 t).2 = true := (oknd (oknd (oklf ok294_0 t) (oknd (oklf ok294_28 t) (oklf ok294_41 t))) (oknd (oknd (oklf ok294_84 t) (oklf ok294_90 t)) (oknd (oklf ok294_108 t) (oklf ok294_114 t))))
theorem ok295_72 : okL 295 72 c295_72 = true := by decide +kernel
theorem ok295_58 : okL 295 58 c295_58 = true := by decide +kernel
theorem ok295_34 : okL 295 34 c295_34 = true := okl_of (n := 13) (q := 58) (by decide +kernel) rfl ok295_58
theorem ok295_0 : okL 295 0 c295_0 = true := by decide +kernel
theorem okk295 (t : Nat) : okL 295 t (k295 t).2 = true := (oknd (oknd (oklf ok295_0 t) (oklf ok295_34 t)) (oknd (oklf ok295_58 t) (oklf ok295_72 t)))
theorem ok296_158 : okL 296 158 c296_158 = true := by decide +kernel
theorem ok296_152 : okL 296 152 c296_152 = true := by decide +kernel
theorem ok296_146 : okL 296 146 c296_146 = true := by decide +kernel
theorem ok296_140 : okL 296 140 c296_140 = true := by decide +kernel
theorem ok296_108 : okL 296 108 c296_108 = true := by decide +kernel
theorem ok296_80 : okL 296 80 c296_80 = true := by decide +kernel
theorem ok296_70 : okL 296 70 c296_70 = true := by decide +kernel
theorem ok296_60 : okL 296 60 c296_60 = true := okl_of (n := 6) (q := 70) (by decide +kernel) rfl ok296_70
theorem ok296_37 : okL 296 37 c296_37 = true := by decide +kernel
theorem ok296_11 : okL 296 11 c296_11 = true := by decide +kernel
theorem ok296_0 : okL 296 0 c296_0 = true := by decide +kernel
theorem okk296 (t : Nat) : okL 296 t (k296 t).2 = true := (oknd (oknd (oknd (oklf ok296_0 t) (oklf ok296_11 t)) (oknd (oklf ok296_37 t) (oknd (oklf ok296_60 t) (oklf ok296_70 t)))) (oknd (oknd (oklf ok296_80 t) (oknd (oklf ok296_108 t) (oklf ok296_140 t))) (oknd (oklf ok296_146 t) (oknd (oklf ok296_152 t) (oklf ok296_158 t)))))
theorem ok297_144 : okL 297 144 c297_144 = true := by decide +kernel
theorem ok297_138 : okL 297 138 c297_138 = true := by decide +kernel
theorem ok297_132 : okL 297 132 c297_132 = true := by decide +kernel
theorem ok297_126 : okL 297 126 c297_126 = true := by decide +kernel
theorem ok297_89 : okL 297 89 c297_89 = true := okl_of (n := 20) (q := 126) (by decide +kernel) rfl ok297_126
theorem ok297_77 : okL 297 77 c297_77 = true := by decide +kernel
theorem ok297_66 : okL 297 66 c297_66 = true := by decide +kernel
theorem ok297_0 : okL 297 0 c297_0 = true := by decide +kernel
theorem okk297 (t : Nat) : okL 297 t (k297 t).2 = true := (oknd (oknd (oknd (oklf ok297_0 t) (oklf ok297_66 t)) (oknd (oklf ok297_77 t) (oklf ok297_89 t))) (oknd (oknd (oklf ok297_126 t) (oklf ok297_132 t)) (oknd (oklf ok297_138 t) (oklf ok297_144 t))))
theorem ok298_127 : okL 298 127 c298_127 = true := by decide +kernel
theorem ok298_125 : okL 298 125 c298_125 = true := okl_of (n := 1) (q := 127) (by decide +kernel) rfl ok298_127
theorem ok298_72 : okL 298 72 c298_72 = true := by decide +kernel
theorem ok298_0 : okL 298 0 c298_0 = true := by decide +kernel
theorem okk298 (t : Nat) : okL 298 t (k298 t).2 = true := (oknd (oknd (oklf ok298_0 t) (oklf ok298_72 t)) (oknd (oklf ok298_125 t) (oklf ok298_127 t)))
theorem ok299_15 : okL 299 15 c299_15 = true := by decide +kernel
theorem ok299_12 : okL 299 12 c299_12 = true := by decide +kernel
theorem ok299_0 : okL 299 0 c299_0 = true := by decide +kernel
theorem okk299 (t : Nat) : okL 299 t (k299 t).2 = true := (oknd (oklf ok299_0 t) (oknd (oklf ok299_12 t) (oklf ok299_15 t)))
theorem ok300_15 : okL 300 15 c300_15 = true := by decide +kernel
theorem ok300_12 : okL 300 12 c300_12 = true := by decide +kernel
theorem ok300_0 : okL 300 0 c300_0 = true := by decide +kernel
theorem okk300 (t : Nat) : okL 300 t (k300 t).2 = true := (oknd (oklf ok300_0 t) (oknd (oklf ok300_12 t) (oklf ok300_15 t)))
theorem ok301_15 : okL 301 15 c301_15 = true := by decide +kernel
theorem ok301_12 : okL 301 12 c301_12 = true := by decide +kernel
theorem ok301_0 : okL 301 0 c301_0 = true := by decide +kernel
theorem okk301 (t : Nat) : okL 301 t (k301 t).2 = true := (oknd (oklf ok301_0 t) (oknd (oklf ok301_12 t) (oklf ok301_15 t)))
theorem ok302_21 : okL 302 21 c302_21 = true := by decide +kernel
theorem ok302_17 : okL 302 17 c302_17 = true := by decide +kernel
theorem ok302_13 : okL 302 13 c302_13 = true := by decide +kernel
theorem ok302_0 : okL 302 0 c302_0 = true := by decide +kernel
theorem okk302 (t : Nat) : okL 302 t (k302 t).2 = true := (oknd (oknd (oklf ok302_0 t) (oklf ok302_13 t)) (oknd (oklf ok302_17 t) (oklf ok302_21 t)))
theorem ok303_21 : okL 303 21 c303_21 = true := by decide +kernel
theorem ok303_17 : okL 303 17 c303_17 = true := by decide +kernel
theorem ok303_13 : okL 303 13 c303_13 = true := by decide +kernel
theorem ok303_0 : okL 303 0 c303_0 = true := by decide +kernel
theorem okk303 (t : Nat) : okL 303 t (k303 t).2 = true := (oknd (oknd (oklf ok303_0 t) (oklf ok303_13 t)) (oknd (oklf ok303_17 t) (oklf ok303_21 t)))
theorem ok304_21 : okL 304 21 c304_21 = true := by decide +kernel
theorem ok304_17 : okL 304 17 c304_17 = true := by decide +kernel
theorem ok304_13 : okL 304 13 c304_13 = true := by decide +kernel
theorem ok304_0 : okL 304 0 c304_0 = true := by decide +kernel
theorem okk304 (t : Nat) : okL 304 t (k304 t).2 = true := (oknd (oknd (oklf ok304_0 t) (oklf ok304_13 t)) (oknd (oklf ok304_17 t) (oklf ok304_21 t)))
theorem ok305_17 : okL 305 17 c305_17 = true := by decide +kernel
theorem ok305_13 : okL 305 13 c305_13 = true := by decide +kernel
theorem ok305_0 : okL 305 0 c305_0 = true := by decide +kernel
theorem okk305 (t : Nat) : okL 305 t (k305 t).2 = true := (oknd (oklf ok305_0 t) (oknd (oklf ok305_13 t) (oklf ok305_17 t)))
theorem ok306_21 : okL 306 21 c306_21 = true := by decide +kernel
theorem ok306_17 : okL 306 17 c306_17 = true := by decide +kernel
theorem ok306_13 : okL 306 13 c306_13 = true := by decide +kernel
theorem ok306_0 : okL 306 0 c306_0 = true := by decide +kernel
theorem okk306 (t : Nat) : okL 306 t (k306 t).2 = true := (oknd (oknd (oklf ok306_0 t) (oklf ok306_13 t)) (oknd (oklf ok306_17 t) (oklf ok306_21 t)))
theorem ok307_15 : okL 307 15 c307_15 = true := by decide +kernel
theorem ok307_12 : okL 307 12 c307_12 = true := by decide +kernel
theorem ok307_0 : okL 307 0 c307_0 = true := by decide +kernel
theorem okk307 (t : Nat) : okL 307 t (k307 t).2 = true := (oknd (oklf ok307_0 t) (oknd (oklf ok307_12 t) (oklf ok307_15 t)))
theorem ok308_18 : okL 308 18 c308_18 = true := by decide +kernel
theorem ok308_15 : okL 308 15 c308_15 = true := by decide +kernel
theorem ok308_12 : okL 308 12 c308_12 = true := by decide +kernel
theorem ok308_0 : okL 308 0 c308_0 = true := by decide +kernel
theorem okk308 (t : Nat) : okL 308 t (k308 t).2 = true := (oknd (oknd (oklf ok308_0 t) (oklf ok308_12 t)) (oknd (oklf ok308_15 t) (oklf ok308_18 t)))
theorem ok309_23 : okL 309 23 c309_23 = true := by decide +kernel
theorem ok309_19 : okL 309 19 c309_19 = true := by decide +kernel
theorem ok309_15 : okL 309 15 c309_15 = true := by decide +kernel
theorem ok309_0 : okL 309 0 c309_0 = true := by decide +kernel
theorem okk309 (t : Nat) : okL 309 t (k309 t).2 = true := (oknd (oknd (oklf ok309_0 t) (oklf ok309_15 t)) (oknd (oklf ok309_19 t) (oklf ok309_23 t)))
theorem ok310_23 : okL 310 23 c310_23 = true := by decide +kernel
theorem ok310_19 : okL 310 19 c310_19 = true := by decide +kernel
theorem ok310_15 : okL 310 15 c310_15 = true := by decide +kernel
theorem ok310_0 : okL 310 0 c310_0 = true := by decide +kernel
theorem okk310 (t : Nat) : okL 310 t (k310 t).2 = true := (oknd (oknd (oklf ok310_0 t) (oklf ok310_15 t)) (oknd (oklf ok310_19 t) (oklf ok310_23 t)))
theorem ok311_28 : okL 311 28 c311_28 = true := by decide +kernel
theorem ok311_24 : okL 311 24 c311_24 = true := by decide +kernel
theorem ok311_20 : okL 311 20 c311_20 = true := by decide +kernel
theorem ok311_16 : okL 311 16 c311_16 = true := by decide +kernel
theorem ok311_0 : okL 311 0 c311_0 = true := by decide +kernel
theorem okk311 (t : Nat) : okL 311 t (k311 t).2 = true := (oknd (oknd (oklf ok311_0 t) (oklf ok311_16 t)) (oknd (oklf ok311_20 t) (oknd (oklf ok311_24 t) (oklf ok311_28 t))))
theorem ok312_17 : okL 312 17 c312_17 = true := by decide +kernel
theorem ok312_14 : okL 312 14 c312_14 = true := by decide +kernel
theorem ok312_11 : okL 312 11 c312_11 = true := by decide +kernel
theorem ok312_0 : okL 312 0 c312_0 = true := by decide +kernel
theorem okk312 (t : Nat) : okL 312 t (k312 t).2 = true := (oknd (oknd (oklf ok312_0 t) (oklf ok312_11 t)) (oknd (oklf ok312_14 t) (oklf ok312_17 t)))
theorem ok313_13 : okL 313 13 c313_13 = true := by decide +kernel
theorem ok313_10 : okL 313 10 c313_10 = true := by decide +kernel
theorem ok313_0 : okL 313 0 c313_0 = true := by decide +kernel
theorem okk313 (t : Nat) : okL 313 t (k313 t).2 = true := (oknd (oklf ok313_0 t) (oknd (oklf ok313_10 t) (oklf ok313_13 t)))
theorem ok314_17 : okL 314 17 c314_17 = true := by decide +kernel
theorem ok314_14 : okL 314 14 c314_14 = true := by decide +kernel
theorem ok314_11 : okL 314 11 c314_11 = true := by decide +kernel
theorem ok314_0 : okL 314 0 c314_0 = true := by decide +kernel
theorem okk314 (t : Nat) : okL 314 t (k314 t).2 = true := (oknd (oknd (oklf ok314_0 t) (oklf ok314_11 t)) (oknd (oklf ok314_14 t) (oklf ok314_17 t)))
theorem ok315_15 : okL 315 15 c315_15 = true := by decide +kernel
theorem ok315_12 : okL 315 12 c315_12 = true := by decide +kernel
theorem ok315_0 : okL 315 0 c315_0 = true := by decide +kernel
theorem okk315 (t : Nat) : okL 315 t (k315 t).2 = true := (oknd (oklf ok315_0 t) (oknd (oklf ok315_12 t) (oklf ok315_15 t)))
theorem ok316_17 : okL 316 17 c316_17 = true := by decide +kernel
theorem ok316_13 : okL 316 13 c316_13 = true := by decide +kernel
theorem ok316_0 : okL 316 0 c316_0 = true := by decide +kernel
theorem okk316 (t : Nat) : okL 316 t (k316 t).2 = true := (oknd (oklf ok316_0 t) (oknd (oklf ok316_13 t) (oklf ok316_17 t)))
theorem ok317_15 : okL 317 15 c317_15 = true := by decide +kernel
theorem ok317_12 : okL 317 12 c317_12 = true := by decide +kernel
theorem ok317_0 : okL 317 0 c317_0 = true := by decide +kernel
theorem okk317 (t : Nat) : okL 317 t (k317 t).2 = true := (oknd (oklf ok317_0 t) (oknd (oklf ok317_12 t) (oklf ok317_15 t)))
theorem ok318_14 : okL 318 14 c318_14 = true := by decide +kernel
theorem ok318_11 : okL 318 11 c318_11 = true := by decide +kernel
theorem ok318_0 : okL 318 0 c318_0 = true := by decide +kernel
theorem okk318 (t : Nat) : okL 318 t (k318 t).2 = true := (oknd (oklf ok318_0 t) (oknd (oklf ok318_11 t) (oklf ok318_14 t)))
theorem ok319_18 : okL 319 18 c319_18 = true := by decide +kernel
theorem ok319_15 : okL 319 15 c319_15 = true := by decide +kernel
theorem ok319_12 : okL 319 12 c319_12 = true := by decide +kernel
theorem ok319_0 : okL 319 0 c319_0 = true := by decide +kernel
theorem okk319 (t : Nat) : okL 319 t (k319 t).2 = true := (oknd (oknd (oklf ok319_0 t) (oklf ok319_12 t)) (oknd (oklf ok319_15 t) (oklf ok319_18 t)))
theorem ok320_24 : okL 320 24 c320_24 = true := by decide +kernel
theorem ok320_20 : okL 320 20 c320_20 = true := by decide +kernel
theorem ok320_16 : okL 320 16 c320_16 = true := by decide +kernel
theorem ok320_12 : okL 320 12 c320_12 = true := by decide +kernel
theorem ok320_0 : okL 320 0 c320_0 = true := by decide +kernel
theorem okk320 (t : Nat) : okL 320 t (k320 t).2 = true := (oknd (oknd (oklf ok320_0 t) (oklf ok320_12 t)) (oknd (oklf ok320_16 t) (oknd (oklf ok320_20 t) (oklf ok320_24 t))))
theorem ok321_14 : okL 321 14 c321_14 = true := by decide +kernel
theorem ok321_11 : okL 321 11 c321_11 = true := by decide +kernel
theorem ok321_0 : okL 321 0 c321_0 = true := by decide +kernel
theorem okk321 (t : Nat) : okL 321 t (k321 t).2 = true := (oknd (oklf ok321_0 t) (oknd (oklf ok321_11 t) (oklf ok321_14 t)))
theorem ok322_24 : okL 322 24 c322_24 = true := by decide +kernel
theorem ok322_20 : okL 322 20 c322_20 = true := by decide +kernel
theorem ok322_16 : okL 322 16 c322_16 = true := by decide +kernel
theorem ok322_12 : okL 322 12 c322_12 = true := by decide +kernel
theorem ok322_0 : okL 322 0 c322_0 = true := by decide +kernel
theorem okk322 (t : Nat) : okL 322 t (k322 t).2 = true := (oknd (oknd (oklf ok322_0 t) (oklf ok322_12 t)) (oknd (oklf ok322_16 t) (oknd (oklf ok322_20 t) (oklf ok322_24 t))))
theorem ok323_18 : okL 323 18 c323_18 = true := by decide +kernel
theorem ok323_15 : okL 323 15 c323_15 = true := by decide +kernel
theorem ok323_12 : okL 323 12 c323_12 = true := by decide +kernel
theorem ok323_0 : okL 323 0 c323_0 = true := by decide +kernel
theorem okk323 (t : Nat) : okL 323 t (k323 t).2 = true := (oknd (oknd (oklf ok323_0 t) (oklf ok323_12 t)) (oknd (oklf ok323_15 t) (oklf ok323_18 t)))
theorem ok324_18 : okL 324 18 c324_18 = true := by decide +kernel
theorem ok324_15 : okL 324 15 c324_15 = true := by decide +kernel
theorem ok324_12 : okL 324 12 c324_12 = true := by decide +kernel
theorem ok324_0 : okL 324 0 c324_0 = true := by decide +kernel
theorem okk324 (t : Nat) : okL 324 t (k324 t).2 = true := (oknd (oknd (oklf ok324_0 t) (oklf ok324_12 t)) (oknd (oklf ok324_15 t) (oklf ok324_18 t)))
theorem ok325_30 : okL 325 30 c325_30 = true := by decide +kernel
theorem ok325_26 : okL 325 26 c325_26 = true := by decide +kernel
theorem ok325_22 : okL 325 22 c325_22 = true := by decide +kernel
theorem ok325_18 : okL 325 18 c325_18 = true := by decide +kernel
theorem ok325_17 : okL 325 17 c325_17 = true := okl_of (n := 1) (q := 18) (by decide +kernel) rfl ok325_18
theorem ok325_0 : okL 325 0 c325_0 = true := by decide +kernel
theorem okk325 (t : Nat) : okL 325 t (k325 t).2 = true := (oknd (oknd (oklf ok325_0 t) (oknd (oklf ok325_17 t) (oklf ok325_18 t))) (oknd (oklf ok325_22 t) (oknd (oklf ok325_26 t) (oklf ok325_30 t))))
theorem ok326_23 : okL 326 23 c326_23 = true := by decide +kernel
theorem ok326_19 : okL 326 19 c326_19 = true := by decide +kernel
theorem ok326_15 : okL 326 15 c326_15 = true := by decide +kernel
theorem ok326_0 : okL 326 0 c326_0 = true := by decide +kernel
theorem okk326 (t : Nat) : okL 326 t (k326 t).2 = true := (oknd (oknd (oklf ok326_0 t) (oklf ok326_15 t)) (oknd (oklf ok326_19 t) (oklf ok326_23 t)))
theorem ok327_23 : okL 327 23 c327_23 = true := by decide +kernel
theorem ok327_19 : okL 327 19 c327_19 = true := by decide +kernel
theorem ok327_15 : okL 327 15 c327_15 = true := by decide +kernel
theorem ok327_0 : okL 327 0 c327_0 = true := by decide +kernel
theorem okk327 (t : Nat) : okL 327 t (k327 t).2 = true := (oknd (oknd (oklf ok327_0 t) (oklf ok327_15 t)) (oknd (oklf ok327_19 t) (oklf ok327_23 t)))
theorem ok328_17 : okL 328 17 c328_17 = true := by decide +kernel
theorem ok328_14 : okL 328 14 c328_14 = true := by decide +kernel
theorem ok328_11 : okL 328 11 c328_11 = true := by decide +kernel
theorem ok328_0 : okL 328 0 c328_0 = true := by decide +kernel
theorem okk328 (t : Nat) : okL 328 t (k328 t).2 = true := (oknd (oknd (oklf ok328_0 t) (oklf ok328_11 t)) (oknd (oklf ok328_14 t) (oklf ok328_17 t)))
theorem ok329_17 : okL 329 17 c329_17 = true := by decide +kernel
theorem ok329_14 : okL 329 14 c329_14 = true := by decide +kernel
theorem ok329_11 : okL 329 11 c329_11 = true := by decide +kernel
theorem ok329_0 : okL 329 0 c329_0 = true := by decide +kernel
theorem okk329 (t : Nat) : okL 329 t (k329 t).2 = true := (oknd (oknd (oklf ok329_0 t) (oklf ok329_11 t)) (oknd (oklf ok329_14 t) (oklf ok329_17 t)))
theorem ok330_18 : okL 330 18 c330_18 = true := by decide +kernel
theorem ok330_15 : okL 330 15 c330_15 = true := by decide +kernel
theorem ok330_12 : okL 330 12 c330_12 = true := by decide +kernel
theorem ok330_0 : okL 330 0 c330_0 = true := by decide +kernel
theorem okk330 (t : Nat) : okL 330 t (k330 t).2 = true := (oknd (oknd (oklf ok330_0 t) (oklf ok330_12 t)) (oknd (oklf ok330_15 t) (oklf ok330_18 t)))
theorem ok331_17 : okL 331 17 c331_17 = true := by decide +kernel
theorem ok331_14 : okL 331 14 c331_14 = true := by decide +kernel
theorem ok331_11 : okL 331 11 c331_11 = true := by decide +kernel
theorem ok331_0 : okL 331 0 c331_0 = true := by decide +kernel
theorem okk331 (t : Nat) : okL 331 t (k331 t).2 = true := (oknd (oknd (oklf ok331_0 t) (oklf ok331_11 t)) (oknd (oklf ok331_14 t) (oklf ok331_17 t)))
theorem ok332_26 : okL 332 26 c332_26 = true := by decide +kernel
theorem ok332_22 : okL 332 22 c332_22 = true := by decide +kernel
theorem ok332_18 : okL 332 18 c332_18 = true := by decide +kernel
theorem ok332_14 : okL 332 14 c332_14 = true := by decide +kernel
theorem ok332_0 : okL 332 0 c332_0 = true := by decide +kernel
theorem okk332 (t : Nat) : okL 332 t (k332 t).2 = true := (oknd (oknd (oklf ok332_0 t) (oklf ok332_14 t)) (oknd (oklf ok332_18 t) (oknd (oklf ok332_22 t) (oklf ok332_26 t))))
theorem ok333_14 : okL 333 14 c333_14 = true := by decide +kernel
theorem ok333_11 : okL 333 11 c333_11 = true := by decide +kernel
theorem ok333_0 : okL 333 0 c333_0 = true := by decide +kernel
theorem okk333 (t : Nat) : okL 333 t (k333 t).2 = true := (oknd (oklf ok333_0 t) (oknd (oklf ok333_11 t) (oklf ok333_14 t)))
