theorem ok87_0 : okL 87 0 c87_0 = true := by decide +kernel
theorem okk87 (t : Nat) : okL 87 t (k87 t).2 = true := (oklf ok87_0 t)
theorem ok88_48 : okL 88 48 c88_48 = true := by decide +kernel
theorem ok88_40 : okL 88 40 c88_40 = true := by decide +kernel
theorem ok88_0 : okL 88 0 c88_0 = true := okl_of (n := 24) (q := 40) (by decide +kernel) rfl ok88_40
theorem okk88 (t : Nat) : okL 88 t (k88 t).2 = true := (oknd (oklf ok88_0 t) (oknd (oklf ok88_40 t) (oklf ok88_48 t)))
theorem ok89_34 : okL 89 34 c89_34 = true := by decide +kernel
theorem ok89_28 : okL 89 28 c89_28 = true := by decide +kernel
theorem ok89_2 : okL 89 2 c89_2 = true := by decide +kernel
theorem ok89_0 : okL 89 0 c89_0 = true := by decide +kernel
theorem okk89 (t : Nat) : okL 89 t (k89 t).2 = true := (oknd (oknd (oklf ok89_0 t) (oklf ok89_2 t)) (oknd (oklf ok89_28 t) (oklf ok89_34 t)))
theorem ok90_155 : okL 90 155 c90_155 = true := by decide +kernel
theorem ok90_124 : okL 90 124 c90_124 = true := by decide +kernel
theorem ok90_121 : okL 90 121 c90_121 = true := by decide +kernel
theorem ok90_104 : okL 90 104 c90_104 = true := by decide +kernel
theorem ok90_84 : okL 90 84 c90_84 = true := okl_of (n := 10) (q := 104) (by decide +kernel) rfl ok90_104
theorem ok90_75 : okL 90 75 c90_75 = true := by decide +kernel
theorem ok90_74 : okL 90 74 c90_74 = true := okl_of (n := 1) (q := 75) (by decide +kernel) rfl ok90_75
theorem ok90_70 : okL 90 70 c90_70 = true := by decide +kernel
theorem ok90_39 : okL 90 39 c90_39 = true := okl_of (n := 14) (q := 70) (by decide +kernel) rfl ok90_70
theorem ok90_0 : okL 90 0 c90_0 = true := by decide +kernel
theorem okk90 (t : Nat) : okL 90 t (k90 t).2 = true := (oknd (oknd (oknd (oklf ok90_0 t) (oklf ok90_39 t)) (oknd (oklf ok90_70 t) (oknd (oklf ok90_74 t) (oklf ok90_75 t)))) (oknd (oknd (oklf ok90_84 t) (oklf ok90_104 t)) (oknd (oklf ok90_121 t) (oknd (oklf ok90_124 t) (oklf ok90_155 t)))))
theorem ok91_42 : okL 91 42 c91_42 = true := by decide +kernel
theorem ok91_0 : okL 91 0 c91_0 = true := okl_of (n := 27) (q := 42) (by decide +kernel) rfl ok91_42
theorem okk91 (t : Nat) : okL 91 t (k91 t).2 = true := (oknd (oklf ok91_0 t) (oklf ok91_42 t))
theorem ok92_23 : okL 92 23 c92_23 = true := by decide +kernel
theorem ok92_0 : okL 92 0 c92_0 = true := okl_of (n := 13) (q := 23) (by decide +kernel) rfl ok92_23
theorem okk92 (t : Nat) : okL 92 t (k92 t).2 = true := (oknd (oklf ok92_0 t) (oklf ok92_23 t))
theorem ok93_86 : okL 93 86 c93_86 = true := by decide +kernel
theorem ok93_85 : okL 93 85 c93_85 = true := okl_of (n := 1) (q := 86) (by decide +kernel) rfl ok93_86
theorem ok93_81 : okL 93 81 c93_81 = true := by decide +kernel
theorem ok93_0 : okL 93 0 c93_0 = true := okl_of (n := 36) (q := 81) (by decide +kernel) rfl ok93_81
theorem okk93 (t : Nat) : okL 93 t (k93 t).2 = true := (oknd (oknd (oklf ok93_0 t) (oklf ok93_81 t)) (oknd (oklf ok93_85 t) (oklf ok93_86 t)))
theorem ok94_64 : okL 94 64 c94_64 = true := by decide +kernel
theorem ok94_63 : okL 94 63 c94_63 = true := okl_of (n := 1) (q := 64) (by decide +kernel) rfl ok94_64
theorem ok94_59 : okL 94 59 c94_59 = true := by decide +kernel
theorem ok94_40 : okL 94 40 c94_40 = true := okl_of (n := 10) (q := 59) (by decide +kernel) rfl ok94_59
theorem ok94_20 : okL 94 20 c94_20 = true := okl_of (n := 10) (q := 40) (by decide +kernel) rfl ok94_40
theorem ok94_0 : okL 94 0 c94_0 = true := okl_of (n := 10) (q := 20) (by decide +kernel) rfl ok94_20
theorem okk94 (t : Nat) : okL 94 t (k94 t).2 = true := (oknd (oknd (oklf ok94_0 t) (oknd (oklf ok94_20 t) (oklf ok94_40 t))) (oknd (oklf ok94_59 t) (oknd (oklf ok94_63 t) (oklf ok94_64 t))))
theorem ok95_198 : okL 95 198 c95_198 = true := by decide +kernel
theorem ok95_177 : okL 95 177 c95_177 = true := okl_of (n := 12) (q := 198) (by decide +kernel) rfl ok95_198
theorem ok95_157 : okL 95 157 c95_157 = true := by decide +kernel
theorem ok95_137 : okL 95 137 c95_137 = true := by decide +kernel
theorem ok95_117 : okL 95 117 c95_117 = true := by decide +kernel
theorem ok95_101 : okL 95 101 c95_101 = true := by decide +kernel
theorem ok95_73 : okL 95 73 c95_73 = true := by decide +kernel
theorem ok95_48 : okL 95 48 c95_48 = true := by decide +kernel
theorem ok95_32 : okL 95 32 c95_32 = true := by decide +kernel
theorem ok95_16 : okL 95 16 c95_16 = true := by decide +kernel
theorem ok95_0 : okL 95 0 c95_0 = true := by decide +kernel
theorem okk95 (t : Nat) : okL 95 t (k95 t).2 = true := (oknd (oknd (oknd (oklf ok95_0 t) (oklf ok95_16 t)) (oknd (oklf ok95_32 t) (oknd (oklf ok95_48 t) (oklf ok95_73 t)))) (oknd (oknd (oklf ok95_101 t) (oknd (oklf ok95_117 t) (oklf ok95_137 t))) (oknd (oklf ok95_157 t) (oknd (oklf ok95_177 t) (oklf ok95_198 t)))))
theorem ok96_254 : okL 96 254 c96_254 = true := by decide +kernel
theorem ok96_229 : okL 96 229 c96_229 = true := by decide +kernel
theorem ok96_227 : okL 96 227 c96_227 = true := by decide +kernel
theorem ok96_204 : okL 96 204 c96_204 = true := by decide +kernel
theorem ok96_195 : okL 96 195 c96_195 = true := okl_of (n := 5) (q := 204) (by decide +kernel) rfl ok96_204
theorem ok96_170 : okL 96 170 c96_170 = true := okl_of (n := 13) (q := 195) (by decide +kernel) rfl ok96_195
theorem ok96_149 : okL 96 149 c96_149 = true := by decide +kernel
theorem ok96_139 : okL 96 139 c96_139 = true := by decide +kernel
theorem ok96_130 : okL 96 130 c96_130 = true := okl_of (n := 5) (q := 139) (by decide +kernel) rfl ok96_139
theorem ok96_116 : okL 96 116 c96_116 = true := okl_of (n := 7) (q := 130) (by decide +kernel) rfl ok96_130
theorem ok96_78 : okL 96 78 c96_78 = true := by decide +kernel
theorem ok96_60 : okL 96 60 c96_60 = true := by decide +kernel
theorem ok96_40 : okL 96 40 c96_40 = true := by decide +kernel
theorem ok96_33 : okL 96 33 c96_33 = true := by decide +kernel
theorem ok96_23 : okL 96 23 c96_23 = true := by decide +kernel
theorem ok96_22 : okL 96 22 c96_22 = true := okl_of (n := 1) (q := 23) (by decide +kernel) rfl ok96_23
theorem ok96_0 : okL 96 0 c96_0 = true := by decide +kernel
theorem okk96 (t : Nat) : okL 96 t (k96 t).2 = true := (oknd (oknd (oknd (oknd (oklf ok96_0 t) (oklf ok96_22 t)) (oknd (oklf ok96_23 t) (oklf ok96_33 t))) (oknd (oknd (oklf ok96_40 t) (oklf ok96_60 t)) (oknd (oklf ok96_78 t) (oklf ok96_116 t)))) (oknd (oknd (oknd (oklf ok96_130 t) (oklf ok96_139 t)) (oknd (oklf ok96_149 t) (oklf ok96_170 t))) (oknd (oknd (oklf ok96_195 t) (oklf ok96_204 t)) (oknd (oklf ok96_227 t) (oknd (oklf ok96_229 t) (oklf ok96_254 t))))))
theorem ok97_8 : okL 97 8 c97_8 = true := by decide +kernel
theorem ok97_0 : okL 97 0 c97_0 = true := by decide +kernel
theorem okk97 (t : Nat) : okL 97 t (k97 t).2 = true := (oknd (oklf ok97_0 t) (oklf ok97_8 t))
theorem ok98_42 : okL 98 42 c98_42 = true := by decide +kernel
theorem ok98_25 : okL 98 25 c98_25 = true := okl_of (n := 9) (q := 42) (by decide +kernel) rfl ok98_42
theorem ok98_0 : okL 98 0 c98_0 = true := okl_of (n := 12) (q := 25) (by decide +kernel) rfl ok98_25
theorem okk98 (t : Nat) : okL 98 t (k98 t).2 = true := (oknd (oklf ok98_0 t) (oknd (oklf ok98_25 t) (oklf ok98_42 t)))
theorem ok99_98 : okL 99 98 c99_98 = true := by decide +kernel
theorem ok99_97 : okL 99 97 c99_97 = true := okl_of (n := 1) (q := 98) (by decide +kernel) rfl ok99_98
theorem ok99_83 : okL 99 83 c99_83 = true := by decide +kernel
theorem ok99_70 : okL 99 70 c99_70 = true := by decide +kernel
theorem ok99_59 : okL 99 59 c99_59 = true := by decide +kernel
theorem ok99_47 : okL 99 47 c99_47 = true := by decide +kernel
theorem ok99_36 : okL 99 36 c99_36 = true := by decide +kernel
theorem ok99_24 : okL 99 24 c99_24 = true := by decide +kernel
theorem ok99_12 : okL 99 12 c99_12 = true := by decide +kernel
theorem ok99_0 : okL 99 0 c99_0 = true := by decide +kernel
theorem okk99 (t : Nat) : okL 99 t (k99 t).2 = true := (oknd (oknd (oknd (oklf ok99_0 t) (oklf ok99_12 t)) (oknd (oklf ok99_24 t) (oknd (oklf ok99_36 t) (oklf ok99_47 t)))) (oknd (oknd (oklf ok99_59 t) (oklf ok99_70 t)) (oknd (oklf ok99_83 t) (oknd (oklf ok99_97 t) (oklf ok99_98 t)))))
theorem ok100_89 : okL 100 89 c100_89 = true := by decide +kernel
theorem ok100_66 : okL 100 66 c100_66 = true := by decide +kernel
theorem ok100_34 : okL 100 34 c100_34 = true := by decide +kernel
theorem ok100_8 : okL 100 8 c100_8 = true := by decide +kernel
theorem ok100_0 : okL 100 0 c100_0 = true := by decide +kernel
theorem okk100 (t : Nat) : okL 100 t (k100 t).2 = true := (oknd (oknd (oklf ok100_0 t) (oklf ok100_8 t)) (oknd (oklf ok100_34 t) (oknd (oklf ok100_66 t) (oklf ok100_89 t))))
theorem ok101_67 : okL 101 67 c101_67 = true := by decide +kernel
theorem ok101_60 : okL 101 60 c101_60 = true := by decide +kernel
theorem ok101_59 : okL 101 59 c101_59 = true := okl_of (n := 1) (q := 60) (by decide +kernel) rfl ok101_60
theorem ok101_29 : okL 101 29 c101_29 = true := by decide +kernel
theorem ok101_4 : okL 101 4 c101_4 = true := okl_of (n := 11) (q := 29) (by decide +kernel) rfl ok101_29
theorem ok101_0 : okL 101 0 c101_0 = true := by decide +kernel
theorem okk101 (t : Nat) : okL 101 t (k101 t).2 = true := (oknd (oknd (oklf ok101_0 t) (oknd (oklf ok101_4 t) (oklf ok101_29 t))) (oknd (oklf ok101_59 t) (oknd (oklf ok101_60 t) (oklf ok101_67 t))))
theorem ok102_67 : okL 102 67 c102_67 = true := by decide +kernel
theorem ok102_60 : okL 102 60 c102_60 = true := by decide +kernel
theorem ok102_59 : okL 102 59 c102_59 = true := okl_of (n := 1) (q := 60) (by decide +kernel) rfl ok102_60
theorem ok102_29 : okL 102 29 c102_29 = true := by decide +kernel
theorem ok102_4 : okL 102 4 c102_4 = true := okl_of (n := 11) (q := 29) (by decide +kernel) rfl ok102_29
theorem ok102_0 : okL 102 0 c102_0 = true := by decide +kernel
theorem okk102 (t : Nat) : okL 102 t (k102 t).2 = true := (oknd (oknd (oklf ok102_0 t) (oknd (oklf ok102_4 t) (oklf ok102_29 t))) (oknd (oklf ok102_59 t) (oknd (oklf ok102_60 t) (oklf ok102_67 t))))
theorem ok103_167 : okL 103 167 c103_167 = true := by decide +kernel
theorem ok103_165 : okL 103 165 c103_165 = true := okl_of (n := 1) (q := 167) (by decide +kernel) rfl ok103_167
theorem ok103_154 : okL 103 154 c103_154 = true := by decide +kernel
theorem ok103_128 : okL 103 128 c103_128 = true := by decide +kernel
theorem ok103_95 : okL 103 95 c103_95 = true := by decide +kernel
theorem ok103_83 : okL 103 83 c103_83 = true := by decide +kernel
theorem ok103_43 : okL 103 43 c103_43 = true := by decide +kernel
theorem ok103_8 : okL 103 8 c103_8 = true := by decide +kernel
theorem ok103_0 : okL 103 0 c103_0 = true := by decide +kernel
theorem okk103 (t : Nat) : okL 103 t (k103 t).2 = true := (oknd (oknd (oknd (oklf ok103_0 t) (oklf ok103_8 t)) (oknd (oklf ok103_43 t) (oklf ok103_83 t))) (oknd (oknd (oklf ok103_95 t) (oklf ok103_128 t)) (oknd (oklf ok103_154 t) (oknd (oklf ok103_165 t) (oklf ok103_167 t)))))
theorem ok104_42 : okL 104 42 c104_42 = true := by decide +kernel
theorem ok104_4 : okL 104 4 c104_4 = true := by decide +kernel
theorem ok104_0 : okL 104 0 c104_0 = true := by decide +kernel
theorem okk104 (t : Nat) : okL 104 t (k104 t).2 = true := (oknd (oklf ok104_0 t) (oknd (oklf ok104_4 t) (oklf ok104_42 t)))
theorem ok105_42 : okL 105 42 c105_42 = true := by decide +kernel
theorem ok105_4 : okL 105 4 c105_4 = true := by decide +kernel
theorem ok105_0 : okL 105 0 c105_0 = true := by decide +kernel
theorem okk105 (t : Nat) : okL 105 t (k105 t).2 = true := (oknd (oklf ok105_0 t) (oknd (oklf ok105_4 t) (oklf ok105_42 t)))
theorem ok106_314 : okL 106 314 c106_314 = true := by decide +kernel
theorem ok106_276 : okL 106 276 c106_276 = true := by decide +kernel
theorem ok106_274 : okL 106 274 c106_274 = true := by decide +kernel
theorem ok106_235 : okL 106 235 c106_235 = true := by decide +kernel
theorem ok106_228 : okL 106 228 c106_228 = true := by decide +kernel
theorem ok106_205 : okL 106 205 c106_205 = true := by decide +kernel
theorem ok106_179 : okL 106 179 c106_179 = true := by decide +kernel
theorem ok106_168 : okL 106 168 c106_168 = true := okl_of (n := 5) (q := 179) (by decide +kernel) rfl ok106_179
theorem ok106_145 : okL 106 145 c106_145 = true := okl_of (n := 11) (q := 168) (by decide +kernel) rfl ok106_168
theorem ok106_144 : okL 106 144 c106_144 = true := okl_of (n := 1) (q := 145) (by decide +kernel) rfl ok106_145
theorem ok106_121 : okL 106 121 c106_121 = true := by decide +kernel
theorem ok106_111 : okL 106 111 c106_111 = true := by decide +kernel
theorem ok106_96 : okL 106 96 c106_96 = true := okl_of (n := 8) (q := 111) (by decide +kernel) rfl ok106_111
theorem ok106_45 : okL 106 45 c106_45 = true := by decide +kernel
theorem ok106_33 : okL 106 33 c106_33 = true := by decide +kernel
theorem ok106_23 : okL 106 23 c106_23 = true := by decide +kernel
theorem ok106_22 : okL 106 22 c106_22 = true := okl_of (n := 1) (q := 23) (by decide +kernel) rfl ok106_23
theorem ok106_0 : okL 106 0 c106_0 = true := by decide +kernel
theorem okk106 (t : Nat) : okL 106 t (k106 t).2 = true := (oknd (oknd (oknd (oknd (oklf ok106_0 t) (oklf ok106_22 t)) (oknd (oklf ok106_23 t) (oklf ok106_33 t))) (oknd (oknd (oklf ok106_45 t) (oklf ok106_96 t)) (oknd (oklf ok106_111 t) (oknd (oklf ok106_121 t) (oklf ok106_144 t))))) (oknd (oknd (oknd (oklf ok106_145 t) (oklf ok106_168 t)) (oknd (oklf ok106_179 t) (oklf ok106_205 t))) (oknd (oknd (oklf ok106_228 t) (oklf ok106_235 t)) (oknd (oklf ok106_274 t) (oknd (oklf ok106_276 t) (oklf ok106_314 t))))))
theorem ok107_313 : okL 107 313 c107_313 = true := by decide +kernel
theorem ok107_307 : okL 107 307 c107_307 = true := by decide +kernel
theorem ok107_297 : okL 107 297 c107_297 = true := okl_of (n := 7) (q := 307) (by decide +kernel) rfl ok107_307
theorem ok107_290 : okL 107 290 c107_290 = true := okl_of (n := 4) (q := 297) (by decide +kernel) rfl ok107_297
theorem ok107_280 : okL 107 280 c107_280 = true := by decide +kernel
theorem ok107_275 : okL 107 275 c107_275 = true := by decide +kernel
theorem ok107_274 : okL 107 274 c107_274 = true := okl_of (n := 1) (q := 275) (by decide +kernel) rfl ok107_275
theorem ok107_263 : okL 107 263 c107_263 = true := by decide +kernel
theorem ok107_258 : okL 107 258 c107_258 = true := by decide +kernel
theorem ok107_257 : okL 107 257 c107_257 = true := okl_of (n := 1) (q := 258) (by decide +kernel) rfl ok107_258
theorem ok107_246 : okL 107 246 c107_246 = true := by decide +kernel
theorem ok107_241 : okL 107 241 c107_241 = true := by decide +kernel
theorem ok107_240 : okL 107 240 c107_240 = true := okl_of (n := 1) (q := 241) (by decide +kernel) rfl ok107_241
theorem ok107_229 : okL 107 229 c107_229 = true := by decide +kernel
theorem ok107_224 : okL 107 224 c107_224 = true := by decide +kernel
theorem ok107_219 : okL 107 219 c107_219 = true := okl_of (n := 3) (q := 224) (by decide +kernel) rfl ok107_224
theorem ok107_207 : okL 107 207 c107_207 = true := by decide +kernel
theorem ok107_198 : okL 107 198 c107_198 = true := by decide +kernel
theorem ok107_188 : okL 107 188 c107_188 = true := by decide +kernel
theorem ok107_178 : okL 107 178 c107_178 = true := by decide +kernel
theorem ok107_168 : okL 107 168 c107_168 = true := by decide +kernel
theorem ok107_93 : okL 107 93 c107_93 = true := by decide +kernel
theorem ok107_65 : okL 107 65 c107_65 = true := by decide +kernel
theorem ok107_58 : okL 107 58 c107_58 = true := by decide +kernel
theorem ok107_46 : okL 107 46 c107_46 = true := okl_of (n := 7) (q := 58) (by decide +kernel) rfl ok107_58
theorem ok107_5 : okL 107 5 c107_5 = true := by decide +kernel
theorem ok107_0 : okL 107 0 c107_0 = true := by decide +kernel
theorem okk107 (t : Nat) : okL 107 t (k107 t).2 = true := (oknd (oknd (oknd (oknd (oklf ok107_0 t) (oknd (oklf ok107_5 t) (oklf ok107_46 t))) (oknd (oklf ok107_58 t) (oknd (oklf ok107_65 t) (oklf ok107_93 t)))) (oknd (oknd (oklf ok107_168 t) (oknd (oklf ok107_178 t) (oklf ok107_188 t))) (oknd (oknd (oklf ok107_198 t) (oklf ok107_207 t)) (oknd (oklf ok107_219 t) (oklf ok107_224 t))))) (oknd (oknd (oknd (oklf ok107_229 t) (oknd (oklf ok107_240 t) (oklf ok107_241 t))) (oknd (oknd (oklf ok107_246 t) (oklf ok107_257 t)) (oknd (oklf ok107_258 t) (oklf ok107_263 t)))) (oknd (oknd (oklf ok107_274 t) (oknd (oklf ok107_275 t) (oklf ok107_280 t))) (oknd (oknd (oklf ok107_290 t) (oklf ok107_297 t)) (oknd (oklf ok107_307 t) (oklf ok107_313 t))))))
theorem ok108_38 : okL 108 38 c108_38 = true := by decide +kernel
theorem ok108_31 : okL 108 31 c108_31 = true := by decide +kernel
theorem ok108_30 : okL 108 30 c108_30 = true := okl_of (n := 1) (q := 31) (by decide +kernel) rfl ok108_31
theorem ok108_2 : okL 108 2 c108_2 = true := by decide +kernel
theorem ok108_0 : okL 108 0 c108_0 = true := by decide +kernel
theorem okk108 (t : Nat) : okL 108 t (k108 t).2 = true := (oknd (oknd (oklf ok108_0 t) (oklf ok108_2 t)) (oknd (oklf ok108_30 t) (oknd (oklf ok108_31 t) (oklf ok108_38 t))))
theorem ok109_0 : okL 109 0 c109_0 = true := by decide +kernel
theorem okk109 (t : Nat) : okL 109 t (k109 t).2 = true := (oklf ok109_0 t)
theorem ok110_0 : okL 110 0 c110_0 = true := by decide +kernel
theorem okk110 (t : Nat) : okL 110 t (k110 t).2 = true := (oklf ok110_0 t)
theorem ok111_19 : okL 111 19 c111_19 = true := by decide +kernel
theorem ok111_18 : okL 111 18 c111_18 = true := okl_of (n := 1) (q := 19) (by decide +kernel) rfl ok111_19
theorem ok111_14 : okL 111 14 c111_14 = true := by decide +kernel
theorem ok111_0 : okL 111 0 c111_0 = true := okl_of (n := 8) (q := 14) (by decide +kernel) rfl ok111_14
theorem okk111 (t : Nat) : okL 111 t (k111 t).2 = true := (oknd (oknd (oklf ok111_0 t) (oklf ok111_14 t)) (oknd (oklf ok111_18 t) (oklf ok111_19 t)))
theorem ok112_0 : okL 112 0 c112_0 = true := by decide +kernel
theorem okk112 (t : Nat) : okL 112 t (k112 t).2 = true := (oklf ok112_0 t)
theorem ok113_92 : okL 113 92 c113_92 = true := by decide +kernel
theorem ok113_84 : okL 113 84 c113_84 = true := by decide +kernel
theorem ok113_83 : okL 113 83 c113_83 = true := okl_of (n := 1) (q := 84) (by decide +kernel) rfl ok113_84
theorem ok113_60 : okL 113 60 c113_60 = true := by decide +kernel
theorem ok113_56 : okL 113 56 c113_56 = true := by decide +kernel
theorem ok113_43 : okL 113 43 c113_43 = true := by decide +kernel
theorem ok113_34 : okL 113 34 c113_34 = true := by decide +kernel
theorem ok113_23 : okL 113 23 c113_23 = true := by decide +kernel
theorem ok113_0 : okL 113 0 c113_0 = true := by decide +kernel
theorem okk113 (t : Nat) : okL 113 t (k113 t).2 = true := (oknd (oknd (oknd (oklf ok113_0 t) (oklf ok113_23 t)) (oknd (oklf ok113_34 t) (oklf ok113_43 t))) (oknd (oknd (oklf ok113_56 t) (oklf ok113_60 t)) (oknd (oklf ok113_83 t) (oknd (oklf ok113_84 t) (oklf ok113_92 t)))))
theorem ok114_38 : okL 114 38 c114_38 = true := by decide +kernel
theorem ok114_32 : okL 114 32 c114_32 = true := by decide +kernel
theorem ok114_2 : okL 114 2 c114_2 = true := by decide +kernel
theorem ok114_0 : okL 114 0 c114_0 = true := by decide +kernel
theorem okk114 (t : Nat) : okL 114 t (k114 t).2 = true := (oknd (oknd (oklf ok114_0 t) (oklf ok114_2 t)) (oknd (oklf ok114_32 t) (oklf ok114_38 t)))
theorem ok115_42 : okL 115 42 c115_42 = true := by decide +kernel
theorem ok115_40 : okL 115 40 c115_40 = true := by decide +kernel
theorem ok115_0 : okL 115 0 c115_0 = true := okl_of (n := 24) (q := 40) (by decide +kernel) rfl ok115_40
theorem okk115 (t : Nat) : okL 115 t (k115 t).2 = true := (oknd (oklf ok115_0 t) (oknd (oklf ok115_40 t) (oklf ok115_42 t)))
theorem ok116_69 : okL 116 69 c116_69 = true := by decide +kernel
theorem ok116_55 : okL 116 55 c116_55 = true := okl_of (n := 10) (q := 69) (by decide +kernel) rfl ok116_69
theorem ok116_38 : okL 116 38 c116_38 = true := by decide +kernel
theorem ok116_36 : okL 116 36 c116_36 = true := by decide +kernel
theorem ok116_0 : okL 116 0 c116_0 = true := okl_of (n := 22) (q := 36) (by decide +kernel) rfl ok116_36
theorem okk116 (t : Nat) : okL 116 t (k116 t).2 = true := (oknd (oknd (oklf ok116_0 t) (oklf ok116_36 t)) (oknd (oklf ok116_38 t) (oknd (oklf ok116_55 t) (oklf ok116_69 t))))
theorem ok117_31 : okL 117 31 c117_31 = true := by decide +kernel
theorem ok117_29 : okL 117 29 c117_29 = true := by decide +kernel
theorem ok117_0 : okL 117 0 c117_0 = true := okl_of (n := 17) (q := 29) (by decide +kernel) rfl ok117_29
theorem okk117 (t : Nat) : okL 117 t (k117 t).2 = true := (oknd (oklf ok117_0 t) (oknd (oklf ok117_29 t) (oklf ok117_31 t)))
theorem ok118_42 : okL 118 42 c118_42 = true := by decide +kernel
theorem ok118_32 : okL 118 32 c118_32 = true := by decide +kernel
theorem ok118_31 : okL 118 31 c118_31 = true := okl_of (n := 1) (q := 32) (by decide +kernel) rfl ok118_32
theorem ok118_0 : okL 118 0 c118_0 = true := by decide +kernel
theorem okk118 (t : Nat) : okL 118 t (k118 t).2 = true := (oknd (oknd (oklf ok118_0 t) (oklf ok118_31 t)) (oknd (oklf ok118_32 t) (oklf ok118_42 t)))
theorem ok119_29 : okL 119 29 c119_29 = true := by decide +kernel
theorem ok119_27 : okL 119 27 c119_27 = true := by decide +kernel
theorem ok119_0 : okL 119 0 c119_0 = true := okl_of (n := 15) (q := 27) (by decide +kernel) rfl ok119_27
theorem okk119 (t : Nat) : okL 119 t (k119 t).2 = true := (oknd (oklf ok119_0 t) (oknd (oklf ok119_27 t) (oklf ok119_29 t)))
theorem ok120_23 : okL 120 23 c120_23 = true := by decide +kernel
theorem ok120_0 : okL 120 0 c120_0 = true := by decide +kernel
theorem okk120 (t : Nat) : okL 120 t (k120 t).2 = true := (oknd (oklf ok120_0 t) (oklf ok120_23 t))
theorem ok121_41 : okL 121 41 c121_41 = true := by decide +kernel
theorem ok121_25 : okL 121 25 c121_25 = true := okl_of (n := 11) (q := 41) (by decide +kernel) rfl ok121_41
theorem ok121_0 : okL 121 0 c121_0 = true := by decide +kernel
theorem okk121 (t : Nat) : okL 121 t (k121 t).2 = true := (oknd (oklf ok121_0 t) (oknd (oklf ok121_25 t) (oklf ok121_41 t)))
theorem ok122_28 : okL 122 28 c122_28 = true := by decide +kernel
theorem ok122_26 : okL 122 26 c122_26 = true := by decide +kernel
theorem ok122_0 : okL 122 0 c122_0 = true := okl_of (n := 14) (q := 26) (by decide +kernel) rfl ok122_26
theorem okk122 (t : Nat) : okL 122 t (k122 t).2 = true := (oknd (oklf ok122_0 t) (oknd (oklf ok122_26 t) (oklf ok122_28 t)))
theorem ok123_0 : okL 123 0 c123_0 = true := by decide +kernel
theorem okk123 (t : Nat) : okL 123 t (k123 t).2 = true := (oklf ok123_0 t)
theorem ok124_40 : okL 124 40 c124_40 = true := by decide +kernel
theorem ok124_39 : okL 124 39 c124_39 = true := okl_of (n := 1) (q := 40) (by decide +kernel) rfl ok124_40
theorem ok124_25 : okL 124 25 c124_25 = true := by decide +kernel
theorem ok124_17 : okL 124 17 c124_17 = true := by decide +kernel
theorem ok124_0 : okL 124 0 c124_0 = true := by decide +kernel
theorem okk124 (t : Nat) : okL 124 t (k124 t).2 = true := (oknd (oknd (oklf ok124_0 t) (oklf ok124_17 t)) (oknd (oklf ok124_25 t) (oknd (oklf ok124_39 t) (oklf ok124_40 t))))
theorem ok125_34 : okL 125 34 c125_34 = true := by decide +kernel
theorem ok125_25 : okL 125 25 c125_25 = true := okl_of (n := 6) (q := 34) (by decide +kernel) rfl ok125_34
theorem ok125_0 : okL 125 0 c125_0 = true := by decide +kernel
theorem okk125 (t : Nat) : okL 125 t (k125 t).2 = true := (oknd (oklf ok125_0 t) (oknd (oklf ok125_25 t) (oklf ok125_34 t)))
theorem ok126_31 : okL 126 31 c126_31 = true := by decide +kernel
theorem ok126_30 : okL 126 30 c126_30 = true := okl_of (n := 1) (q := 31) (by decide +kernel) rfl ok126_31
theorem ok126_26 : okL 126 26 c126_26 = true := by decide +kernel
theorem ok126_0 : okL 126 0 c126_0 = true := okl_of (n := 16) (q := 26) (by decide +kernel) rfl ok126_26
theorem okk126 (t : Nat) : okL 126 t (k126 t).2 = true := (oknd (oknd (oklf ok126_0 t) (oklf ok126_26 t)) (oknd (oklf ok126_30 t) (oklf ok126_31 t)))
theorem ok127_65 : okL 127 65 c127_65 = true := by decide +kernel
theorem ok127_59 : okL 127 59 c127_59 = true := by decide +kernel
theorem ok127_43 : okL 127 43 c127_43 = true := by decide +kernel
theorem ok127_37 : okL 127 37 c127_37 = true := okl_of (n := 4) (q := 43) (by decide +kernel) rfl ok127_43
theorem ok127_2 : okL 127 2 c127_2 = true := by decide +kernel
theorem ok127_0 : okL 127 0 c127_0 = true := by decide +kernel
theorem okk127 (t : Nat) : okL 127 t (k127 t).2 = true := (oknd (oknd (oklf ok127_0 t) (oknd (oklf ok127_2 t) (oklf ok127_37 t))) (oknd (oklf ok127_43 t) (oknd (oklf ok127_59 t) (oklf ok127_65 t))))
theorem ok128_185 : okL 128 185 c128_185 = true := by decide +kernel
theorem ok128_179 : okL 128 179 c128_179 = true := by decide +kernel
theorem ok128_125 : okL 128 125 c128_125 = true := okl_of (n := 32) (q := 179) (by decide +kernel) rfl ok128_179
theorem ok128_101 : okL 128 101 c128_101 = true := by decide +kernel
theorem ok128_96 : okL 128 96 c128_96 = true := by decide +kernel
theorem ok128_95 : okL 128 95 c128_95 = true := okl_of (n := 1) (q := 96) (by decide +kernel) rfl ok128_96
theorem ok128_52 : okL 128 52 c128_52 = true := by decide +kernel
theorem ok128_51 : okL 128 51 c128_51 = true := okl_of (n := 1) (q := 52) (by decide +kernel) rfl ok128_52
theorem ok128_0 : okL 128 0 c128_0 = true := by decide +kernel
theorem okk128 (t : Nat) : okL 128 t (k128 t).2 = true := (oknd (oknd (oknd (oklf ok128_0 t) (oklf ok128_51 t)) (oknd (oklf ok128_52 t) (oklf ok128_95 t))) (oknd (oknd (oklf ok128_96 t) (oklf ok128_101 t)) (oknd (oklf ok128_125 t) (oknd (oklf ok128_179 t) (oklf ok128_185 t)))))
theorem ok129_203 : okL 129 203 c129_203 = true := by decide +kernel
theorem ok129_182 : okL 129 182 c129_182 = true := by decide +kernel
theorem ok129_180 : okL 129 180 c129_180 = true := by decide +kernel
theorem ok129_167 : okL 129 167 c129_167 = true := by decide +kernel
theorem ok129_151 : okL 129 151 c129_151 = true := okl_of (n := 10) (q := 167) (by decide +kernel) rfl ok129_167
theorem ok129_150 : okL 129 150 c129_150 = true := okl_of (n := 1) (q := 151) (by decide +kernel) rfl ok129_151
theorem ok129_119 : okL 129 119 c129_119 = true := by decide +kernel
theorem ok129_110 : okL 129 110 c129_110 = true := by decide +kernel
theorem ok129_104 : okL 129 104 c129_104 = true := by decide +kernel
theorem ok129_98 : okL 129 98 c129_98 = true := by decide +kernel
theorem ok129_92 : okL 129 92 c129_92 = true := by decide +kernel
theorem ok129_86 : okL 129 86 c129_86 = true := by decide +kernel
theorem ok129_39 : okL 129 39 c129_39 = true := okl_of (n := 27) (q := 86) (by decide +kernel) rfl ok129_86
theorem ok129_26 : okL 129 26 c129_26 = true := by decide +kernel
theorem ok129_14 : okL 129 14 c129_14 = true := by decide +kernel
theorem ok129_2 : okL 129 2 c129_2 = true := by decide +kernel
theorem ok129_0 : okL 129 0 c129_0 = true := by decide +kernel
theorem okk129 (t : Nat) : okL 129 t (k129 t).2 = true := (oknd (oknd (oknd (oknd (oklf ok129_0 t) (oklf ok129_2 t)) (oknd (oklf ok129_14 t) (oklf ok129_26 t))) (oknd (oknd (oklf ok129_39 t) (oklf ok129_86 t)) (oknd (oklf ok129_92 t) (oklf ok129_98 t)))) (oknd (oknd (oknd (oklf ok129_104 t) (oklf ok129_110 t)) (oknd (oklf ok129_119 t) (oklf ok129_150 t))) (oknd (oknd (oklf ok129_151 t) (oklf ok129_167 t)) (oknd (oklf ok129_180 t) (oknd (oklf ok129_182 t) (oklf ok129_203 t))))))
theorem ok130_22 : okL 130 22 c130_22 = true := by decide +kernel
theorem ok130_21 : okL 130 21 c130_21 = true := okl_of (n := 1) (q := 22) (by decide +kernel) rfl ok130_22
theorem ok130_0 : okL 130 0 c130_0 = true := by decide +kernel
theorem okk130 (t : Nat) : okL 130 t (k130 t).2 = true := (oknd (oklf ok130_0 t) (oknd (oklf ok130_21 t) (oklf ok130_22 t)))
theorem ok131_29 : okL 131 29 c131_29 = true := by decide +kernel
theorem ok131_26 : okL 131 26 c131_26 = true := okl_of (n := 3) (q := 29) (by decide +kernel) rfl ok131_29
theorem ok131_0 : okL 131 0 c131_0 = true := by decide +kernel
theorem okk131 (t : Nat) : okL 131 t (k131 t).2 = true := (oknd (oklf ok131_0 t) (oknd (oklf ok131_26 t) (oklf ok131_29 t)))
theorem ok132_80 : okL 132 80 c132_80 = true := by decide +kernel
theorem ok132_43 : okL 132 43 c132_43 = true := by decide +kernel
theorem ok132_42 : okL 132 42 c132_42 = true := by decide +kernel
theorem ok132_40 : okL 132 40 c132_40 = true := okl_of (n := 1) (q := 42) (by decide +kernel) rfl ok132_42
theorem ok132_0 : okL 132 0 c132_0 = true := by decide +kernel
theorem okk132 (t : Nat) : okL 132 t (k132 t).2 = true := (oknd (oknd (oklf ok132_0 t) (oklf ok132_40 t)) (oknd (oklf ok132_42 t) (oknd (oklf ok132_43 t) (oklf ok132_80 t))))
theorem ok133_30 : okL 133 30 c133_30 = true := by decide +kernel
theorem ok133_16 : okL 133 16 c133_16 = true := okl_of (n := 10) (q := 30) (by decide +kernel) rfl ok133_30
theorem ok133_0 : okL 133 0 c133_0 = true := by decide +kernel
theorem okk133 (t : Nat) : okL 133 t (k133 t).2 = true := (oknd (oklf ok133_0 t) (oknd (oklf ok133_16 t) (oklf ok133_30 t)))
theorem ok134_95 : okL 134 95 c134_95 = true := by decide +kernel
theorem ok134_89 : okL 134 89 c134_89 = true := by decide +kernel
theorem ok134_81 : okL 134 81 c134_81 = true := okl_of (n := 4) (q := 89) (by decide +kernel) rfl ok134_89
theorem ok134_70 : okL 134 70 c134_70 = true := by decide +kernel
theorem ok134_32 : okL 134 32 c134_32 = true := by decide +kernel
theorem ok134_9 : okL 134 9 c134_9 = true := by decide +kernel
theorem ok134_0 : okL 134 0 c134_0 = true := by decide +kernel
theorem okk134 (t : Nat) : okL 134 t (k134 t).2 = true := (oknd (oknd (oklf ok134_0 t) (oknd (oklf ok134_9 t) (oklf ok134_32 t))) (oknd (oknd (oklf ok134_70 t) (oklf ok134_81 t)) (oknd (oklf ok134_89 t) (oklf ok134_95 t))))
theorem ok135_145 : okL 135 145 c135_145 = true := by decide +kernel
theorem ok135_139 : okL 135 139 c135_139 = true := by decide +kernel
theorem ok135_133 : okL 135 133 c135_133 = true := by decide +kernel
theorem ok135_126 : okL 135 126 c135_126 = true := by decide +kernel
theorem ok135_90 : okL 135 90 c135_90 = true := okl_of (n := 21) (q := 126) (by decide +kernel) rfl ok135_126
theorem ok135_34 : okL 135 34 c135_34 = true := by decide +kernel
theorem ok135_20 : okL 135 20 c135_20 = true := by decide +kernel
theorem ok135_13 : okL 135 13 c135_13 = true := by decide +kernel
theorem ok135_0 : okL 135 0 c135_0 = true := by decide +kernel
theorem okk135 (t : Nat) : okL 135 t (k135 t).2 = true := (oknd (oknd (oknd (oklf ok135_0 t) (oklf ok135_13 t)) (oknd (oklf ok135_20 t) (oklf ok135_34 t))) (oknd (oknd (oklf ok135_90 t) (oklf ok135_126 t)) (oknd (oklf ok135_133 t) (oknd (oklf ok135_139 t) (oklf ok135_145 t)))))
theorem ok136_164 : okL 136 164 c136_164 = true := by decide +kernel
theorem ok136_158 : okL 136 158 c136_158 = true := by decide +kernel
theorem ok136_152 : okL 136 152 c136_152 = true := by decide +kernel
theorem ok136_145 : okL 136 145 c136_145 = true := by decide +kernel
theorem ok136_139 : okL 136 139 c136_139 = true := okl_of (n := 2) (q := 145) (by decide +kernel) rfl ok136_145
theorem ok136_138 : okL 136 138 c136_138 = true := okl_of (n := 1) (q := 139) (by decide +kernel) rfl ok136_139
theorem ok136_90 : okL 136 90 c136_90 = true := by decide +kernel
theorem ok136_34 : okL 136 34 c136_34 = true := by decide +kernel
theorem ok136_20 : okL 136 20 c136_20 = true := by decide +kernel
theorem ok136_13 : okL 136 13 c136_13 = true := by decide +kernel
theorem ok136_0 : okL 136 0 c136_0 = true := by decide +kernel
theorem okk136 (t : Nat) : okL 136 t (k136 t).2 = true := (oknd (oknd (oknd (oklf ok136_0 t) (oklf ok136_13 t)) (oknd (oklf ok136_20 t) (oknd (oklf ok136_34 t) (oklf ok136_90 t)))) (oknd (oknd (oklf ok136_138 t) (oknd (oklf ok136_139 t) (oklf ok136_145 t))) (oknd (oklf ok136_152 t) (oknd (oklf ok136_158 t) (oklf ok136_164 t)))))
theorem ok137_66 : okL 137 66 c137_66 = true := by decide +kernel
theorem ok137_60 : okL 137 60 c137_60 = true := by decide +kernel
theorem ok137_34 : okL 137 34 c137_34 = true := okl_of (n := 14) (q := 60) (by decide +kernel) rfl ok137_60
theorem ok137_6 : okL 137 6 c137_6 = true := okl_of (n := 15) (q := 34) (by decide +kernel) rfl ok137_34
theorem ok137_0 : okL 137 0 c137_0 = true := by decide +kernel
theorem okk137 (t : Nat) : okL 137 t (k137 t).2 = true := (oknd (oknd (oklf ok137_0 t) (oklf ok137_6 t)) (oknd (oklf ok137_34 t) (oknd (oklf ok137_60 t) (oklf ok137_66 t))))
theorem ok138_79 : okL 138 79 c138_79 = true := by decide +kernel
theorem ok138_73 : okL 138 73 c138_73 = true := by decide +kernel
theorem ok138_65 : okL 138 65 c138_65 = true := okl_of (n := 4) (q := 73) (by decide +kernel) rfl ok138_73
theorem ok138_32 : okL 138 32 c138_32 = true := by decide +kernel
theorem ok138_9 : okL 138 9 c138_9 = true := by decide +kernel
theorem ok138_0 : okL 138 0 c138_0 = true := by decide +kernel
theorem okk138 (t : Nat) : okL 138 t (k138 t).2 = true := (oknd (oknd (oklf ok138_0 t) (oknd (oklf ok138_9 t) (oklf ok138_32 t))) (oknd (oklf ok138_65 t) (oknd (oklf ok138_73 t) (oklf ok138_79 t))))
theorem ok139_121 : okL 139 121 c139_121 = true := by decide +kernel
theorem ok139_115 : okL 139 115 c139_115 = true := by decide +kernel
theorem ok139_83 : okL 139 83 c139_83 = true := okl_of (n := 17) (q := 115) (by decide +kernel) rfl ok139_115
theorem ok139_77 : okL 139 77 c139_77 = true := by decide +kernel
theorem ok139_31 : okL 139 31 c139_31 = true := by decide +kernel
theorem ok139_28 : okL 139 28 c139_28 = true := by decide +kernel
theorem ok139_3 : okL 139 3 c139_3 = true := by decide +kernel
theorem ok139_0 : okL 139 0 c139_0 = true := by decide +kernel
theorem okk139 (t : Nat) : okL 139 t (k139 t).2 = true := (oknd (oknd (oknd (oklf ok139_0 t) (oklf ok139_3 t)) (oknd (oklf ok139_28 t) (oklf ok139_31 t))) (oknd (oknd (oklf ok139_77 t) (oklf ok139_83 t)) (oknd (oklf ok139_115 t) (oklf ok139_121 t))))
theorem ok140_16 : okL 140 16 c140_16 = true := by decide +kernel
theorem ok140_2 : okL 140 2 c140_2 = true := by decide +kernel
theorem ok140_0 : okL 140 0 c140_0 = true := by decide +kernel
theorem okk140 (t : Nat) : okL 140 t (k140 t).2 = true := (oknd (oklf ok140_0 t) (oknd (oklf ok140_2 t) (oklf ok140_16 t)))
theorem ok141_203 : okL 141 203 c141_203 = true := by decide +kernel
theorem ok141_199 : okL 141 199 c141_199 = true := okl_of (n := 2) (q := 203) (by decide +kernel) rfl ok141_203
theorem ok141_172 : okL 141 172 c141_172 = true := by decide +kernel
theorem ok141_154 : okL 141 154 c141_154 = true := by decide +kernel
theorem ok141_149 : okL 141 149 c141_149 = true := by decide +kernel
theorem ok141_136 : okL 141 136 c141_136 = true := by decide +kernel
theorem ok141_118 : okL 141 118 c141_118 = true := by decide +kernel
theorem ok141_100 : okL 141 100 c141_100 = true := by decide +kernel
theorem ok141_53 : okL 141 53 c141_53 = true := by decide +kernel
theorem ok141_34 : okL 141 34 c141_34 = true := by decide +kernel
theorem ok141_18 : okL 141 18 c141_18 = true := okl_of (n := 8) (q := 34) (by decide +kernel) rfl ok141_34
theorem ok141_0 : okL 141 0 c141_0 = true := by decide +kernel
theorem okk141 (t : Nat) : okL 141 t (k141 t).2 = true := (oknd (oknd (oknd (oklf ok141_0 t) (oknd (oklf ok141_18 t) (oklf ok141_34 t))) (oknd (oklf ok141_53 t) (oknd (oklf ok141_100 t) (oklf ok141_118 t)))) (oknd (oknd (oklf ok141_136 t) (oknd (oklf ok141_149 t) (oklf ok141_154 t))) (oknd (oklf ok141_172 t) (oknd (oklf ok141_199 t) (oklf ok141_203 t)))))
