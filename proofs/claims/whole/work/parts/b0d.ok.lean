theorem ok196_283 : okL 196 283 c196_283 = true := by decide +kernel
theorem ok196_277 : okL 196 277 c196_277 = true := by decide +kernel
theorem ok196_271 : okL 196 271 c196_271 = true := by decide +kernel
theorem ok196_265 : okL 196 265 c196_265 = true := by decide +kernel
theorem ok196_259 : okL 196 259 c196_259 = true := by decide +kernel
theorem ok196_229 : okL 196 229 c196_229 = true := okl_of (n := 18) (q := 259) (by decide +kernel) rfl ok196_259
theorem ok196_207 : okL 196 207 c196_207 = true := okl_of (n := 13) (q := 229) (by decide +kernel) rfl ok196_229
theorem ok196_189 : okL 196 189 c196_189 = true := okl_of (n := 12) (q := 207) (by decide +kernel) rfl ok196_207
theorem ok196_179 : okL 196 179 c196_179 = true := by decide +kernel
theorem ok196_155 : okL 196 155 c196_155 = true := by decide +kernel
theorem ok196_133 : okL 196 133 c196_133 = true := by decide +kernel
theorem ok196_118 : okL 196 118 c196_118 = true := okl_of (n := 10) (q := 133) (by decide +kernel) rfl ok196_133
theorem ok196_80 : okL 196 80 c196_80 = true := by decide +kernel
theorem ok196_67 : okL 196 67 c196_67 = true := by decide +kernel
theorem ok196_55 : okL 196 55 c196_55 = true := by decide +kernel
theorem ok196_41 : okL 196 41 c196_41 = true := by decide +kernel
theorem ok196_21 : okL 196 21 c196_21 = true := by decide +kernel
theorem ok196_15 : okL 196 15 c196_15 = true := by decide +kernel
theorem ok196_0 : okL 196 0 c196_0 = true := by decide +kernel
theorem okk196 (t : Nat) : okL 196 t (k196 t).2 = true := (oknd (oknd (oknd (oknd (oklf ok196_0 t) (oklf ok196_15 t)) (oknd (oklf ok196_21 t) (oklf ok196_41 t))) (oknd (oknd (oklf ok196_55 t) (oklf ok196_67 t)) (oknd (oklf ok196_80 t) (oknd (oklf ok196_118 t) (oklf ok196_133 t))))) (oknd (oknd (oknd (oklf ok196_155 t) (oklf ok196_179 t)) (oknd (oklf ok196_189 t) (oknd (oklf ok196_207 t) (oklf ok196_229 t)))) (oknd (oknd (oklf ok196_259 t) (oklf ok196_265 t)) (oknd (oklf ok196_271 t) (oknd (oklf ok196_277 t) (oklf ok196_283 t))))))
theorem ok197_51 : okL 197 51 c197_51 = true := by decide +kernel
theorem ok197_17 : okL 197 17 c197_17 = true := by decide +kernel
theorem ok197_15 : okL 197 15 c197_15 = true := by decide +kernel
theorem ok197_0 : okL 197 0 c197_0 = true := by decide +kernel
theorem okk197 (t : Nat) : okL 197 t (k197 t).2 = true := (oknd (oknd (oklf ok197_0 t) (oklf ok197_15 t)) (oknd (oklf ok197_17 t) (oklf ok197_51 t)))
theorem ok198_60 : okL 198 60 c198_60 = true := by decide +kernel
theorem ok198_26 : okL 198 26 c198_26 = true := by decide +kernel
theorem ok198_14 : okL 198 14 c198_14 = true := by decide +kernel
theorem ok198_0 : okL 198 0 c198_0 = true := by decide +kernel
theorem okk198 (t : Nat) : okL 198 t (k198 t).2 = true := (oknd (oknd (oklf ok198_0 t) (oklf ok198_14 t)) (oknd (oklf ok198_26 t) (oklf ok198_60 t)))
theorem ok199_24 : okL 199 24 c199_24 = true := by decide +kernel
theorem ok199_23 : okL 199 23 c199_23 = true := okl_of (n := 1) (q := 24) (by decide +kernel) rfl ok199_24
theorem ok199_0 : okL 199 0 c199_0 = true := by decide +kernel
theorem okk199 (t : Nat) : okL 199 t (k199 t).2 = true := (oknd (oklf ok199_0 t) (oknd (oklf ok199_23 t) (oklf ok199_24 t)))
theorem ok200_95 : okL 200 95 c200_95 = true := by decide +kernel
theorem ok200_93 : okL 200 93 c200_93 = true := by decide +kernel
theorem ok200_85 : okL 200 85 c200_85 = true := by decide +kernel
theorem ok200_84 : okL 200 84 c200_84 = true := okl_of (n := 1) (q := 85) (by decide +kernel) rfl ok200_85
theorem ok200_60 : okL 200 60 c200_60 = true := by decide +kernel
theorem ok200_58 : okL 200 58 c200_58 = true := by decide +kernel
theorem ok200_53 : okL 200 53 c200_53 = true := by decide +kernel
theorem ok200_48 : okL 200 48 c200_48 = true := by decide +kernel
theorem ok200_40 : okL 200 40 c200_40 = true := by decide +kernel
theorem ok200_0 : okL 200 0 c200_0 = true := by decide +kernel
theorem okk200 (t : Nat) : okL 200 t (k200 t).2 = true := (oknd (oknd (oknd (oklf ok200_0 t) (oklf ok200_40 t)) (oknd (oklf ok200_48 t) (oknd (oklf ok200_53 t) (oklf ok200_58 t)))) (oknd (oknd (oklf ok200_60 t) (oklf ok200_84 t)) (oknd (oklf ok200_85 t) (oknd (oklf ok200_93 t) (oklf ok200_95 t)))))
theorem ok201_0 : okL 201 0 c201_0 = true := by decide +kernel
theorem okk201 (t : Nat) : okL 201 t (k201 t).2 = true := (oklf ok201_0 t)
theorem ok202_0 : okL 202 0 c202_0 = true := by decide +kernel
theorem okk202 (t : Nat) : okL 202 t (k202 t).2 = true := (oklf ok202_0 t)
theorem ok203_116 : okL 203 116 c203_116 = true := by decide +kernel
theorem ok203_58 : okL 203 58 c203_58 = true := by decide +kernel
theorem ok203_48 : okL 203 48 c203_48 = true := by decide +kernel
theorem ok203_17 : okL 203 17 c203_17 = true := by decide +kernel
theorem ok203_0 : okL 203 0 c203_0 = true := by decide +kernel
theorem okk203 (t : Nat) : okL 203 t (k203 t).2 = true := (oknd (oknd (oklf ok203_0 t) (oklf ok203_17 t)) (oknd (oklf ok203_48 t) (oknd (oklf ok203_58 t) (oklf ok203_116 t))))
theorem ok204_15 : okL 204 15 c204_15 = true := by decide +kernel
theorem ok204_13 : okL 204 13 c204_13 = true := okl_of (n := 1) (q := 15) (by decide +kernel) rfl ok204_15
theorem ok204_0 : okL 204 0 c204_0 = true := by decide +kernel
theorem okk204 (t : Nat) : okL 204 t (k204 t).2 = true := (oknd (oklf ok204_0 t) (oknd (oklf ok204_13 t) (oklf ok204_15 t)))
theorem ok205_24 : okL 205 24 c205_24 = true := by decide +kernel
theorem ok205_4 : okL 205 4 c205_4 = true := by decide +kernel
theorem ok205_0 : okL 205 0 c205_0 = true := by decide +kernel
theorem okk205 (t : Nat) : okL 205 t (k205 t).2 = true := (oknd (oklf ok205_0 t) (oknd (oklf ok205_4 t) (oklf ok205_24 t)))
theorem ok206_0 : okL 206 0 c206_0 = true := by decide +kernel
theorem okk206 (t : Nat) : okL 206 t (k206 t).2 = true := (oklf ok206_0 t)
theorem ok207_17 : okL 207 17 c207_17 = true := by decide +kernel
theorem ok207_14 : okL 207 14 c207_14 = true := okl_of (n := 3) (q := 17) (by decide +kernel) rfl ok207_17
theorem ok207_0 : okL 207 0 c207_0 = true := by decide +kernel
theorem okk207 (t : Nat) : okL 207 t (k207 t).2 = true := (oknd (oklf ok207_0 t) (oknd (oklf ok207_14 t) (oklf ok207_17 t)))
theorem ok208_31 : okL 208 31 c208_31 = true := by decide +kernel
theorem ok208_30 : okL 208 30 c208_30 = true := okl_of (n := 1) (q := 31) (by decide +kernel) rfl ok208_31
theorem ok208_18 : okL 208 18 c208_18 = true := by decide +kernel
theorem ok208_12 : okL 208 12 c208_12 = true := by decide +kernel
theorem ok208_0 : okL 208 0 c208_0 = true := by decide +kernel
theorem okk208 (t : Nat) : okL 208 t (k208 t).2 = true := (oknd (oknd (oklf ok208_0 t) (oklf ok208_12 t)) (oknd (oklf ok208_18 t) (oknd (oklf ok208_30 t) (oklf ok208_31 t))))
theorem ok209_25 : okL 209 25 c209_25 = true := by decide +kernel
theorem ok209_14 : okL 209 14 c209_14 = true := okl_of (n := 8) (q := 25) (by decide +kernel) rfl ok209_25
theorem ok209_0 : okL 209 0 c209_0 = true := by decide +kernel
theorem okk209 (t : Nat) : okL 209 t (k209 t).2 = true := (oknd (oklf ok209_0 t) (oknd (oklf ok209_14 t) (oklf ok209_25 t)))
theorem ok210_0 : okL 210 0 c210_0 = true := by decide +kernel
theorem okk210 (t : Nat) : okL 210 t (k210 t).2 = true := (oklf ok210_0 t)
theorem ok211_105 : okL 211 105 c211_105 = true := by decide +kernel
theorem ok211_96 : okL 211 96 c211_96 = true := by decide +kernel
theorem ok211_76 : okL 211 76 c211_76 = true := okl_of (n := 8) (q := 96) (by decide +kernel) rfl ok211_96
theorem ok211_70 : okL 211 70 c211_70 = true := by decide +kernel
theorem ok211_68 : okL 211 68 c211_68 = true := by decide +kernel
theorem ok211_50 : okL 211 50 c211_50 = true := okl_of (n := 7) (q := 68) (by decide +kernel) rfl ok211_68
theorem ok211_49 : okL 211 49 c211_49 = true := okl_of (n := 1) (q := 50) (by decide +kernel) rfl ok211_50
theorem ok211_22 : okL 211 22 c211_22 = true := by decide +kernel
theorem ok211_0 : okL 211 0 c211_0 = true := by decide +kernel
theorem okk211 (t : Nat) : okL 211 t (k211 t).2 = true := (oknd (oknd (oknd (oklf ok211_0 t) (oklf ok211_22 t)) (oknd (oklf ok211_49 t) (oklf ok211_50 t))) (oknd (oknd (oklf ok211_68 t) (oklf ok211_70 t)) (oknd (oklf ok211_76 t) (oknd (oklf ok211_96 t) (oklf ok211_105 t)))))
theorem ok212_90 : okL 212 90 c212_90 = true := by decide +kernel
theorem ok212_72 : okL 212 72 c212_72 = true := by decide +kernel
theorem ok212_54 : okL 212 54 c212_54 = true := by decide +kernel
theorem ok212_36 : okL 212 36 c212_36 = true := by decide +kernel
theorem ok212_18 : okL 212 18 c212_18 = true := by decide +kernel
theorem ok212_0 : okL 212 0 c212_0 = true := by decide +kernel
theorem okk212 (t : Nat) : okL 212 t (k212 t).2 = true := (oknd (oknd (oklf ok212_0 t) (oknd (oklf ok212_18 t) (oklf ok212_36 t))) (oknd (oklf ok212_54 t) (oknd (oklf ok212_72 t) (oklf ok212_90 t))))
theorem ok213_227 : okL 213 227 c213_227 = true := by decide +kernel
theorem ok213_218 : okL 213 218 c213_218 = true := by decide +kernel
theorem ok213_211 : okL 213 211 c213_211 = true := okl_of (n := 3) (q := 218) (by decide +kernel) rfl ok213_218
theorem ok213_165 : okL 213 165 c213_165 = true := by decide +kernel
theorem ok213_156 : okL 213 156 c213_156 = true := by decide +kernel
theorem ok213_149 : okL 213 149 c213_149 = true := okl_of (n := 3) (q := 156) (by decide +kernel) rfl ok213_156
theorem ok213_110 : okL 213 110 c213_110 = true := by decide +kernel
theorem ok213_101 : okL 213 101 c213_101 = true := by decide +kernel
theorem ok213_94 : okL 213 94 c213_94 = true := okl_of (n := 3) (q := 101) (by decide +kernel) rfl ok213_101
theorem ok213_55 : okL 213 55 c213_55 = true := by decide +kernel
theorem ok213_46 : okL 213 46 c213_46 = true := by decide +kernel
theorem ok213_39 : okL 213 39 c213_39 = true := okl_of (n := 3) (q := 46) (by decide +kernel) rfl ok213_46
theorem ok213_0 : okL 213 0 c213_0 = true := by decide +kernel
theorem okk213 (t : Nat) : okL 213 t (k213 t).2 = true := (oknd (oknd (oknd (oklf ok213_0 t) (oknd (oklf ok213_39 t) (oklf ok213_46 t))) (oknd (oklf ok213_55 t) (oknd (oklf ok213_94 t) (oklf ok213_101 t)))) (oknd (oknd (oklf ok213_110 t) (oknd (oklf ok213_149 t) (oklf ok213_156 t))) (oknd (oknd (oklf ok213_165 t) (oklf ok213_211 t)) (oknd (oklf ok213_218 t) (oklf ok213_227 t)))))
theorem ok214_25 : okL 214 25 c214_25 = true := by decide +kernel
theorem ok214_24 : okL 214 24 c214_24 = true := okl_of (n := 1) (q := 25) (by decide +kernel) rfl ok214_25
theorem ok214_0 : okL 214 0 c214_0 = true := by decide +kernel
theorem okk214 (t : Nat) : okL 214 t (k214 t).2 = true := (oknd (oklf ok214_0 t) (oknd (oklf ok214_24 t) (oklf ok214_25 t)))
theorem ok215_13 : okL 215 13 c215_13 = true := by decide +kernel
theorem ok215_0 : okL 215 0 c215_0 = true := by decide +kernel
theorem okk215 (t : Nat) : okL 215 t (k215 t).2 = true := (oknd (oklf ok215_0 t) (oklf ok215_13 t))
theorem ok216_0 : okL 216 0 c216_0 = true := by decide +kernel
theorem okk216 (t : Nat) : okL 216 t (k216 t).2 = true := (oklf ok216_0 t)
theorem ok217_11 : okL 217 11 c217_11 = true := by decide +kernel
theorem ok217_0 : okL 217 0 c217_0 = true := okl_of (n := 5) (q := 11) (by decide +kernel) rfl ok217_11
theorem okk217 (t : Nat) : okL 217 t (k217 t).2 = true := (oknd (oklf ok217_0 t) (oklf ok217_11 t))
theorem ok218_110 : okL 218 110 c218_110 = true := by decide +kernel
theorem ok218_109 : okL 218 109 c218_109 = true := okl_of (n := 1) (q := 110) (by decide +kernel) rfl ok218_110
theorem ok218_105 : okL 218 105 c218_105 = true := by decide +kernel
theorem ok218_63 : okL 218 63 c218_63 = true := okl_of (n := 22) (q := 105) (by decide +kernel) rfl ok218_105
theorem ok218_62 : okL 218 62 c218_62 = true := okl_of (n := 1) (q := 63) (by decide +kernel) rfl ok218_63
theorem ok218_46 : okL 218 46 c218_46 = true := by decide +kernel
theorem ok218_30 : okL 218 30 c218_30 = true := by decide +kernel
theorem ok218_22 : okL 218 22 c218_22 = true := by decide +kernel
theorem ok218_21 : okL 218 21 c218_21 = true := okl_of (n := 1) (q := 22) (by decide +kernel) rfl ok218_22
theorem ok218_0 : okL 218 0 c218_0 = true := by decide +kernel
theorem okk218 (t : Nat) : okL 218 t (k218 t).2 = true := (oknd (oknd (oknd (oklf ok218_0 t) (oklf ok218_21 t)) (oknd (oklf ok218_22 t) (oknd (oklf ok218_30 t) (oklf ok218_46 t)))) (oknd (oknd (oklf ok218_62 t) (oklf ok218_63 t)) (oknd (oklf ok218_105 t) (oknd (oklf ok218_109 t) (oklf ok218_110 t)))))
theorem ok219_87 : okL 219 87 c219_87 = true := by decide +kernel
theorem ok219_67 : okL 219 67 c219_67 = true := by decide +kernel
theorem ok219_40 : okL 219 40 c219_40 = true := by decide +kernel
theorem ok219_22 : okL 219 22 c219_22 = true := by decide +kernel
theorem ok219_21 : okL 219 21 c219_21 = true := okl_of (n := 1) (q := 22) (by decide +kernel) rfl ok219_22
theorem ok219_0 : okL 219 0 c219_0 = true := by decide +kernel
theorem okk219 (t : Nat) : okL 219 t (k219 t).2 = true := (oknd (oknd (oklf ok219_0 t) (oknd (oklf ok219_21 t) (oklf ok219_22 t))) (oknd (oklf ok219_40 t) (oknd (oklf ok219_67 t) (oklf ok219_87 t))))
theorem ok220_32 : okL 220 32 c220_32 = true := by decide +kernel
theorem ok220_21 : okL 220 21 c220_21 = true := by decide +kernel
theorem ok220_20 : okL 220 20 c220_20 = true := okl_of (n := 1) (q := 21) (by decide +kernel) rfl ok220_21
theorem ok220_0 : okL 220 0 c220_0 = true := by decide +kernel
theorem okk220 (t : Nat) : okL 220 t (k220 t).2 = true := (oknd (oknd (oklf ok220_0 t) (oklf ok220_20 t)) (oknd (oklf ok220_21 t) (oklf ok220_32 t)))
theorem ok221_151 : okL 221 151 c221_151 = true := by decide +kernel
theorem ok221_105 : okL 221 105 c221_105 = true := by decide +kernel
theorem ok221_102 : okL 221 102 c221_102 = true := by decide +kernel
theorem ok221_90 : okL 221 90 c221_90 = true := by decide +kernel
theorem ok221_60 : okL 221 60 c221_60 = true := by decide +kernel
theorem ok221_40 : okL 221 40 c221_40 = true := by decide +kernel
theorem ok221_20 : okL 221 20 c221_20 = true := by decide +kernel
theorem ok221_0 : okL 221 0 c221_0 = true := by decide +kernel
theorem okk221 (t : Nat) : okL 221 t (k221 t).2 = true := (oknd (oknd (oknd (oklf ok221_0 t) (oklf ok221_20 t)) (oknd (oklf ok221_40 t) (oklf ok221_60 t))) (oknd (oknd (oklf ok221_90 t) (oklf ok221_102 t)) (oknd (oklf ok221_105 t) (oklf ok221_151 t))))
theorem ok222_46 : okL 222 46 c222_46 = true := by decide +kernel
theorem ok222_40 : okL 222 40 c222_40 = true := by decide +kernel
theorem ok222_37 : okL 222 37 c222_37 = true := okl_of (n := 1) (q := 40) (by decide +kernel) rfl ok222_40
theorem ok222_5 : okL 222 5 c222_5 = true := okl_of (n := 15) (q := 37) (by decide +kernel) rfl ok222_37
theorem ok222_0 : okL 222 0 c222_0 = true := by decide +kernel
theorem okk222 (t : Nat) : okL 222 t (k222 t).2 = true := (oknd (oknd (oklf ok222_0 t) (oklf ok222_5 t)) (oknd (oklf ok222_37 t) (oknd (oklf ok222_40 t) (oklf ok222_46 t))))
theorem ok223_67 : okL 223 67 c223_67 = true := by decide +kernel
theorem ok223_47 : okL 223 47 c223_47 = true := by decide +kernel
theorem ok223_20 : okL 223 20 c223_20 = true := by decide +kernel
theorem ok223_0 : okL 223 0 c223_0 = true := by decide +kernel
theorem okk223 (t : Nat) : okL 223 t (k223 t).2 = true := (oknd (oknd (oklf ok223_0 t) (oklf ok223_20 t)) (oknd (oklf ok223_47 t) (oklf ok223_67 t)))
theorem ok224_0 : okL 224 0 c224_0 = true := by decide +kernel
theorem okk224 (t : Nat) : okL 224 t (k224 t).2 = true := (oklf ok224_0 t)
theorem ok225_0 : okL 225 0 c225_0 = true := by decide +kernel
theorem okk225 (t : Nat) : okL 225 t (k225 t).2 = true := (oklf ok225_0 t)
theorem ok226_30 : okL 226 30 c226_30 = true := by decide +kernel
theorem ok226_0 : okL 226 0 c226_0 = true := okl_of (n := 16) (q := 30) (by decide +kernel) rfl ok226_30
theorem okk226 (t : Nat) : okL 226 t (k226 t).2 = true := (oknd (oklf ok226_0 t) (oklf ok226_30 t))
theorem ok227_42 : okL 227 42 c227_42 = true := by decide +kernel
theorem ok227_0 : okL 227 0 c227_0 = true := okl_of (n := 23) (q := 42) (by decide +kernel) rfl ok227_42
theorem okk227 (t : Nat) : okL 227 t (k227 t).2 = true := (oknd (oklf ok227_0 t) (oklf ok227_42 t))
theorem ok228_41 : okL 228 41 c228_41 = true := by decide +kernel
theorem ok228_35 : okL 228 35 c228_35 = true := by decide +kernel
theorem ok228_2 : okL 228 2 c228_2 = true := by decide +kernel
theorem ok228_0 : okL 228 0 c228_0 = true := by decide +kernel
theorem okk228 (t : Nat) : okL 228 t (k228 t).2 = true := (oknd (oknd (oklf ok228_0 t) (oklf ok228_2 t)) (oknd (oklf ok228_35 t) (oklf ok228_41 t)))
theorem ok229_387 : okL 229 387 c229_387 = true := by decide +kernel
theorem ok229_386 : okL 229 386 c229_386 = true := okl_of (n := 1) (q := 387) (by decide +kernel) rfl ok229_387
theorem ok229_369 : okL 229 369 c229_369 = true := by decide +kernel
theorem ok229_363 : okL 229 363 c229_363 = true := by decide +kernel
theorem ok229_362 : okL 229 362 c229_362 = true := okl_of (n := 1) (q := 363) (by decide +kernel) rfl ok229_363
theorem ok229_357 : okL 229 357 c229_357 = true := okl_of (n := 3) (q := 362) (by decide +kernel) rfl ok229_362
theorem ok229_341 : okL 229 341 c229_341 = true := by decide +kernel
theorem ok229_325 : okL 229 325 c229_325 = true := by decide +kernel
theorem ok229_309 : okL 229 309 c229_309 = true := by decide +kernel
theorem ok229_293 : okL 229 293 c229_293 = true := by decide +kernel
theorem ok229_289 : okL 229 289 c229_289 = true := by decide +kernel
theorem ok229_288 : okL 229 288 c229_288 = true := okl_of (n := 1) (q := 289) (by decide +kernel) rfl ok229_289
theorem ok229_270 : okL 229 270 c229_270 = true := by decide +kernel
theorem ok229_266 : okL 229 266 c229_266 = true := by decide +kernel
theorem ok229_265 : okL 229 265 c229_265 = true := okl_of (n := 1) (q := 266) (by decide +kernel) rfl ok229_266
theorem ok229_247 : okL 229 247 c229_247 = true := by decide +kernel
theorem ok229_243 : okL 229 243 c229_243 = true := by decide +kernel
theorem ok229_242 : okL 229 242 c229_242 = true := okl_of (n := 1) (q := 243) (by decide +kernel) rfl ok229_243
theorem ok229_224 : okL 229 224 c229_224 = true := by decide +kernel
theorem ok229_208 : okL 229 208 c229_208 = true := by decide +kernel
theorem ok229_192 : okL 229 192 c229_192 = true := by decide +kernel
theorem ok229_121 : okL 229 121 c229_121 = true := by decide +kernel
theorem ok229_93 : okL 229 93 c229_93 = true := by decide +kernel
theorem ok229_88 : okL 229 88 c229_88 = true := by decide +kernel
theorem ok229_87 : okL 229 87 c229_87 = true := okl_of (n := 1) (q := 88) (by decide +kernel) rfl ok229_88
theorem ok229_75 : okL 229 75 c229_75 = true := by decide +kernel
theorem ok229_68 : okL 229 68 c229_68 = true := by decide +kernel
theorem ok229_59 : okL 229 59 c229_59 = true := okl_of (n := 6) (q := 68) (by decide +kernel) rfl ok229_68
theorem ok229_44 : okL 229 44 c229_44 = true := by decide +kernel
theorem ok229_9 : okL 229 9 c229_9 = true := by decide +kernel
theorem ok229_0 : okL 229 0 c229_0 = true := by decide +kernel
theorem okk229 (t : Nat) : okL 229 t (k229 t).2 = true := (oknd (oknd (oknd (oknd (oklf ok229_0 t) (oknd (oklf ok229_9 t) (oklf ok229_44 t))) (oknd (oknd (oklf ok229_59 t) (oklf ok229_68 t)) (oknd (oklf ok229_75 t) (oklf ok229_87 t)))) (oknd (oknd (oknd (oklf ok229_88 t) (oklf ok229_93 t)) (oknd (oklf ok229_121 t) (oklf ok229_192 t))) (oknd (oknd (oklf ok229_208 t) (oklf ok229_224 t)) (oknd (oklf ok229_242 t) (oklf ok229_243 t))))) (oknd (oknd (oknd (oknd (oklf ok229_247 t) (oklf ok229_265 t)) (oknd (oklf ok229_266 t) (oklf ok229_270 t))) (oknd (oknd (oklf ok229_288 t) (oklf ok229_289 t)) (oknd (oklf ok229_293 t) (oklf ok229_309 t)))) (oknd (oknd (oknd (oklf ok229_325 t) (oklf ok229_341 t)) (oknd (oklf ok229_357 t) (oklf ok229_362 t))) (oknd (oknd (oklf ok229_363 t) (oklf ok229_369 t)) (oknd (oklf ok229_386 t) (oklf ok229_387 t))))))
theorem ok230_0 : okL 230 0 c230_0 = true := by decide +kernel
theorem okk230 (t : Nat) : okL 230 t (k230 t).2 = true := (oklf ok230_0 t)
theorem ok231_64 : okL 231 64 c231_64 = true := by decide +kernel
theorem ok231_58 : okL 231 58 c231_58 = true := by decide +kernel
theorem ok231_50 : okL 231 50 c231_50 = true := by decide +kernel
theorem ok231_49 : okL 231 49 c231_49 = true := okl_of (n := 1) (q := 50) (by decide +kernel) rfl ok231_50
theorem ok231_22 : okL 231 22 c231_22 = true := by decide +kernel
theorem ok231_0 : okL 231 0 c231_0 = true := by decide +kernel
theorem okk231 (t : Nat) : okL 231 t (k231 t).2 = true := (oknd (oknd (oklf ok231_0 t) (oknd (oklf ok231_22 t) (oklf ok231_49 t))) (oknd (oklf ok231_50 t) (oknd (oklf ok231_58 t) (oklf ok231_64 t))))
theorem ok232_119 : okL 232 119 c232_119 = true := by decide +kernel
theorem ok232_118 : okL 232 118 c232_118 = true := okl_of (n := 1) (q := 119) (by decide +kernel) rfl ok232_119
theorem ok232_106 : okL 232 106 c232_106 = true := by decide +kernel
theorem ok232_104 : okL 232 104 c232_104 = true := by decide +kernel
theorem ok232_76 : okL 232 76 c232_76 = true := okl_of (n := 13) (q := 104) (by decide +kernel) rfl ok232_104
theorem ok232_48 : okL 232 48 c232_48 = true := by decide +kernel
theorem ok232_35 : okL 232 35 c232_35 = true := by decide +kernel
theorem ok232_0 : okL 232 0 c232_0 = true := by decide +kernel
theorem okk232 (t : Nat) : okL 232 t (k232 t).2 = true := (oknd (oknd (oknd (oklf ok232_0 t) (oklf ok232_35 t)) (oknd (oklf ok232_48 t) (oklf ok232_76 t))) (oknd (oknd (oklf ok232_104 t) (oklf ok232_106 t)) (oknd (oklf ok232_118 t) (oklf ok232_119 t))))
theorem ok233_70 : okL 233 70 c233_70 = true := by decide +kernel
theorem ok233_50 : okL 233 50 c233_50 = true := by decide +kernel
theorem ok233_20 : okL 233 20 c233_20 = true := by decide +kernel
theorem ok233_11 : okL 233 11 c233_11 = true := by decide +kernel
theorem ok233_0 : okL 233 0 c233_0 = true := by decide +kernel
theorem okk233 (t : Nat) : okL 233 t (k233 t).2 = true := (oknd (oknd (oklf ok233_0 t) (oklf ok233_11 t)) (oknd (oklf ok233_20 t) (oknd (oklf ok233_50 t) (oklf ok233_70 t))))
theorem ok234_48 : okL 234 48 c234_48 = true := by decide +kernel
theorem ok234_41 : okL 234 41 c234_41 = true := by decide +kernel
theorem ok234_35 : okL 234 35 c234_35 = true := by decide +kernel
theorem ok234_28 : okL 234 28 c234_28 = true := by decide +kernel
theorem ok234_0 : okL 234 0 c234_0 = true := by decide +kernel
theorem okk234 (t : Nat) : okL 234 t (k234 t).2 = true := (oknd (oknd (oklf ok234_0 t) (oklf ok234_28 t)) (oknd (oklf ok234_35 t) (oknd (oklf ok234_41 t) (oklf ok234_48 t))))
theorem ok235_137 : okL 235 137 c235_137 = true := by decide +kernel
theorem ok235_136 : okL 235 136 c235_136 = true := okl_of (n := 1) (q := 137) (by decide +kernel) rfl ok235_137
theorem ok235_119 : okL 235 119 c235_119 = true := by decide +kernel
theorem ok235_102 : okL 235 102 c235_102 = true := by decide +kernel
theorem ok235_101 : okL 235 101 c235_101 = true := by decide +kernel
theorem ok235_100 : okL 235 100 c235_100 = true := okl_of (n := 1) (q := 101) (by decide +kernel) rfl ok235_101
theorem ok235_83 : okL 235 83 c235_83 = true := by decide +kernel
theorem ok235_66 : okL 235 66 c235_66 = true := by decide +kernel
theorem ok235_65 : okL 235 65 c235_65 = true := by decide +kernel
theorem ok235_64 : okL 235 64 c235_64 = true := okl_of (n := 1) (q := 65) (by decide +kernel) rfl ok235_65
theorem ok235_47 : okL 235 47 c235_47 = true := by decide +kernel
theorem ok235_46 : okL 235 46 c235_46 = true := by decide +kernel
theorem ok235_45 : okL 235 45 c235_45 = true := okl_of (n := 1) (q := 46) (by decide +kernel) rfl ok235_46
theorem ok235_28 : okL 235 28 c235_28 = true := by decide +kernel
theorem ok235_0 : okL 235 0 c235_0 = true := by decide +kernel
theorem okk235 (t : Nat) : okL 235 t (k235 t).2 = true := (oknd (oknd (oknd (oklf ok235_0 t) (oknd (oklf ok235_28 t) (oklf ok235_45 t))) (oknd (oknd (oklf ok235_46 t) (oklf ok235_47 t)) (oknd (oklf ok235_64 t) (oklf ok235_65 t)))) (oknd (oknd (oknd (oklf ok235_66 t) (oklf ok235_83 t)) (oknd (oklf ok235_100 t) (oklf ok235_101 t))) (oknd (oknd (oklf ok235_102 t) (oklf ok235_119 t)) (oknd (oklf ok235_136 t) (oklf ok235_137 t)))))
theorem ok236_92 : okL 236 92 c236_92 = true := by decide +kernel
theorem ok236_91 : okL 236 91 c236_91 = true := by decide +kernel
theorem ok236_90 : okL 236 90 c236_90 = true := okl_of (n := 1) (q := 91) (by decide +kernel) rfl ok236_91
theorem ok236_43 : okL 236 43 c236_43 = true := by decide +kernel
theorem ok236_32 : okL 236 32 c236_32 = true := by decide +kernel
theorem ok236_30 : okL 236 30 c236_30 = true := by decide +kernel
theorem ok236_0 : okL 236 0 c236_0 = true := okl_of (n := 15) (q := 30) (by decide +kernel) rfl ok236_30
theorem okk236 (t : Nat) : okL 236 t (k236 t).2 = true := (oknd (oknd (oklf ok236_0 t) (oknd (oklf ok236_30 t) (oklf ok236_32 t))) (oknd (oknd (oklf ok236_43 t) (oklf ok236_90 t)) (oknd (oklf ok236_91 t) (oklf ok236_92 t))))
theorem ok237_15 : okL 237 15 c237_15 = true := by decide +kernel
theorem ok237_0 : okL 237 0 c237_0 = true := by decide +kernel
theorem okk237 (t : Nat) : okL 237 t (k237 t).2 = true := (oknd (oklf ok237_0 t) (oklf ok237_15 t))
theorem ok238_95 : okL 238 95 c238_95 = true := by decide +kernel
theorem ok238_77 : okL 238 77 c238_77 = true := by decide +kernel
theorem ok238_63 : okL 238 63 c238_63 = true := by decide +kernel
theorem ok238_62 : okL 238 62 c238_62 = true := okl_of (n := 1) (q := 63) (by decide +kernel) rfl ok238_63
theorem ok238_45 : okL 238 45 c238_45 = true := by decide +kernel
theorem ok238_28 : okL 238 28 c238_28 = true := by decide +kernel
theorem ok238_11 : okL 238 11 c238_11 = true := by decide +kernel
theorem ok238_0 : okL 238 0 c238_0 = true := by decide +kernel
theorem okk238 (t : Nat) : okL 238 t (k238 t).2 = true := (oknd (oknd (oknd (oklf ok238_0 t) (oklf ok238_11 t)) (oknd (oklf ok238_28 t) (oklf ok238_45 t))) (oknd (oknd (oklf ok238_62 t) (oklf ok238_63 t)) (oknd (oklf ok238_77 t) (oklf ok238_95 t))))
theorem ok239_122 : okL 239 122 c239_122 = true := by decide +kernel
theorem ok239_112 : okL 239 112 c239_112 = true := okl_of (n := 6) (q := 122) (by decide +kernel) rfl ok239_122
theorem ok239_93 : okL 239 93 c239_93 = true := by decide +kernel
theorem ok239_76 : okL 239 76 c239_76 = true := by decide +kernel
theorem ok239_49 : okL 239 49 c239_49 = true := by decide +kernel
theorem ok239_48 : okL 239 48 c239_48 = true := by decide +kernel
theorem ok239_47 : okL 239 47 c239_47 = true := okl_of (n := 1) (q := 48) (by decide +kernel) rfl ok239_48
theorem ok239_0 : okL 239 0 c239_0 = true := by decide +kernel
theorem okk239 (t : Nat) : okL 239 t (k239 t).2 = true := (oknd (oknd (oknd (oklf ok239_0 t) (oklf ok239_47 t)) (oknd (oklf ok239_48 t) (oklf ok239_49 t))) (oknd (oknd (oklf ok239_76 t) (oklf ok239_93 t)) (oknd (oklf ok239_112 t) (oklf ok239_122 t))))
theorem ok240_117 : okL 240 117 c240_117 = true := by decide +kernel
theorem ok240_116 : okL 240 116 c240_116 = true := okl_of (n := 1) (q := 117) (by decide +kernel) rfl ok240_117
theorem ok240_99 : okL 240 99 c240_99 = true := by decide +kernel
theorem ok240_84 : okL 240 84 c240_84 = true := by decide +kernel
theorem ok240_70 : okL 240 70 c240_70 = true := by decide +kernel
theorem ok240_56 : okL 240 56 c240_56 = true := by decide +kernel
theorem ok240_42 : okL 240 42 c240_42 = true := by decide +kernel
theorem ok240_28 : okL 240 28 c240_28 = true := by decide +kernel
theorem ok240_14 : okL 240 14 c240_14 = true := by decide +kernel
theorem ok240_0 : okL 240 0 c240_0 = true := by decide +kernel
theorem okk240 (t : Nat) : okL 240 t (k240 t).2 = true := (oknd (oknd (oknd (oklf ok240_0 t) (oklf ok240_14 t)) (oknd (oklf ok240_28 t) (oknd (oklf ok240_42 t) (oklf ok240_56 t)))) (oknd (oknd (oklf ok240_70 t) (oklf ok240_84 t)) (oknd (oklf ok240_99 t) (oknd (oklf ok240_116 t) (oklf ok240_117 t)))))
theorem ok241_0 : okL 241 0 c241_0 = true := by decide +kernel
theorem okk241 (t : Nat) : okL 241 t (k241 t).2 = true := (oklf ok241_0 t)
theorem ok242_0 : okL 242 0 c242_0 = true := by decide +kernel
theorem okk242 (t : Nat) : okL 242 t (k242 t).2 = true := (oklf ok242_0 t)
theorem ok243_0 : okL 243 0 c243_0 = true := by decide +kernel
theorem okk243 (t : Nat) : okL 243 t (k243 t).2 = true := (oklf ok243_0 t)
theorem ok244_42 : okL 244 42 c244_42 = true := by decide +kernel
theorem ok244_34 : okL 244 34 c244_34 = true := okl_of (n := 6) (q := 42) (by decide +kernel) rfl ok244_42
theorem ok244_30 : okL 244 30 c244_30 = true := by decide +kernel
theorem ok244_17 : okL 244 17 c244_17 = true := okl_of (n := 7) (q := 30) (by decide +kernel) rfl ok244_30
theorem ok244_0 : okL 244 0 c244_0 = true := by decide +kernel
theorem okk244 (t : Nat) : okL 244 t (k244 t).2 = true := (oknd (oknd (oklf ok244_0 t) (oklf ok244_17 t)) (oknd (oklf ok244_30 t) (oknd (oklf ok244_34 t) (oklf ok244_42 t))))
theorem ok245_34 : okL 245 34 c245_34 = true := by decide +kernel
theorem ok245_26 : okL 245 26 c245_26 = true := by decide +kernel
theorem ok245_25 : okL 245 25 c245_25 = true := okl_of (n := 1) (q := 26) (by decide +kernel) rfl ok245_26
theorem ok245_4 : okL 245 4 c245_4 = true := by decide +kernel
theorem ok245_0 : okL 245 0 c245_0 = true := by decide +kernel
theorem okk245 (t : Nat) : okL 245 t (k245 t).2 = true := (oknd (oknd (oklf ok245_0 t) (oklf ok245_4 t)) (oknd (oklf ok245_25 t) (oknd (oklf ok245_26 t) (oklf ok245_34 t))))
theorem ok246_0 : okL 246 0 c246_0 = true := by decide +kernel
theorem okk246 (t : Nat) : okL 246 t (k246 t).2 = true := (oklf ok246_0 t)
theorem ok247_67 : okL 247 67 c247_67 = true := by decide +kernel
theorem ok247_49 : okL 247 49 c247_49 = true := by decide +kernel
theorem ok247_0 : okL 247 0 c247_0 = true := by decide +kernel
theorem okk247 (t : Nat) : okL 247 t (k247 t).2 = true := (oknd (oklf ok247_0 t) (oknd (oklf ok247_49 t) (oklf ok247_67 t)))
theorem ok248_0 : okL 248 0 c248_0 = true := by decide +kernel
theorem okk248 (t : Nat) : okL 248 t (k248 t).2 = true := (oklf ok248_0 t)
theorem ok249_70 : okL 249 70 c249_70 = true := by decide +kernel
theorem ok249_63 : okL 249 63 c249_63 = true := by decide +kernel
theorem ok249_49 : okL 249 49 c249_49 = true := okl_of (n := 9) (q := 63) (by decide +kernel) rfl ok249_63
theorem ok249_44 : okL 249 44 c249_44 = true := by decide +kernel
theorem ok249_3 : okL 249 3 c249_3 = true := okl_of (n := 21) (q := 44) (by decide +kernel) rfl ok249_44
theorem ok249_0 : okL 249 0 c249_0 = true := by decide +kernel
theorem okk249 (t : Nat) : okL 249 t (k249 t).2 = true := (oknd (oknd (oklf ok249_0 t) (oknd (oklf ok249_3 t) (oklf ok249_44 t))) (oknd (oklf ok249_49 t) (oknd (oklf ok249_63 t) (oklf ok249_70 t))))
theorem ok250_27 : okL 250 27 c250_27 = true := by decide +kernel
theorem ok250_4 : okL 250 4 c250_4 = true := by decide +kernel
theorem ok250_0 : okL 250 0 c250_0 = true := by decide +kernel
theorem okk250 (t : Nat) : okL 250 t (k250 t).2 = true := (oknd (oklf ok250_0 t) (oknd (oklf ok250_4 t) (oklf ok250_27 t)))
theorem ok251_107 : okL 251 107 c251_107 = true := by decide +kernel
theorem ok251_83 : okL 251 83 c251_83 = true := by decide +kernel
theorem ok251_67 : okL 251 67 c251_67 = true := by decide +kernel
theorem ok251_41 : okL 251 41 c251_41 = true := by decide +kernel
theorem ok251_37 : okL 251 37 c251_37 = true := by decide +kernel
theorem ok251_31 : okL 251 31 c251_31 = true := by decide +kernel
theorem ok251_4 : okL 251 4 c251_4 = true := by decide +kernel
theorem ok251_0 : okL 251 0 c251_0 = true := by decide +kernel
theorem okk251 (t : Nat) : okL 251 t (k251 t).2 = true := (oknd (oknd (oknd (oklf ok251_0 t) (oklf ok251_4 t)) (oknd (oklf ok251_31 t) (oklf ok251_37 t))) (oknd (oknd (oklf ok251_41 t) (oklf ok251_67 t)) (oknd (oklf ok251_83 t) (oklf ok251_107 t))))
theorem ok252_0 : okL 252 0 c252_0 = true := by decide +kernel
theorem okk252 (t : Nat) : okL 252 t (k252 t).2 = true := (oklf ok252_0 t)
theorem ok253_0 : okL 253 0 c253_0 = true := by decide +kernel
theorem okk253 (t : Nat) : okL 253 t (k253 t).2 = true := (oklf ok253_0 t)
theorem ok254_0 : okL 254 0 c254_0 = true := by decide +kernel
theorem okk254 (t : Nat) : okL 254 t (k254 t).2 = true := (oklf ok254_0 t)
theorem ok255_0 : okL 255 0 c255_0 = true := by decide +kernel
theorem okk255 (t : Nat) : okL 255 t (k255 t).2 = true := (oklf ok255_0 t)
theorem ok256_260 : okL 256 260 c256_260 = true := by decide +kernel
theorem ok256_243 : okL 256 243 c256_243 = true := okl_of (n := 9) (q := 260) (by decide +kernel) rfl ok256_260
theorem ok256_241 : okL 256 241 c256_241 = true := okl_of (n := 1) (q := 243) (by decide +kernel) rfl ok256_243
theorem ok256_232 : okL 256 232 c256_232 = true := by decide +kernel
theorem ok256_226 : okL 256 226 c256_226 = true := by decide +kernel
theorem ok256_182 : okL 256 182 c256_182 = true := okl_of (n := 24) (q := 226) (by decide +kernel) rfl ok256_226
theorem ok256_144 : okL 256 144 c256_144 = true := by decide +kernel
theorem ok256_139 : okL 256 139 c256_139 = true := by decide +kernel
theorem ok256_138 : okL 256 138 c256_138 = true := okl_of (n := 1) (q := 139) (by decide +kernel) rfl ok256_139
theorem ok256_98 : okL 256 98 c256_98 = true := by decide +kernel
theorem ok256_97 : okL 256 97 c256_97 = true := okl_of (n := 1) (q := 98) (by decide +kernel) rfl ok256_98
theorem ok256_44 : okL 256 44 c256_44 = true := by decide +kernel
theorem ok256_0 : okL 256 0 c256_0 = true := by decide +kernel
theorem okk256 (t : Nat) : okL 256 t (k256 t).2 = true := (oknd (oknd (oknd (oklf ok256_0 t) (oknd (oklf ok256_44 t) (oklf ok256_97 t))) (oknd (oklf ok256_98 t) (oknd (oklf ok256_138 t) (oklf ok256_139 t)))) (oknd (oknd (oklf ok256_144 t) (oknd (oklf ok256_182 t) (oklf ok256_226 t))) (oknd (oknd (oklf ok256_232 t) (oklf ok256_241 t)) (oknd (oklf ok256_243 t) (oklf ok256_260 t)))))
theorem ok257_152 : okL 257 152 c257_152 = true := by decide +kernel
theorem ok257_146 : okL 257 146 c257_146 = true := by decide +kernel
theorem ok257_140 : okL 257 140 c257_140 = true := by decide +kernel
theorem ok257_134 : okL 257 134 c257_134 = true := by decide +kernel
theorem ok257_102 : okL 257 102 c257_102 = true := okl_of (n := 16) (q := 134) (by decide +kernel) rfl ok257_134
theorem ok257_97 : okL 257 97 c257_97 = true := by decide +kernel
theorem ok257_84 : okL 257 84 c257_84 = true := okl_of (n := 8) (q := 97) (by decide +kernel) rfl ok257_97
theorem ok257_56 : okL 257 56 c257_56 = true := by decide +kernel
theorem ok257_48 : okL 257 48 c257_48 = true := by decide +kernel
theorem ok257_45 : okL 257 45 c257_45 = true := by decide +kernel
theorem ok257_0 : okL 257 0 c257_0 = true := okl_of (n := 21) (q := 45) (by decide +kernel) rfl ok257_45
theorem okk257 (t : Nat) : okL 257 t (k257 t).2 = true := (oknd (oknd (oknd (oklf ok257_0 t) (oklf ok257_45 t)) (oknd (oklf ok257_48 t) (oknd (oklf ok257_56 t) (oklf ok257_84 t)))) (oknd (oknd (oklf ok257_97 t) (oknd (oklf ok257_102 t) (oklf ok257_134 t))) (oknd (oklf ok257_140 t) (oknd (oklf ok257_146 t) (oklf ok257_152 t)))))
