theorem ok142_218 : okL 142 218 c142_218 = true := by decide +kernel
theorem ok142_212 : okL 142 212 c142_212 = true := by decide +kernel
theorem ok142_206 : okL 142 206 c142_206 = true := by decide +kernel
theorem ok142_200 : okL 142 200 c142_200 = true := by decide +kernel
theorem ok142_193 : okL 142 193 c142_193 = true := by decide +kernel
theorem ok142_169 : okL 142 169 c142_169 = true := okl_of (n := 14) (q := 193) (by decide +kernel) rfl ok142_193
theorem ok142_127 : okL 142 127 c142_127 = true := by decide +kernel
theorem ok142_123 : okL 142 123 c142_123 = true := by decide +kernel
theorem ok142_98 : okL 142 98 c142_98 = true := okl_of (n := 16) (q := 123) (by decide +kernel) rfl ok142_123
theorem ok142_58 : okL 142 58 c142_58 = true := by decide +kernel
theorem ok142_46 : okL 142 46 c142_46 = true := by decide +kernel
theorem ok142_40 : okL 142 40 c142_40 = true := by decide +kernel
theorem ok142_33 : okL 142 33 c142_33 = true := by decide +kernel
theorem ok142_27 : okL 142 27 c142_27 = true := by decide +kernel
theorem ok142_2 : okL 142 2 c142_2 = true := okl_of (n := 15) (q := 27) (by decide +kernel) rfl ok142_27
theorem ok142_0 : okL 142 0 c142_0 = true := by decide +kernel
theorem okk142 (t : Nat) : okL 142 t (k142 t).2 = true := (oknd (oknd (oknd (oknd (oklf ok142_0 t) (oklf ok142_2 t)) (oknd (oklf ok142_27 t) (oklf ok142_33 t))) (oknd (oknd (oklf ok142_40 t) (oklf ok142_46 t)) (oknd (oklf ok142_58 t) (oklf ok142_98 t)))) (oknd (oknd (oknd (oklf ok142_123 t) (oklf ok142_127 t)) (oknd (oklf ok142_169 t) (oklf ok142_193 t))) (oknd (oknd (oklf ok142_200 t) (oklf ok142_206 t)) (oknd (oklf ok142_212 t) (oklf ok142_218 t)))))
theorem ok143_87 : okL 143 87 c143_87 = true := by decide +kernel
theorem ok143_57 : okL 143 57 c143_57 = true := by decide +kernel
theorem ok143_55 : okL 143 55 c143_55 = true := by decide +kernel
theorem ok143_28 : okL 143 28 c143_28 = true := by decide +kernel
theorem ok143_21 : okL 143 21 c143_21 = true := by decide +kernel
theorem ok143_0 : okL 143 0 c143_0 = true := okl_of (n := 11) (q := 21) (by decide +kernel) rfl ok143_21
theorem okk143 (t : Nat) : okL 143 t (k143 t).2 = true := (oknd (oknd (oklf ok143_0 t) (oknd (oklf ok143_21 t) (oklf ok143_28 t))) (oknd (oklf ok143_55 t) (oknd (oklf ok143_57 t) (oklf ok143_87 t))))
theorem ok144_0 : okL 144 0 c144_0 = true := by decide +kernel
theorem okk144 (t : Nat) : okL 144 t (k144 t).2 = true := (oklf ok144_0 t)
theorem ok145_0 : okL 145 0 c145_0 = true := by decide +kernel
theorem okk145 (t : Nat) : okL 145 t (k145 t).2 = true := (oklf ok145_0 t)
theorem ok146_0 : okL 146 0 c146_0 = true := by decide +kernel
theorem okk146 (t : Nat) : okL 146 t (k146 t).2 = true := (oklf ok146_0 t)
theorem ok147_28 : okL 147 28 c147_28 = true := by decide +kernel
theorem ok147_4 : okL 147 4 c147_4 = true := by decide +kernel
theorem ok147_0 : okL 147 0 c147_0 = true := by decide +kernel
theorem okk147 (t : Nat) : okL 147 t (k147 t).2 = true := (oknd (oklf ok147_0 t) (oknd (oklf ok147_4 t) (oklf ok147_28 t)))
theorem ok148_17 : okL 148 17 c148_17 = true := by decide +kernel
theorem ok148_12 : okL 148 12 c148_12 = true := okl_of (n := 3) (q := 17) (by decide +kernel) rfl ok148_17
theorem ok148_0 : okL 148 0 c148_0 = true := by decide +kernel
theorem okk148 (t : Nat) : okL 148 t (k148 t).2 = true := (oknd (oklf ok148_0 t) (oknd (oklf ok148_12 t) (oklf ok148_17 t)))
theorem ok149_49 : okL 149 49 c149_49 = true := by decide +kernel
theorem ok149_48 : okL 149 48 c149_48 = true := okl_of (n := 1) (q := 49) (by decide +kernel) rfl ok149_49
theorem ok149_0 : okL 149 0 c149_0 = true := by decide +kernel
theorem okk149 (t : Nat) : okL 149 t (k149 t).2 = true := (oknd (oklf ok149_0 t) (oknd (oklf ok149_48 t) (oklf ok149_49 t)))
theorem ok150_65 : okL 150 65 c150_65 = true := by decide +kernel
theorem ok150_49 : okL 150 49 c150_49 = true := okl_of (n := 10) (q := 65) (by decide +kernel) rfl ok150_65
theorem ok150_31 : okL 150 31 c150_31 = true := by decide +kernel
theorem ok150_29 : okL 150 29 c150_29 = true := by decide +kernel
theorem ok150_0 : okL 150 0 c150_0 = true := okl_of (n := 17) (q := 29) (by decide +kernel) rfl ok150_29
theorem okk150 (t : Nat) : okL 150 t (k150 t).2 = true := (oknd (oknd (oklf ok150_0 t) (oklf ok150_29 t)) (oknd (oklf ok150_31 t) (oknd (oklf ok150_49 t) (oklf ok150_65 t))))
theorem ok151_31 : okL 151 31 c151_31 = true := by decide +kernel
theorem ok151_29 : okL 151 29 c151_29 = true := by decide +kernel
theorem ok151_0 : okL 151 0 c151_0 = true := okl_of (n := 17) (q := 29) (by decide +kernel) rfl ok151_29
theorem okk151 (t : Nat) : okL 151 t (k151 t).2 = true := (oknd (oklf ok151_0 t) (oknd (oklf ok151_29 t) (oklf ok151_31 t)))
theorem ok152_41 : okL 152 41 c152_41 = true := by decide +kernel
theorem ok152_39 : okL 152 39 c152_39 = true := by decide +kernel
theorem ok152_0 : okL 152 0 c152_0 = true := okl_of (n := 22) (q := 39) (by decide +kernel) rfl ok152_39
theorem okk152 (t : Nat) : okL 152 t (k152 t).2 = true := (oknd (oklf ok152_0 t) (oknd (oklf ok152_39 t) (oklf ok152_41 t)))
theorem ok153_35 : okL 153 35 c153_35 = true := by decide +kernel
theorem ok153_33 : okL 153 33 c153_33 = true := by decide +kernel
theorem ok153_0 : okL 153 0 c153_0 = true := okl_of (n := 19) (q := 33) (by decide +kernel) rfl ok153_33
theorem okk153 (t : Nat) : okL 153 t (k153 t).2 = true := (oknd (oklf ok153_0 t) (oknd (oklf ok153_33 t) (oklf ok153_35 t)))
theorem ok154_15 : okL 154 15 c154_15 = true := by decide +kernel
theorem ok154_0 : okL 154 0 c154_0 = true := by decide +kernel
theorem okk154 (t : Nat) : okL 154 t (k154 t).2 = true := (oknd (oklf ok154_0 t) (oklf ok154_15 t))
theorem ok155_24 : okL 155 24 c155_24 = true := by decide +kernel
theorem ok155_22 : okL 155 22 c155_22 = true := by decide +kernel
theorem ok155_0 : okL 155 0 c155_0 = true := okl_of (n := 12) (q := 22) (by decide +kernel) rfl ok155_22
theorem okk155 (t : Nat) : okL 155 t (k155 t).2 = true := (oknd (oklf ok155_0 t) (oknd (oklf ok155_22 t) (oklf ok155_24 t)))
theorem ok156_248 : okL 156 248 c156_248 = true := by decide +kernel
theorem ok156_214 : okL 156 214 c156_214 = true := by decide +kernel
theorem ok156_210 : okL 156 210 c156_210 = true := okl_of (n := 3) (q := 214) (by decide +kernel) rfl ok156_214
theorem ok156_189 : okL 156 189 c156_189 = true := by decide +kernel
theorem ok156_173 : okL 156 173 c156_173 = true := okl_of (n := 9) (q := 189) (by decide +kernel) rfl ok156_189
theorem ok156_171 : okL 156 171 c156_171 = true := okl_of (n := 1) (q := 173) (by decide +kernel) rfl ok156_173
theorem ok156_170 : okL 156 170 c156_170 = true := okl_of (n := 1) (q := 171) (by decide +kernel) rfl ok156_171
theorem ok156_63 : okL 156 63 c156_63 = true := by decide +kernel
theorem ok156_15 : okL 156 15 c156_15 = true := by decide +kernel
theorem ok156_0 : okL 156 0 c156_0 = true := by decide +kernel
theorem okk156 (t : Nat) : okL 156 t (k156 t).2 = true := (oknd (oknd (oknd (oklf ok156_0 t) (oklf ok156_15 t)) (oknd (oklf ok156_63 t) (oknd (oklf ok156_170 t) (oklf ok156_171 t)))) (oknd (oknd (oklf ok156_173 t) (oklf ok156_189 t)) (oknd (oklf ok156_210 t) (oknd (oklf ok156_214 t) (oklf ok156_248 t)))))
theorem ok157_122 : okL 157 122 c157_122 = true := by decide +kernel
theorem ok157_112 : okL 157 112 c157_112 = true := okl_of (n := 6) (q := 122) (by decide +kernel) rfl ok157_122
theorem ok157_95 : okL 157 95 c157_95 = true := by decide +kernel
theorem ok157_79 : okL 157 79 c157_79 = true := by decide +kernel
theorem ok157_77 : okL 157 77 c157_77 = true := by decide +kernel
theorem ok157_40 : okL 157 40 c157_40 = true := okl_of (n := 20) (q := 77) (by decide +kernel) rfl ok157_77
theorem ok157_30 : okL 157 30 c157_30 = true := by decide +kernel
theorem ok157_29 : okL 157 29 c157_29 = true := okl_of (n := 1) (q := 30) (by decide +kernel) rfl ok157_30
theorem ok157_0 : okL 157 0 c157_0 = true := by decide +kernel
theorem okk157 (t : Nat) : okL 157 t (k157 t).2 = true := (oknd (oknd (oknd (oklf ok157_0 t) (oklf ok157_29 t)) (oknd (oklf ok157_30 t) (oklf ok157_40 t))) (oknd (oknd (oklf ok157_77 t) (oklf ok157_79 t)) (oknd (oklf ok157_95 t) (oknd (oklf ok157_112 t) (oklf ok157_122 t)))))
theorem ok158_26 : okL 158 26 c158_26 = true := by decide +kernel
theorem ok158_19 : okL 158 19 c158_19 = true := okl_of (n := 4) (q := 26) (by decide +kernel) rfl ok158_26
theorem ok158_0 : okL 158 0 c158_0 = true := by decide +kernel
theorem okk158 (t : Nat) : okL 158 t (k158 t).2 = true := (oknd (oklf ok158_0 t) (oknd (oklf ok158_19 t) (oklf ok158_26 t)))
theorem ok159_41 : okL 159 41 c159_41 = true := by decide +kernel
theorem ok159_27 : okL 159 27 c159_27 = true := by decide +kernel
theorem ok159_0 : okL 159 0 c159_0 = true := by decide +kernel
theorem okk159 (t : Nat) : okL 159 t (k159 t).2 = true := (oknd (oklf ok159_0 t) (oknd (oklf ok159_27 t) (oklf ok159_41 t)))
theorem ok160_0 : okL 160 0 c160_0 = true := by decide +kernel
theorem okk160 (t : Nat) : okL 160 t (k160 t).2 = true := (oklf ok160_0 t)
theorem ok161_0 : okL 161 0 c161_0 = true := by decide +kernel
theorem okk161 (t : Nat) : okL 161 t (k161 t).2 = true := (oklf ok161_0 t)
theorem ok162_49 : okL 162 49 c162_49 = true := by decide +kernel
theorem ok162_43 : okL 162 43 c162_43 = true := okl_of (n := 4) (q := 49) (by decide +kernel) rfl ok162_49
theorem ok162_19 : okL 162 19 c162_19 = true := by decide +kernel
theorem ok162_0 : okL 162 0 c162_0 = true := okl_of (n := 11) (q := 19) (by decide +kernel) rfl ok162_19
theorem okk162 (t : Nat) : okL 162 t (k162 t).2 = true := (oknd (oknd (oklf ok162_0 t) (oklf ok162_19 t)) (oknd (oklf ok162_43 t) (oklf ok162_49 t)))
theorem ok163_125 : okL 163 125 c163_125 = true := by decide +kernel
theorem ok163_114 : okL 163 114 c163_114 = true := by decide +kernel
theorem ok163_62 : okL 163 62 c163_62 = true := by decide +kernel
theorem ok163_25 : okL 163 25 c163_25 = true := by decide +kernel
theorem ok163_15 : okL 163 15 c163_15 = true := by decide +kernel
theorem ok163_0 : okL 163 0 c163_0 = true := by decide +kernel
theorem okk163 (t : Nat) : okL 163 t (k163 t).2 = true := (oknd (oknd (oklf ok163_0 t) (oknd (oklf ok163_15 t) (oklf ok163_25 t))) (oknd (oklf ok163_62 t) (oknd (oklf ok163_114 t) (oklf ok163_125 t))))
theorem ok164_222 : okL 164 222 c164_222 = true := by decide +kernel
theorem ok164_213 : okL 164 213 c164_213 = true := by decide +kernel
theorem ok164_122 : okL 164 122 c164_122 = true := by decide +kernel
theorem ok164_108 : okL 164 108 c164_108 = true := okl_of (n := 9) (q := 122) (by decide +kernel) rfl ok164_122
theorem ok164_107 : okL 164 107 c164_107 = true := okl_of (n := 1) (q := 108) (by decide +kernel) rfl ok164_108
theorem ok164_38 : okL 164 38 c164_38 = true := by decide +kernel
theorem ok164_24 : okL 164 24 c164_24 = true := by decide +kernel
theorem ok164_22 : okL 164 22 c164_22 = true := by decide +kernel
theorem ok164_0 : okL 164 0 c164_0 = true := okl_of (n := 12) (q := 22) (by decide +kernel) rfl ok164_22
theorem okk164 (t : Nat) : okL 164 t (k164 t).2 = true := (oknd (oknd (oknd (oklf ok164_0 t) (oklf ok164_22 t)) (oknd (oklf ok164_24 t) (oklf ok164_38 t))) (oknd (oknd (oklf ok164_107 t) (oklf ok164_108 t)) (oknd (oklf ok164_122 t) (oknd (oklf ok164_213 t) (oklf ok164_222 t)))))
theorem ok165_0 : okL 165 0 c165_0 = true := by decide +kernel
theorem okk165 (t : Nat) : okL 165 t (k165 t).2 = true := (oklf ok165_0 t)
theorem ok166_33 : okL 166 33 c166_33 = true := by decide +kernel
theorem ok166_6 : okL 166 6 c166_6 = true := by decide +kernel
theorem ok166_0 : okL 166 0 c166_0 = true := by decide +kernel
theorem okk166 (t : Nat) : okL 166 t (k166 t).2 = true := (oknd (oklf ok166_0 t) (oknd (oklf ok166_6 t) (oklf ok166_33 t)))
theorem ok167_0 : okL 167 0 c167_0 = true := by decide +kernel
theorem okk167 (t : Nat) : okL 167 t (k167 t).2 = true := (oklf ok167_0 t)
theorem ok168_38 : okL 168 38 c168_38 = true := by decide +kernel
theorem ok168_36 : okL 168 36 c168_36 = true := by decide +kernel
theorem ok168_0 : okL 168 0 c168_0 = true := okl_of (n := 20) (q := 36) (by decide +kernel) rfl ok168_36
theorem okk168 (t : Nat) : okL 168 t (k168 t).2 = true := (oknd (oklf ok168_0 t) (oknd (oklf ok168_36 t) (oklf ok168_38 t)))
theorem ok169_120 : okL 169 120 c169_120 = true := by decide +kernel
theorem ok169_107 : okL 169 107 c169_107 = true := by decide +kernel
theorem ok169_101 : okL 169 101 c169_101 = true := by decide +kernel
theorem ok169_58 : okL 169 58 c169_58 = true := by decide +kernel
theorem ok169_40 : okL 169 40 c169_40 = true := by decide +kernel
theorem ok169_21 : okL 169 21 c169_21 = true := by decide +kernel
theorem ok169_15 : okL 169 15 c169_15 = true := by decide +kernel
theorem ok169_0 : okL 169 0 c169_0 = true := by decide +kernel
theorem okk169 (t : Nat) : okL 169 t (k169 t).2 = true := (oknd (oknd (oknd (oklf ok169_0 t) (oklf ok169_15 t)) (oknd (oklf ok169_21 t) (oklf ok169_40 t))) (oknd (oknd (oklf ok169_58 t) (oklf ok169_101 t)) (oknd (oklf ok169_107 t) (oklf ok169_120 t))))
theorem ok170_38 : okL 170 38 c170_38 = true := by decide +kernel
theorem ok170_36 : okL 170 36 c170_36 = true := by decide +kernel
theorem ok170_0 : okL 170 0 c170_0 = true := okl_of (n := 20) (q := 36) (by decide +kernel) rfl ok170_36
theorem okk170 (t : Nat) : okL 170 t (k170 t).2 = true := (oknd (oklf ok170_0 t) (oknd (oklf ok170_36 t) (oklf ok170_38 t)))
theorem ok171_202 : okL 171 202 c171_202 = true := by decide +kernel
theorem ok171_196 : okL 171 196 c171_196 = true := by decide +kernel
theorem ok171_190 : okL 171 190 c171_190 = true := by decide +kernel
theorem ok171_160 : okL 171 160 c171_160 = true := by decide +kernel
theorem ok171_159 : okL 171 159 c171_159 = true := okl_of (n := 1) (q := 160) (by decide +kernel) rfl ok171_160
theorem ok171_106 : okL 171 106 c171_106 = true := by decide +kernel
theorem ok171_71 : okL 171 71 c171_71 = true := by decide +kernel
theorem ok171_58 : okL 171 58 c171_58 = true := by decide +kernel
theorem ok171_52 : okL 171 52 c171_52 = true := by decide +kernel
theorem ok171_50 : okL 171 50 c171_50 = true := by decide +kernel
theorem ok171_42 : okL 171 42 c171_42 = true := okl_of (n := 4) (q := 50) (by decide +kernel) rfl ok171_50
theorem ok171_41 : okL 171 41 c171_41 = true := okl_of (n := 1) (q := 42) (by decide +kernel) rfl ok171_42
theorem ok171_0 : okL 171 0 c171_0 = true := by decide +kernel
theorem okk171 (t : Nat) : okL 171 t (k171 t).2 = true := (oknd (oknd (oknd (oklf ok171_0 t) (oknd (oklf ok171_41 t) (oklf ok171_42 t))) (oknd (oklf ok171_50 t) (oknd (oklf ok171_52 t) (oklf ok171_58 t)))) (oknd (oknd (oklf ok171_71 t) (oknd (oklf ok171_106 t) (oklf ok171_159 t))) (oknd (oknd (oklf ok171_160 t) (oklf ok171_190 t)) (oknd (oklf ok171_196 t) (oklf ok171_202 t)))))
theorem ok172_188 : okL 172 188 c172_188 = true := by decide +kernel
theorem ok172_182 : okL 172 182 c172_182 = true := by decide +kernel
theorem ok172_152 : okL 172 152 c172_152 = true := okl_of (n := 21) (q := 182) (by decide +kernel) rfl ok172_182
theorem ok172_132 : okL 172 132 c172_132 = true := by decide +kernel
theorem ok172_129 : okL 172 129 c172_129 = true := by decide +kernel
theorem ok172_117 : okL 172 117 c172_117 = true := by decide +kernel
theorem ok172_86 : okL 172 86 c172_86 = true := by decide +kernel
theorem ok172_79 : okL 172 79 c172_79 = true := by decide +kernel
theorem ok172_61 : okL 172 61 c172_61 = true := okl_of (n := 11) (q := 79) (by decide +kernel) rfl ok172_79
theorem ok172_17 : okL 172 17 c172_17 = true := by decide +kernel
theorem ok172_0 : okL 172 0 c172_0 = true := by decide +kernel
theorem okk172 (t : Nat) : okL 172 t (k172 t).2 = true := (oknd (oknd (oknd (oklf ok172_0 t) (oklf ok172_17 t)) (oknd (oklf ok172_61 t) (oknd (oklf ok172_79 t) (oklf ok172_86 t)))) (oknd (oknd (oklf ok172_117 t) (oknd (oklf ok172_129 t) (oklf ok172_132 t))) (oknd (oklf ok172_152 t) (oknd (oklf ok172_182 t) (oklf ok172_188 t)))))
theorem ok173_24 : okL 173 24 c173_24 = true := by decide +kernel
theorem ok173_22 : okL 173 22 c173_22 = true := by decide +kernel
theorem ok173_0 : okL 173 0 c173_0 = true := okl_of (n := 12) (q := 22) (by decide +kernel) rfl ok173_22
theorem okk173 (t : Nat) : okL 173 t (k173 t).2 = true := (oknd (oklf ok173_0 t) (oknd (oklf ok173_22 t) (oklf ok173_24 t)))
theorem ok174_146 : okL 174 146 c174_146 = true := by decide +kernel
theorem ok174_140 : okL 174 140 c174_140 = true := by decide +kernel
theorem ok174_134 : okL 174 134 c174_134 = true := okl_of (n := 4) (q := 140) (by decide +kernel) rfl ok174_140
theorem ok174_108 : okL 174 108 c174_108 = true := by decide +kernel
theorem ok174_101 : okL 174 101 c174_101 = true := by decide +kernel
theorem ok174_89 : okL 174 89 c174_89 = true := okl_of (n := 8) (q := 101) (by decide +kernel) rfl ok174_101
theorem ok174_45 : okL 174 45 c174_45 = true := by decide +kernel
theorem ok174_35 : okL 174 35 c174_35 = true := by decide +kernel
theorem ok174_24 : okL 174 24 c174_24 = true := by decide +kernel
theorem ok174_22 : okL 174 22 c174_22 = true := by decide +kernel
theorem ok174_0 : okL 174 0 c174_0 = true := okl_of (n := 12) (q := 22) (by decide +kernel) rfl ok174_22
theorem okk174 (t : Nat) : okL 174 t (k174 t).2 = true := (oknd (oknd (oknd (oklf ok174_0 t) (oklf ok174_22 t)) (oknd (oklf ok174_24 t) (oknd (oklf ok174_35 t) (oklf ok174_45 t)))) (oknd (oknd (oklf ok174_89 t) (oknd (oklf ok174_101 t) (oklf ok174_108 t))) (oknd (oklf ok174_134 t) (oknd (oklf ok174_140 t) (oklf ok174_146 t)))))
theorem ok175_51 : okL 175 51 c175_51 = true := by decide +kernel
theorem ok175_50 : okL 175 50 c175_50 = true := okl_of (n := 1) (q := 51) (by decide +kernel) rfl ok175_51
theorem ok175_12 : okL 175 12 c175_12 = true := by decide +kernel
theorem ok175_0 : okL 175 0 c175_0 = true := by decide +kernel
theorem okk175 (t : Nat) : okL 175 t (k175 t).2 = true := (oknd (oknd (oklf ok175_0 t) (oklf ok175_12 t)) (oknd (oklf ok175_50 t) (oklf ok175_51 t)))
theorem ok176_31 : okL 176 31 c176_31 = true := by decide +kernel
theorem ok176_29 : okL 176 29 c176_29 = true := by decide +kernel
theorem ok176_0 : okL 176 0 c176_0 = true := okl_of (n := 17) (q := 29) (by decide +kernel) rfl ok176_29
theorem okk176 (t : Nat) : okL 176 t (k176 t).2 = true := (oknd (oklf ok176_0 t) (oknd (oklf ok176_29 t) (oklf ok176_31 t)))
theorem ok177_157 : okL 177 157 c177_157 = true := by decide +kernel
theorem ok177_151 : okL 177 151 c177_151 = true := by decide +kernel
theorem ok177_142 : okL 177 142 c177_142 = true := by decide +kernel
theorem ok177_139 : okL 177 139 c177_139 = true := okl_of (n := 3) (q := 142) (by decide +kernel) rfl ok177_142
theorem ok177_110 : okL 177 110 c177_110 = true := by decide +kernel
theorem ok177_101 : okL 177 101 c177_101 = true := okl_of (n := 6) (q := 110) (by decide +kernel) rfl ok177_110
theorem ok177_92 : okL 177 92 c177_92 = true := by decide +kernel
theorem ok177_68 : okL 177 68 c177_68 = true := by decide +kernel
theorem ok177_47 : okL 177 47 c177_47 = true := by decide +kernel
theorem ok177_31 : okL 177 31 c177_31 = true := by decide +kernel
theorem ok177_29 : okL 177 29 c177_29 = true := by decide +kernel
theorem ok177_0 : okL 177 0 c177_0 = true := okl_of (n := 17) (q := 29) (by decide +kernel) rfl ok177_29
theorem okk177 (t : Nat) : okL 177 t (k177 t).2 = true := (oknd (oknd (oknd (oklf ok177_0 t) (oknd (oklf ok177_29 t) (oklf ok177_31 t))) (oknd (oklf ok177_47 t) (oknd (oklf ok177_68 t) (oklf ok177_92 t)))) (oknd (oknd (oklf ok177_101 t) (oknd (oklf ok177_110 t) (oklf ok177_139 t))) (oknd (oklf ok177_142 t) (oknd (oklf ok177_151 t) (oklf ok177_157 t)))))
theorem ok178_313 : okL 178 313 c178_313 = true := by decide +kernel
theorem ok178_307 : okL 178 307 c178_307 = true := by decide +kernel
theorem ok178_301 : okL 178 301 c178_301 = true := by decide +kernel
theorem ok178_295 : okL 178 295 c178_295 = true := by decide +kernel
theorem ok178_289 : okL 178 289 c178_289 = true := by decide +kernel
theorem ok178_284 : okL 178 284 c178_284 = true := okl_of (n := 3) (q := 289) (by decide +kernel) rfl ok178_289
theorem ok178_274 : okL 178 274 c178_274 = true := okl_of (n := 6) (q := 284) (by decide +kernel) rfl ok178_284
theorem ok178_269 : okL 178 269 c178_269 = true := by decide +kernel
theorem ok178_246 : okL 178 246 c178_246 = true := okl_of (n := 11) (q := 269) (by decide +kernel) rfl ok178_269
theorem ok178_245 : okL 178 245 c178_245 = true := okl_of (n := 1) (q := 246) (by decide +kernel) rfl ok178_246
theorem ok178_212 : okL 178 212 c178_212 = true := by decide +kernel
theorem ok178_188 : okL 178 188 c178_188 = true := by decide +kernel
theorem ok178_163 : okL 178 163 c178_163 = true := by decide +kernel
theorem ok178_155 : okL 178 155 c178_155 = true := by decide +kernel
theorem ok178_132 : okL 178 132 c178_132 = true := by decide +kernel
theorem ok178_103 : okL 178 103 c178_103 = true := by decide +kernel
theorem ok178_89 : okL 178 89 c178_89 = true := by decide +kernel
theorem ok178_75 : okL 178 75 c178_75 = true := by decide +kernel
theorem ok178_60 : okL 178 60 c178_60 = true := by decide +kernel
theorem ok178_38 : okL 178 38 c178_38 = true := by decide +kernel
theorem ok178_31 : okL 178 31 c178_31 = true := by decide +kernel
theorem ok178_29 : okL 178 29 c178_29 = true := by decide +kernel
theorem ok178_0 : okL 178 0 c178_0 = true := okl_of (n := 17) (q := 29) (by decide +kernel) rfl ok178_29
theorem okk178 (t : Nat) : okL 178 t (k178 t).2 = true := (oknd (oknd (oknd (oknd (oklf ok178_0 t) (oklf ok178_29 t)) (oknd (oklf ok178_31 t) (oknd (oklf ok178_38 t) (oklf ok178_60 t)))) (oknd (oknd (oklf ok178_75 t) (oknd (oklf ok178_89 t) (oklf ok178_103 t))) (oknd (oklf ok178_132 t) (oknd (oklf ok178_155 t) (oklf ok178_163 t))))) (oknd (oknd (oknd (oklf ok178_188 t) (oknd (oklf ok178_212 t) (oklf ok178_245 t))) (oknd (oklf ok178_246 t) (oknd (oklf ok178_269 t) (oklf ok178_274 t)))) (oknd (oknd (oklf ok178_284 t) (oknd (oklf ok178_289 t) (oklf ok178_295 t))) (oknd (oklf ok178_301 t) (oknd (oklf ok178_307 t) (oklf ok178_313 t))))))
theorem ok179_261 : okL 179 261 c179_261 = true := by decide +kernel
theorem ok179_255 : okL 179 255 c179_255 = true := by decide +kernel
theorem ok179_249 : okL 179 249 c179_249 = true := by decide +kernel
theorem ok179_243 : okL 179 243 c179_243 = true := by decide +kernel
theorem ok179_188 : okL 179 188 c179_188 = true := okl_of (n := 39) (q := 243) (by decide +kernel) rfl ok179_243
theorem ok179_156 : okL 179 156 c179_156 = true := by decide +kernel
theorem ok179_155 : okL 179 155 c179_155 = true := okl_of (n := 1) (q := 156) (by decide +kernel) rfl ok179_156
theorem ok179_139 : okL 179 139 c179_139 = true := by decide +kernel
theorem ok179_121 : okL 179 121 c179_121 = true := okl_of (n := 12) (q := 139) (by decide +kernel) rfl ok179_139
theorem ok179_99 : okL 179 99 c179_99 = true := by decide +kernel
theorem ok179_58 : okL 179 58 c179_58 = true := by decide +kernel
theorem ok179_46 : okL 179 46 c179_46 = true := by decide +kernel
theorem ok179_34 : okL 179 34 c179_34 = true := by decide +kernel
theorem ok179_22 : okL 179 22 c179_22 = true := by decide +kernel
theorem ok179_2 : okL 179 2 c179_2 = true := by decide +kernel
theorem ok179_0 : okL 179 0 c179_0 = true := by decide +kernel
theorem okk179 (t : Nat) : okL 179 t (k179 t).2 = true := (oknd (oknd (oknd (oknd (oklf ok179_0 t) (oklf ok179_2 t)) (oknd (oklf ok179_22 t) (oklf ok179_34 t))) (oknd (oknd (oklf ok179_46 t) (oklf ok179_58 t)) (oknd (oklf ok179_99 t) (oklf ok179_121 t)))) (oknd (oknd (oknd (oklf ok179_139 t) (oklf ok179_155 t)) (oknd (oklf ok179_156 t) (oklf ok179_188 t))) (oknd (oknd (oklf ok179_243 t) (oklf ok179_249 t)) (oknd (oklf ok179_255 t) (oklf ok179_261 t)))))
theorem ok180_76 : okL 180 76 c180_76 = true := by decide +kernel
theorem ok180_70 : okL 180 70 c180_70 = true := by decide +kernel
theorem ok180_64 : okL 180 64 c180_64 = true := by decide +kernel
theorem ok180_19 : okL 180 19 c180_19 = true := okl_of (n := 26) (q := 64) (by decide +kernel) rfl ok180_64
theorem ok180_5 : okL 180 5 c180_5 = true := by decide +kernel
theorem ok180_0 : okL 180 0 c180_0 = true := by decide +kernel
theorem okk180 (t : Nat) : okL 180 t (k180 t).2 = true := (oknd (oknd (oklf ok180_0 t) (oknd (oklf ok180_5 t) (oklf ok180_19 t))) (oknd (oklf ok180_64 t) (oknd (oklf ok180_70 t) (oklf ok180_76 t))))
theorem ok181_32 : okL 181 32 c181_32 = true := by decide +kernel
theorem ok181_5 : okL 181 5 c181_5 = true := by decide +kernel
theorem ok181_0 : okL 181 0 c181_0 = true := by decide +kernel
theorem okk181 (t : Nat) : okL 181 t (k181 t).2 = true := (oknd (oklf ok181_0 t) (oknd (oklf ok181_5 t) (oklf ok181_32 t)))
theorem ok182_30 : okL 182 30 c182_30 = true := by decide +kernel
theorem ok182_28 : okL 182 28 c182_28 = true := by decide +kernel
theorem ok182_0 : okL 182 0 c182_0 = true := okl_of (n := 16) (q := 28) (by decide +kernel) rfl ok182_28
theorem okk182 (t : Nat) : okL 182 t (k182 t).2 = true := (oknd (oklf ok182_0 t) (oknd (oklf ok182_28 t) (oklf ok182_30 t)))
theorem ok183_52 : okL 183 52 c183_52 = true := by decide +kernel
theorem ok183_50 : okL 183 50 c183_50 = true := by decide +kernel
theorem ok183_42 : okL 183 42 c183_42 = true := okl_of (n := 4) (q := 50) (by decide +kernel) rfl ok183_50
theorem ok183_41 : okL 183 41 c183_41 = true := okl_of (n := 1) (q := 42) (by decide +kernel) rfl ok183_42
theorem ok183_0 : okL 183 0 c183_0 = true := by decide +kernel
theorem okk183 (t : Nat) : okL 183 t (k183 t).2 = true := (oknd (oknd (oklf ok183_0 t) (oklf ok183_41 t)) (oknd (oklf ok183_42 t) (oknd (oklf ok183_50 t) (oklf ok183_52 t))))
theorem ok184_109 : okL 184 109 c184_109 = true := by decide +kernel
theorem ok184_103 : okL 184 103 c184_103 = true := by decide +kernel
theorem ok184_64 : okL 184 64 c184_64 = true := by decide +kernel
theorem ok184_50 : okL 184 50 c184_50 = true := by decide +kernel
theorem ok184_37 : okL 184 37 c184_37 = true := by decide +kernel
theorem ok184_35 : okL 184 35 c184_35 = true := by decide +kernel
theorem ok184_0 : okL 184 0 c184_0 = true := okl_of (n := 21) (q := 35) (by decide +kernel) rfl ok184_35
theorem okk184 (t : Nat) : okL 184 t (k184 t).2 = true := (oknd (oknd (oklf ok184_0 t) (oknd (oklf ok184_35 t) (oklf ok184_37 t))) (oknd (oknd (oklf ok184_50 t) (oklf ok184_64 t)) (oknd (oklf ok184_103 t) (oklf ok184_109 t))))
theorem ok185_74 : okL 185 74 c185_74 = true := by decide +kernel
theorem ok185_68 : okL 185 68 c185_68 = true := by decide +kernel
theorem ok185_23 : okL 185 23 c185_23 = true := okl_of (n := 26) (q := 68) (by decide +kernel) rfl ok185_68
theorem ok185_15 : okL 185 15 c185_15 = true := by decide +kernel
theorem ok185_0 : okL 185 0 c185_0 = true := by decide +kernel
theorem okk185 (t : Nat) : okL 185 t (k185 t).2 = true := (oknd (oknd (oklf ok185_0 t) (oklf ok185_15 t)) (oknd (oklf ok185_23 t) (oknd (oklf ok185_68 t) (oklf ok185_74 t))))
theorem ok186_0 : okL 186 0 c186_0 = true := by decide +kernel
theorem okk186 (t : Nat) : okL 186 t (k186 t).2 = true := (oklf ok186_0 t)
theorem ok187_24 : okL 187 24 c187_24 = true := by decide +kernel
theorem ok187_22 : okL 187 22 c187_22 = true := by decide +kernel
theorem ok187_0 : okL 187 0 c187_0 = true := okl_of (n := 12) (q := 22) (by decide +kernel) rfl ok187_22
theorem okk187 (t : Nat) : okL 187 t (k187 t).2 = true := (oknd (oklf ok187_0 t) (oknd (oklf ok187_22 t) (oklf ok187_24 t)))
theorem ok188_78 : okL 188 78 c188_78 = true := by decide +kernel
theorem ok188_72 : okL 188 72 c188_72 = true := by decide +kernel
theorem ok188_66 : okL 188 66 c188_66 = true := okl_of (n := 4) (q := 72) (by decide +kernel) rfl ok188_72
theorem ok188_40 : okL 188 40 c188_40 = true := by decide +kernel
theorem ok188_24 : okL 188 24 c188_24 = true := by decide +kernel
theorem ok188_22 : okL 188 22 c188_22 = true := by decide +kernel
theorem ok188_0 : okL 188 0 c188_0 = true := okl_of (n := 12) (q := 22) (by decide +kernel) rfl ok188_22
theorem okk188 (t : Nat) : okL 188 t (k188 t).2 = true := (oknd (oknd (oklf ok188_0 t) (oknd (oklf ok188_22 t) (oklf ok188_24 t))) (oknd (oknd (oklf ok188_40 t) (oklf ok188_66 t)) (oknd (oklf ok188_72 t) (oklf ok188_78 t))))
theorem ok189_24 : okL 189 24 c189_24 = true := by decide +kernel
theorem ok189_22 : okL 189 22 c189_22 = true := by decide +kernel
theorem ok189_0 : okL 189 0 c189_0 = true := okl_of (n := 12) (q := 22) (by decide +kernel) rfl ok189_22
theorem okk189 (t : Nat) : okL 189 t (k189 t).2 = true := (oknd (oklf ok189_0 t) (oknd (oklf ok189_22 t) (oklf ok189_24 t)))
theorem ok190_0 : okL 190 0 c190_0 = true := by decide +kernel
theorem okk190 (t : Nat) : okL 190 t (k190 t).2 = true := (oklf ok190_0 t)
theorem ok191_80 : okL 191 80 c191_80 = true := by decide +kernel
theorem ok191_79 : okL 191 79 c191_79 = true := okl_of (n := 1) (q := 80) (by decide +kernel) rfl ok191_80
theorem ok191_61 : okL 191 61 c191_61 = true := by decide +kernel
theorem ok191_59 : okL 191 59 c191_59 = true := by decide +kernel
theorem ok191_51 : okL 191 51 c191_51 = true := okl_of (n := 4) (q := 59) (by decide +kernel) rfl ok191_59
theorem ok191_50 : okL 191 50 c191_50 = true := okl_of (n := 1) (q := 51) (by decide +kernel) rfl ok191_51
theorem ok191_0 : okL 191 0 c191_0 = true := by decide +kernel
theorem okk191 (t : Nat) : okL 191 t (k191 t).2 = true := (oknd (oknd (oklf ok191_0 t) (oknd (oklf ok191_50 t) (oklf ok191_51 t))) (oknd (oknd (oklf ok191_59 t) (oklf ok191_61 t)) (oknd (oklf ok191_79 t) (oklf ok191_80 t))))
theorem ok192_100 : okL 192 100 c192_100 = true := by decide +kernel
theorem ok192_94 : okL 192 94 c192_94 = true := by decide +kernel
theorem ok192_88 : okL 192 88 c192_88 = true := by decide +kernel
theorem ok192_35 : okL 192 35 c192_35 = true := by decide +kernel
theorem ok192_21 : okL 192 21 c192_21 = true := by decide +kernel
theorem ok192_15 : okL 192 15 c192_15 = true := by decide +kernel
theorem ok192_0 : okL 192 0 c192_0 = true := by decide +kernel
theorem okk192 (t : Nat) : okL 192 t (k192 t).2 = true := (oknd (oknd (oklf ok192_0 t) (oknd (oklf ok192_15 t) (oklf ok192_21 t))) (oknd (oknd (oklf ok192_35 t) (oklf ok192_88 t)) (oknd (oklf ok192_94 t) (oklf ok192_100 t))))
theorem ok193_15 : okL 193 15 c193_15 = true := by decide +kernel
theorem ok193_0 : okL 193 0 c193_0 = true := by decide +kernel
theorem okk193 (t : Nat) : okL 193 t (k193 t).2 = true := (oknd (oklf ok193_0 t) (oklf ok193_15 t))
theorem ok194_44 : okL 194 44 c194_44 = true := by decide +kernel
theorem ok194_42 : okL 194 42 c194_42 = true := by decide +kernel
theorem ok194_0 : okL 194 0 c194_0 = true := okl_of (n := 24) (q := 42) (by decide +kernel) rfl ok194_42
theorem okk194 (t : Nat) : okL 194 t (k194 t).2 = true := (oknd (oklf ok194_0 t) (oknd (oklf ok194_42 t) (oklf ok194_44 t)))
theorem ok195_82 : okL 195 82 c195_82 = true := by decide +kernel
theorem ok195_76 : okL 195 76 c195_76 = true := by decide +kernel
theorem ok195_38 : okL 195 38 c195_38 = true := by decide +kernel
theorem ok195_0 : okL 195 0 c195_0 = true := by decide +kernel
theorem okk195 (t : Nat) : okL 195 t (k195 t).2 = true := (oknd (oknd (oklf ok195_0 t) (oklf ok195_38 t)) (oknd (oklf ok195_76 t) (oklf ok195_82 t)))
