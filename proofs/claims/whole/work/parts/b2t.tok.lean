/-! ===== all of it together ===== -/
theorem ok_all : ∀ j t, j < NMETH → okL j t (cod j t).2 = true := by
  intro j t hj
  have hj : j < 345 := hj
  exact (okj (fun h172 => (okj (fun h86 => (okj (fun h43 => (okj (fun h21 => (okj (fun h10 => (okj (fun h5 => (okj (fun h2 => (okj (fun h1 => (by
    have e : j = 0 := by omega
    subst e
    exact okk0 t)) (fun h1 => (by
    have e : j = 1 := by omega
    subst e
    exact okk1 t)))) (fun h2 => (okj (fun h3 => (by
    have e : j = 2 := by omega
    subst e
    exact okk2 t)) (fun h3 => (okj (fun h4 => (by
    have e : j = 3 := by omega
    subst e
    exact okk3 t)) (fun h4 => (by
    have e : j = 4 := by omega
    subst e
    exact okk4 t)))))))) (fun h5 => (okj (fun h7 => (okj (fun h6 => (by
    have e : j = 5 := by omega
    subst e
    exact okk5 t)) (fun h6 => (by
    have e : j = 6 := by omega
    subst e
    exact okk6 t)))) (fun h7 => (okj (fun h8 => (by
    have e : j = 7 := by omega
    subst e
    exact okk7 t)) (fun h8 => (okj (fun h9 => (by
    have e : j = 8 := by omega
    subst e
    exact okk8 t)) (fun h9 => (by
    have e : j = 9 := by omega
    subst e
    exact okk9 t)))))))))) (fun h10 => (okj (fun h15 => (okj (fun h12 => (okj (fun h11 => (by
    have e : j = 10 := by omega
    subst e
    exact okk10 t)) (fun h11 => (by
    have e : j = 11 := by omega
    subst e
    exact okk11 t)))) (fun h12 => (okj (fun h13 => (by
    have e : j = 12 := by omega
    subst e
    exact okk12 t)) (fun h13 => (okj (fun h14 => (by
    have e : j = 13 := by omega
    subst e
    exact okk13 t)) (fun h14 => (by
    have e : j = 14 := by omega
    subst e
    exact okk14 t)))))))) (fun h15 => (okj (fun h18 => (okj (fun h16 => (by
    have e : j = 15 := by omega
    subst e
    exact okk15 t)) (fun h16 => (okj (fun h17 => (by
    have e : j = 16 := by omega
    subst e
    exact okk16 t)) (fun h17 => (by
    have e : j = 17 := by omega
    subst e
    exact okk17 t)))))) (fun h18 => (okj (fun h19 => (by
    have e : j = 18 := by omega
    subst e
    exact okk18 t)) (fun h19 => (okj (fun h20 => (by
    have e : j = 19 := by omega
    subst e
    exact okk19 t)) (fun h20 => (by
    have e : j = 20 := by omega
    subst e
    exact okk20 t)))))))))))) (fun h21 => (okj (fun h32 => (okj (fun h26 => (okj (fun h23 => (okj (fun h22 => (by
    have e : j = 21 := by omega
    subst e
    exact okk21 t)) (fun h22 => (by
    have e : j = 22 := by omega
    subst e
    exact okk22 t)))) (fun h23 => (okj (fun h24 => (by
    have e : j = 23 := by omega
    subst e
    exact okk23 t)) (fun h24 => (okj (fun h25 => (by
    have e : j = 24 := by omega
    subst e
    exact okk24 t)) (fun h25 => (by
    have e : j = 25 := by omega
    subst e
    exact okk25 t)))))))) (fun h26 => (okj (fun h29 => (okj (fun h27 => (by
    have e : j = 26 := by omega
    subst e
    exact okk26 t)) (fun h27 => (okj (fun h28 => (by
    have e : j = 27 := by omega
    subst e
    exact okk27 t)) (fun h28 => (by
    have e : j = 28 := by omega
    subst e
    exact okk28 t)))))) (fun h29 => (okj (fun h30 => (by
    have e : j = 29 := by omega
    subst e
    exact okk29 t)) (fun h30 => (okj (fun h31 => (by
    have e : j = 30 := by omega
    subst e
    exact okk30 t)) (fun h31 => (by
    have e : j = 31 := by omega
    subst e
    exact okk31 t)))))))))) (fun h32 => (okj (fun h37 => (okj (fun h34 => (okj (fun h33 => (by
    have e : j = 32 := by omega
    subst e
    exact okk32 t)) (fun h33 => (by
    have e : j = 33 := by omega
    subst e
    exact okk33 t)))) (fun h34 => (okj (fun h35 => (by
    have e : j = 34 := by omega
    subst e
    exact okk34 t)) (fun h35 => (okj (fun h36 => (by
    have e : j = 35 := by omega
    subst e
    exact okk35 t)) (fun h36 => (by
    have e : j = 36 := by omega
    subst e
    exact okk36 t)))))))) (fun h37 => (okj (fun h40 => (okj (fun h38 => (by
    have e : j = 37 := by omega
    subst e
    exact okk37 t)) (fun h38 => (okj (fun h39 => (by
    have e : j = 38 := by omega
    subst e
    exact okk38 t)) (fun h39 => (by
    have e : j = 39 := by omega
    subst e
    exact okk39 t)))))) (fun h40 => (okj (fun h41 => (by
    have e : j = 40 := by omega
    subst e
    exact okk40 t)) (fun h41 => (okj (fun h42 => (by
    have e : j = 41 := by omega
    subst e
    exact okk41 t)) (fun h42 => (by
    have e : j = 42 := by omega
    subst e
    exact okk42 t)))))))))))))) (fun h43 => (okj (fun h64 => (okj (fun h53 => (okj (fun h48 => (okj (fun h45 => (okj (fun h44 => (by
    have e : j = 43 := by omega
    subst e
    exact okk43 t)) (fun h44 => (by
    have e : j = 44 := by omega
    subst e
    exact okk44 t)))) (fun h45 => (okj (fun h46 => (by
    have e : j = 45 := by omega
    subst e
    exact okk45 t)) (fun h46 => (okj (fun h47 => (by
    have e : j = 46 := by omega
    subst e
    exact okk46 t)) (fun h47 => (by
    have e : j = 47 := by omega
    subst e
    exact okk47 t)))))))) (fun h48 => (okj (fun h50 => (okj (fun h49 => (by
    have e : j = 48 := by omega
    subst e
    exact okk48 t)) (fun h49 => (by
    have e : j = 49 := by omega
    subst e
    exact okk49 t)))) (fun h50 => (okj (fun h51 => (by
    have e : j = 50 := by omega
    subst e
    exact okk50 t)) (fun h51 => (okj (fun h52 => (by
    have e : j = 51 := by omega
    subst e
    exact okk51 t)) (fun h52 => (by
    have e : j = 52 := by omega
    subst e
    exact okk52 t)))))))))) (fun h53 => (okj (fun h58 => (okj (fun h55 => (okj (fun h54 => (by
    have e : j = 53 := by omega
    subst e
    exact okk53 t)) (fun h54 => (by
    have e : j = 54 := by omega
    subst e
    exact okk54 t)))) (fun h55 => (okj (fun h56 => (by
    have e : j = 55 := by omega
    subst e
    exact okk55 t)) (fun h56 => (okj (fun h57 => (by
    have e : j = 56 := by omega
    subst e
    exact okk56 t)) (fun h57 => (by
    have e : j = 57 := by omega
    subst e
    exact okk57 t)))))))) (fun h58 => (okj (fun h61 => (okj (fun h59 => (by
    have e : j = 58 := by omega
    subst e
    exact okk58 t)) (fun h59 => (okj (fun h60 => (by
    have e : j = 59 := by omega
    subst e
    exact okk59 t)) (fun h60 => (by
    have e : j = 60 := by omega
    subst e
    exact okk60 t)))))) (fun h61 => (okj (fun h62 => (by
    have e : j = 61 := by omega
    subst e
    exact okk61 t)) (fun h62 => (okj (fun h63 => (by
    have e : j = 62 := by omega
    subst e
    exact okk62 t)) (fun h63 => (by
    have e : j = 63 := by omega
    subst e
    exact okk63 t)))))))))))) (fun h64 => (okj (fun h75 => (okj (fun h69 => (okj (fun h66 => (okj (fun h65 => (by
    have e : j = 64 := by omega
    subst e
    exact okk64 t)) (fun h65 => (by
    have e : j = 65 := by omega
    subst e
    exact okk65 t)))) (fun h66 => (okj (fun h67 => (by
    have e : j = 66 := by omega
    subst e
    exact okk66 t)) (fun h67 => (okj (fun h68 => (by
    have e : j = 67 := by omega
    subst e
    exact okk67 t)) (fun h68 => (by
    have e : j = 68 := by omega
    subst e
    exact okk68 t)))))))) (fun h69 => (okj (fun h72 => (okj (fun h70 => (by
    have e : j = 69 := by omega
    subst e
    exact okk69 t)) (fun h70 => (okj (fun h71 => (by
    have e : j = 70 := by omega
    subst e
    exact okk70 t)) (fun h71 => (by
    have e : j = 71 := by omega
    subst e
    exact okk71 t)))))) (fun h72 => (okj (fun h73 => (by
    have e : j = 72 := by omega
    subst e
    exact okk72 t)) (fun h73 => (okj (fun h74 => (by
    have e : j = 73 := by omega
    subst e
    exact okk73 t)) (fun h74 => (by
    have e : j = 74 := by omega
    subst e
    exact okk74 t)))))))))) (fun h75 => (okj (fun h80 => (okj (fun h77 => (okj (fun h76 => (by
    have e : j = 75 := by omega
    subst e
    exact okk75 t)) (fun h76 => (by
    have e : j = 76 := by omega
    subst e
    exact okk76 t)))) (fun h77 => (okj (fun h78 => (by
    have e : j = 77 := by omega
    subst e
    exact okk77 t)) (fun h78 => (okj (fun h79 => (by
    have e : j = 78 := by omega
    subst e
    exact okk78 t)) (fun h79 => (by
    have e : j = 79 := by omega
    subst e
    exact okk79 t)))))))) (fun h80 => (okj (fun h83 => (okj (fun h81 => (by
    have e : j = 80 := by omega
    subst e
    exact okk80 t)) (fun h81 => (okj (fun h82 => (by
    have e : j = 81 := by omega
    subst e
    exact okk81 t)) (fun h82 => (by
    have e : j = 82 := by omega
    subst e
    exact okk82 t)))))) (fun h83 => (okj (fun h84 => (by
    have e : j = 83 := by omega
    subst e
    exact okk83 t)) (fun h84 => (okj (fun h85 => (by
    have e : j = 84 := by omega
    subst e
    exact okk84 t)) (fun h85 => (by
    have e : j = 85 := by omega
    subst e
    exact okk85 t)))))))))))))))) (fun h86 => (okj (fun h129 => (okj (fun h107 => (okj (fun h96 => (okj (fun h91 => (okj (fun h88 => (okj (fun h87 => (by
    have e : j = 86 := by omega
    subst e
    exact okk86 t)) (fun h87 => (by
    have e : j = 87 := by omega
    subst e
    exact okk87 t)))) (fun h88 => (okj (fun h89 => (by
    have e : j = 88 := by omega
    subst e
    exact okk88 t)) (fun h89 => (okj (fun h90 => (by
    have e : j = 89 := by omega
    subst e
    exact okk89 t)) (fun h90 => (by
    have e : j = 90 := by omega
    subst e
    exact okk90 t)))))))) (fun h91 => (okj (fun h93 => (okj (fun h92 => (by
    have e : j = 91 := by omega
    subst e
    exact okk91 t)) (fun h92 => (by
    have e : j = 92 := by omega
    subst e
    exact okk92 t)))) (fun h93 => (okj (fun h94 => (by
    have e : j = 93 := by omega
    subst e
    exact okk93 t)) (fun h94 => (okj (fun h95 => (by
    have e : j = 94 := by omega
    subst e
    exact okk94 t)) (fun h95 => (by
    have e : j = 95 := by omega
    subst e
    exact okk95 t)))))))))) (fun h96 => (okj (fun h101 => (okj (fun h98 => (okj (fun h97 => (by
    have e : j = 96 := by omega
    subst e
    exact okk96 t)) (fun h97 => (by
    have e : j = 97 := by omega
    subst e
    exact okk97 t)))) (fun h98 => (okj (fun h99 => (by
    have e : j = 98 := by omega
    subst e
    exact okk98 t)) (fun h99 => (okj (fun h100 => (by
    have e : j = 99 := by omega
    subst e
    exact okk99 t)) (fun h100 => (by
    have e : j = 100 := by omega
    subst e
    exact okk100 t)))))))) (fun h101 => (okj (fun h104 => (okj (fun h102 => (by
    have e : j = 101 := by omega
    subst e
    exact okk101 t)) (fun h102 => (okj (fun h103 => (by
    have e : j = 102 := by omega
    subst e
    exact okk102 t)) (fun h103 => (by
    have e : j = 103 := by omega
    subst e
    exact okk103 t)))))) (fun h104 => (okj (fun h105 => (by
    have e : j = 104 := by omega
    subst e
    exact okk104 t)) (fun h105 => (okj (fun h106 => (by
    have e : j = 105 := by omega
    subst e
    exact okk105 t)) (fun h106 => (by
    have e : j = 106 := by omega
    subst e
    exact okk106 t)))))))))))) (fun h107 => (okj (fun h118 => (okj (fun h112 => (okj (fun h109 => (okj (fun h108 => (by
    have e : j = 107 := by omega
    subst e
    exact okk107 t)) (fun h108 => (by
    have e : j = 108 := by omega
    subst e
    exact okk108 t)))) (fun h109 => (okj (fun h110 => (by
    have e : j = 109 := by omega
    subst e
    exact okk109 t)) (fun h110 => (okj (fun h111 => (by
    have e : j = 110 := by omega
    subst e
    exact okk110 t)) (fun h111 => (by
    have e : j = 111 := by omega
    subst e
    exact okk111 t)))))))) (fun h112 => (okj (fun h115 => (okj (fun h113 => (by
    have e : j = 112 := by omega
    subst e
    exact okk112 t)) (fun h113 => (okj (fun h114 => (by
    have e : j = 113 := by omega
    subst e
    exact okk113 t)) (fun h114 => (by
    have e : j = 114 := by omega
    subst e
    exact okk114 t)))))) (fun h115 => (okj (fun h116 => (by
    have e : j = 115 := by omega
    subst e
    exact okk115 t)) (fun h116 => (okj (fun h117 => (by
    have e : j = 116 := by omega
    subst e
    exact okk116 t)) (fun h117 => (by
    have e : j = 117 := by omega
    subst e
    exact okk117 t)))))))))) (fun h118 => (okj (fun h123 => (okj (fun h120 => (okj (fun h119 => (by
    have e : j = 118 := by omega
    subst e
    exact okk118 t)) (fun h119 => (by
    have e : j = 119 := by omega
    subst e
    exact okk119 t)))) (fun h120 => (okj (fun h121 => (by
    have e : j = 120 := by omega
    subst e
    exact okk120 t)) (fun h121 => (okj (fun h122 => (by
    have e : j = 121 := by omega
    subst e
    exact okk121 t)) (fun h122 => (by
    have e : j = 122 := by omega
    subst e
    exact okk122 t)))))))) (fun h123 => (okj (fun h126 => (okj (fun h124 => (by
    have e : j = 123 := by omega
    subst e
    exact okk123 t)) (fun h124 => (okj (fun h125 => (by
    have e : j = 124 := by omega
    subst e
    exact okk124 t)) (fun h125 => (by
    have e : j = 125 := by omega
    subst e
    exact okk125 t)))))) (fun h126 => (okj (fun h127 => (by
    have e : j = 126 := by omega
    subst e
    exact okk126 t)) (fun h127 => (okj (fun h128 => (by
    have e : j = 127 := by omega
    subst e
    exact okk127 t)) (fun h128 => (by
    have e : j = 128 := by omega
    subst e
    exact okk128 t)))))))))))))) (fun h129 => (okj (fun h150 => (okj (fun h139 => (okj (fun h134 => (okj (fun h131 => (okj (fun h130 => (by
    have e : j = 129 := by omega
    subst e
    exact okk129 t)) (fun h130 => (by
    have e : j = 130 := by omega
    subst e
    exact okk130 t)))) (fun h131 => (okj (fun h132 => (by
    have e : j = 131 := by omega
    subst e
    exact okk131 t)) (fun h132 => (okj (fun h133 => (by
    have e : j = 132 := by omega
    subst e
    exact okk132 t)) (fun h133 => (by
    have e : j = 133 := by omega
    subst e
    exact okk133 t)))))))) (fun h134 => (okj (fun h136 => (okj (fun h135 => (by
    have e : j = 134 := by omega
    subst e
    exact okk134 t)) (fun h135 => (by
    have e : j = 135 := by omega
    subst e
    exact okk135 t)))) (fun h136 => (okj (fun h137 => (by
    have e : j = 136 := by omega
    subst e
    exact okk136 t)) (fun h137 => (okj (fun h138 => (by
    have e : j = 137 := by omega
    subst e
    exact okk137 t)) (fun h138 => (by
    have e : j = 138 := by omega
    subst e
    exact okk138 t)))))))))) (fun h139 => (okj (fun h144 => (okj (fun h141 => (okj (fun h140 => (by
    have e : j = 139 := by omega
    subst e
    exact okk139 t)) (fun h140 => (by
    have e : j = 140 := by omega
    subst e
    exact okk140 t)))) (fun h141 => (okj (fun h142 => (by
    have e : j = 141 := by omega
    subst e
    exact okk141 t)) (fun h142 => (okj (fun h143 => (by
    have e : j = 142 := by omega
    subst e
    exact okk142 t)) (fun h143 => (by
    have e : j = 143 := by omega
    subst e
    exact okk143 t)))))))) (fun h144 => (okj (fun h147 => (okj (fun h145 => (by
    have e : j = 144 := by omega
    subst e
    exact okk144 t)) (fun h145 => (okj (fun h146 => (by
    have e : j = 145 := by omega
    subst e
    exact okk145 t)) (fun h146 => (by
    have e : j = 146 := by omega
    subst e
    exact okk146 t)))))) (fun h147 => (okj (fun h148 => (by
    have e : j = 147 := by omega
    subst e
    exact okk147 t)) (fun h148 => (okj (fun h149 => (by
    have e : j = 148 := by omega
    subst e
    exact okk148 t)) (fun h149 => (by
    have e : j = 149 := by omega
    subst e
    exact okk149 t)))))))))))) (fun h150 => (okj (fun h161 => (okj (fun h155 => (okj (fun h152 => (okj (fun h151 => (by
    have e : j = 150 := by omega
    subst e
    exact okk150 t)) (fun h151 => (by
    have e : j = 151 := by omega
    subst e
    exact okk151 t)))) (fun h152 => (okj (fun h153 => (by
    have e : j = 152 := by omega
    subst e
    exact okk152 t)) (fun h153 => (okj (fun h154 => (by
    have e : j = 153 := by omega
    subst e
    exact okk153 t)) (fun h154 => (by
    have e : j = 154 := by omega
    subst e
    exact okk154 t)))))))) (fun h155 => (okj (fun h158 => (okj (fun h156 => (by
    have e : j = 155 := by omega
    subst e
    exact okk155 t)) (fun h156 => (okj (fun h157 => (by
    have e : j = 156 := by omega
    subst e
    exact okk156 t)) (fun h157 => (by
    have e : j = 157 := by omega
    subst e
    exact okk157 t)))))) (fun h158 => (okj (fun h159 => (by
    have e : j = 158 := by omega
    subst e
    exact okk158 t)) (fun h159 => (okj (fun h160 => (by
    have e : j = 159 := by omega
    subst e
    exact okk159 t)) (fun h160 => (by
    have e : j = 160 := by omega
    subst e
    exact okk160 t)))))))))) (fun h161 => (okj (fun h166 => (okj (fun h163 => (okj (fun h162 => (by
    have e : j = 161 := by omega
    subst e
    exact okk161 t)) (fun h162 => (by
    have e : j = 162 := by omega
    subst e
    exact okk162 t)))) (fun h163 => (okj (fun h164 => (by
    have e : j = 163 := by omega
    subst e
    exact okk163 t)) (fun h164 => (okj (fun h165 => (by
    have e : j = 164 := by omega
    subst e
    exact okk164 t)) (fun h165 => (by
    have e : j = 165 := by omega
    subst e
    exact okk165 t)))))))) (fun h166 => (okj (fun h169 => (okj (fun h167 => (by
    have e : j = 166 := by omega
    subst e
    exact okk166 t)) (fun h167 => (okj (fun h168 => (by
    have e : j = 167 := by omega
    subst e
    exact okk167 t)) (fun h168 => (by
    have e : j = 168 := by omega
    subst e
    exact okk168 t)))))) (fun h169 => (okj (fun h170 => (by
    have e : j = 169 := by omega
    subst e
    exact okk169 t)) (fun h170 => (okj (fun h171 => (by
    have e : j = 170 := by omega
    subst e
    exact okk170 t)) (fun h171 => (by
    have e : j = 171 := by omega
    subst e
    exact okk171 t)))))))))))))))))) (fun h172 => (okj (fun h258 => (okj (fun h215 => (okj (fun h193 => (okj (fun h182 => (okj (fun h177 => (okj (fun h174 => (okj (fun h173 => (by
    have e : j = 172 := by omega
    subst e
    exact okk172 t)) (fun h173 => (by
    have e : j = 173 := by omega
    subst e
    exact okk173 t)))) (fun h174 => (okj (fun h175 => (by
    have e : j = 174 := by omega
    subst e
    exact okk174 t)) (fun h175 => (okj (fun h176 => (by
    have e : j = 175 := by omega
    subst e
    exact okk175 t)) (fun h176 => (by
    have e : j = 176 := by omega
    subst e
    exact okk176 t)))))))) (fun h177 => (okj (fun h179 => (okj (fun h178 => (by
    have e : j = 177 := by omega
    subst e
    exact okk177 t)) (fun h178 => (by
    have e : j = 178 := by omega
    subst e
    exact okk178 t)))) (fun h179 => (okj (fun h180 => (by
    have e : j = 179 := by omega
    subst e
    exact okk179 t)) (fun h180 => (okj (fun h181 => (by
    have e : j = 180 := by omega
    subst e
    exact okk180 t)) (fun h181 => (by
    have e : j = 181 := by omega
    subst e
    exact okk181 t)))))))))) (fun h182 => (okj (fun h187 => (okj (fun h184 => (okj (fun h183 => (by
    have e : j = 182 := by omega
    subst e
    exact okk182 t)) (fun h183 => (by
    have e : j = 183 := by omega
    subst e
    exact okk183 t)))) (fun h184 => (okj (fun h185 => (by
    have e : j = 184 := by omega
    subst e
    exact okk184 t)) (fun h185 => (okj (fun h186 => (by
    have e : j = 185 := by omega
    subst e
    exact okk185 t)) (fun h186 => (by
    have e : j = 186 := by omega
    subst e
    exact okk186 t)))))))) (fun h187 => (okj (fun h190 => (okj (fun h188 => (by
    have e : j = 187 := by omega
    subst e
    exact okk187 t)) (fun h188 => (okj (fun h189 => (by
    have e : j = 188 := by omega
    subst e
    exact okk188 t)) (fun h189 => (by
    have e : j = 189 := by omega
    subst e
    exact okk189 t)))))) (fun h190 => (okj (fun h191 => (by
    have e : j = 190 := by omega
    subst e
    exact okk190 t)) (fun h191 => (okj (fun h192 => (by
    have e : j = 191 := by omega
    subst e
    exact okk191 t)) (fun h192 => (by
    have e : j = 192 := by omega
    subst e
    exact okk192 t)))))))))))) (fun h193 => (okj (fun h204 => (okj (fun h198 => (okj (fun h195 => (okj (fun h194 => (by
    have e : j = 193 := by omega
    subst e
    exact okk193 t)) (fun h194 => (by
    have e : j = 194 := by omega
    subst e
    exact okk194 t)))) (fun h195 => (okj (fun h196 => (by
    have e : j = 195 := by omega
    subst e
    exact okk195 t)) (fun h196 => (okj (fun h197 => (by
    have e : j = 196 := by omega
    subst e
    exact okk196 t)) (fun h197 => (by
    have e : j = 197 := by omega
    subst e
    exact okk197 t)))))))) (fun h198 => (okj (fun h201 => (okj (fun h199 => (by
    have e : j = 198 := by omega
    subst e
    exact okk198 t)) (fun h199 => (okj (fun h200 => (by
    have e : j = 199 := by omega
    subst e
    exact okk199 t)) (fun h200 => (by
    have e : j = 200 := by omega
    subst e
    exact okk200 t)))))) (fun h201 => (okj (fun h202 => (by
    have e : j = 201 := by omega
    subst e
    exact okk201 t)) (fun h202 => (okj (fun h203 => (by
    have e : j = 202 := by omega
    subst e
    exact okk202 t)) (fun h203 => (by
    have e : j = 203 := by omega
    subst e
    exact okk203 t)))))))))) (fun h204 => (okj (fun h209 => (okj (fun h206 => (okj (fun h205 => (by
    have e : j = 204 := by omega
    subst e
    exact okk204 t)) (fun h205 => (by
    have e : j = 205 := by omega
    subst e
    exact okk205 t)))) (fun h206 => (okj (fun h207 => (by
    have e : j = 206 := by omega
    subst e
    exact okk206 t)) (fun h207 => (okj (fun h208 => (by
    have e : j = 207 := by omega
    subst e
    exact okk207 t)) (fun h208 => (by
    have e : j = 208 := by omega
    subst e
    exact okk208 t)))))))) (fun h209 => (okj (fun h212 => (okj (fun h210 => (by
    have e : j = 209 := by omega
    subst e
    exact okk209 t)) (fun h210 => (okj (fun h211 => (by
    have e : j = 210 := by omega
    subst e
    exact okk210 t)) (fun h211 => (by
    have e : j = 211 := by omega
    subst e
    exact okk211 t)))))) (fun h212 => (okj (fun h213 => (by
    have e : j = 212 := by omega
    subst e
    exact okk212 t)) (fun h213 => (okj (fun h214 => (by
    have e : j = 213 := by omega
    subst e
    exact okk213 t)) (fun h214 => (by
    have e : j = 214 := by omega
    subst e
    exact okk214 t)))))))))))))) (fun h215 => (okj (fun h236 => (okj (fun h225 => (okj (fun h220 => (okj (fun h217 => (okj (fun h216 => (by
    have e : j = 215 := by omega
    subst e
    exact okk215 t)) (fun h216 => (by
    have e : j = 216 := by omega
    subst e
    exact okk216 t)))) (fun h217 => (okj (fun h218 => (by
    have e : j = 217 := by omega
    subst e
    exact okk217 t)) (fun h218 => (okj (fun h219 => (by
    have e : j = 218 := by omega
    subst e
    exact okk218 t)) (fun h219 => (by
    have e : j = 219 := by omega
    subst e
    exact okk219 t)))))))) (fun h220 => (okj (fun h222 => (okj (fun h221 => (by
    have e : j = 220 := by omega
    subst e
    exact okk220 t)) (fun h221 => (by
    have e : j = 221 := by omega
    subst e
    exact okk221 t)))) (fun h222 => (okj (fun h223 => (by
    have e : j = 222 := by omega
    subst e
    exact okk222 t)) (fun h223 => (okj (fun h224 => (by
    have e : j = 223 := by omega
    subst e
    exact okk223 t)) (fun h224 => (by
    have e : j = 224 := by omega
    subst e
    exact okk224 t)))))))))) (fun h225 => (okj (fun h230 => (okj (fun h227 => (okj (fun h226 => (by
    have e : j = 225 := by omega
    subst e
    exact okk225 t)) (fun h226 => (by
    have e : j = 226 := by omega
    subst e
    exact okk226 t)))) (fun h227 => (okj (fun h228 => (by
    have e : j = 227 := by omega
    subst e
    exact okk227 t)) (fun h228 => (okj (fun h229 => (by
    have e : j = 228 := by omega
    subst e
    exact okk228 t)) (fun h229 => (by
    have e : j = 229 := by omega
    subst e
    exact okk229 t)))))))) (fun h230 => (okj (fun h233 => (okj (fun h231 => (by
    have e : j = 230 := by omega
    subst e
    exact okk230 t)) (fun h231 => (okj (fun h232 => (by
    have e : j = 231 := by omega
    subst e
    exact okk231 t)) (fun h232 => (by
    have e : j = 232 := by omega
    subst e
    exact okk232 t)))))) (fun h233 => (okj (fun h234 => (by
    have e : j = 233 := by omega
    subst e
    exact okk233 t)) (fun h234 => (okj (fun h235 => (by
    have e : j = 234 := by omega
    subst e
    exact okk234 t)) (fun h235 => (by
    have e : j = 235 := by omega
    subst e
    exact okk235 t)))))))))))) (fun h236 => (okj (fun h247 => (okj (fun h241 => (okj (fun h238 => (okj (fun h237 => (by
    have e : j = 236 := by omega
    subst e
    exact okk236 t)) (fun h237 => (by
    have e : j = 237 := by omega
    subst e
    exact okk237 t)))) (fun h238 => (okj (fun h239 => (by
    have e : j = 238 := by omega
    subst e
    exact okk238 t)) (fun h239 => (okj (fun h240 => (by
    have e : j = 239 := by omega
    subst e
    exact okk239 t)) (fun h240 => (by
    have e : j = 240 := by omega
    subst e
    exact okk240 t)))))))) (fun h241 => (okj (fun h244 => (okj (fun h242 => (by
    have e : j = 241 := by omega
    subst e
    exact okk241 t)) (fun h242 => (okj (fun h243 => (by
    have e : j = 242 := by omega
    subst e
    exact okk242 t)) (fun h243 => (by
    have e : j = 243 := by omega
    subst e
    exact okk243 t)))))) (fun h244 => (okj (fun h245 => (by
    have e : j = 244 := by omega
    subst e
    exact okk244 t)) (fun h245 => (okj (fun h246 => (by
    have e : j = 245 := by omega
    subst e
    exact okk245 t)) (fun h246 => (by
    have e : j = 246 := by omega
    subst e
    exact okk246 t)))))))))) (fun h247 => (okj (fun h252 => (okj (fun h249 => (okj (fun h248 => (by
    have e : j = 247 := by omega
    subst e
    exact okk247 t)) (fun h248 => (by
    have e : j = 248 := by omega
    subst e
    exact okk248 t)))) (fun h249 => (okj (fun h250 => (by
    have e : j = 249 := by omega
    subst e
    exact okk249 t)) (fun h250 => (okj (fun h251 => (by
    have e : j = 250 := by omega
    subst e
    exact okk250 t)) (fun h251 => (by
    have e : j = 251 := by omega
    subst e
    exact okk251 t)))))))) (fun h252 => (okj (fun h255 => (okj (fun h253 => (by
    have e : j = 252 := by omega
    subst e
    exact okk252 t)) (fun h253 => (okj (fun h254 => (by
    have e : j = 253 := by omega
    subst e
    exact okk253 t)) (fun h254 => (by
    have e : j = 254 := by omega
    subst e
    exact okk254 t)))))) (fun h255 => (okj (fun h256 => (by
    have e : j = 255 := by omega
    subst e
    exact okk255 t)) (fun h256 => (okj (fun h257 => (by
    have e : j = 256 := by omega
    subst e
    exact okk256 t)) (fun h257 => (by
    have e : j = 257 := by omega
    subst e
    exact okk257 t)))))))))))))))) (fun h258 => (okj (fun h301 => (okj (fun h279 => (okj (fun h268 => (okj (fun h263 => (okj (fun h260 => (okj (fun h259 => (by
    have e : j = 258 := by omega
    subst e
    exact okk258 t)) (fun h259 => (by
    have e : j = 259 := by omega
    subst e
    exact okk259 t)))) (fun h260 => (okj (fun h261 => (by
    have e : j = 260 := by omega
    subst e
    exact okk260 t)) (fun h261 => (okj (fun h262 => (by
    have e : j = 261 := by omega
    subst e
    exact okk261 t)) (fun h262 => (by
    have e : j = 262 := by omega
    subst e
    exact okk262 t)))))))) (fun h263 => (okj (fun h265 => (okj (fun h264 => (by
    have e : j = 263 := by omega
    subst e
    exact okk263 t)) (fun h264 => (by
    have e : j = 264 := by omega
    subst e
    exact okk264 t)))) (fun h265 => (okj (fun h266 => (by
    have e : j = 265 := by omega
    subst e
    exact okk265 t)) (fun h266 => (okj (fun h267 => (by
    have e : j = 266 := by omega
    subst e
    exact okk266 t)) (fun h267 => (by
    have e : j = 267 := by omega
    subst e
    exact okk267 t)))))))))) (fun h268 => (okj (fun h273 => (okj (fun h270 => (okj (fun h269 => (by
    have e : j = 268 := by omega
    subst e
    exact okk268 t)) (fun h269 => (by
    have e : j = 269 := by omega
    subst e
    exact okk269 t)))) (fun h270 => (okj (fun h271 => (by
    have e : j = 270 := by omega
    subst e
    exact okk270 t)) (fun h271 => (okj (fun h272 => (by
    have e : j = 271 := by omega
    subst e
    exact okk271 t)) (fun h272 => (by
    have e : j = 272 := by omega
    subst e
    exact okk272 t)))))))) (fun h273 => (okj (fun h276 => (okj (fun h274 => (by
    have e : j = 273 := by omega
    subst e
    exact okk273 t)) (fun h274 => (okj (fun h275 => (by
    have e : j = 274 := by omega
    subst e
    exact okk274 t)) (fun h275 => (by
    have e : j = 275 := by omega
    subst e
    exact okk275 t)))))) (fun h276 => (okj (fun h277 => (by
    have e : j = 276 := by omega
    subst e
    exact okk276 t)) (fun h277 => (okj (fun h278 => (by
    have e : j = 277 := by omega
    subst e
    exact okk277 t)) (fun h278 => (by
    have e : j = 278 := by omega
    subst e
    exact okk278 t)))))))))))) (fun h279 => (okj (fun h290 => (okj (fun h284 => (okj (fun h281 => (okj (fun h280 => (by
    have e : j = 279 := by omega
    subst e
    exact okk279 t)) (fun h280 => (by
    have e : j = 280 := by omega
    subst e
    exact okk280 t)))) (fun h281 => (okj (fun h282 => (by
    have e : j = 281 := by omega
    subst e
    exact okk281 t)) (fun h282 => (okj (fun h283 => (by
    have e : j = 282 := by omega
    subst e
    exact okk282 t)) (fun h283 => (by
    have e : j = 283 := by omega
    subst e
    exact okk283 t)))))))) (fun h284 => (okj (fun h287 => (okj (fun h285 => (by
    have e : j = 284 := by omega
    subst e
    exact okk284 t)) (fun h285 => (okj (fun h286 => (by
    have e : j = 285 := by omega
    subst e
    exact okk285 t)) (fun h286 => (by
    have e : j = 286 := by omega
    subst e
    exact okk286 t)))))) (fun h287 => (okj (fun h288 => (by
    have e : j = 287 := by omega
    subst e
    exact okk287 t)) (fun h288 => (okj (fun h289 => (by
    have e : j = 288 := by omega
    subst e
    exact okk288 t)) (fun h289 => (by
    have e : j = 289 := by omega
    subst e
    exact okk289 t)))))))))) (fun h290 => (okj (fun h295 => (okj (fun h292 => (okj (fun h291 => (by
    have e : j = 290 := by omega
    subst e
    exact okk290 t)) (fun h291 => (by
    have e : j = 291 := by omega
    subst e
    exact okk291 t)))) (fun h292 => (okj (fun h293 => (by
    have e : j = 292 := by omega
    subst e
    exact okk292 t)) (fun h293 => (okj (fun h294 => (by
    have e : j = 293 := by omega
    subst e
    exact okk293 t)) (fun h294 => (by
    have e : j = 294 := by omega
    subst e
    exact okk294 t)))))))) (fun h295 => (okj (fun h298 => (okj (fun h296 => (by
    have e : j = 295 := by omega
    subst e
    exact okk295 t)) (fun h296 => (okj (fun h297 => (by
    have e : j = 296 := by omega
    subst e
    exact okk296 t)) (fun h297 => (by
    have e : j = 297 := by omega
    subst e
    exact okk297 t)))))) (fun h298 => (okj (fun h299 => (by
    have e : j = 298 := by omega
    subst e
    exact okk298 t)) (fun h299 => (okj (fun h300 => (by
    have e : j = 299 := by omega
    subst e
    exact okk299 t)) (fun h300 => (by
    have e : j = 300 := by omega
    subst e
    exact okk300 t)))))))))))))) (fun h301 => (okj (fun h323 => (okj (fun h312 => (okj (fun h306 => (okj (fun h303 => (okj (fun h302 => (by
    have e : j = 301 := by omega
    subst e
    exact okk301 t)) (fun h302 => (by
    have e : j = 302 := by omega
    subst e
    exact okk302 t)))) (fun h303 => (okj (fun h304 => (by
    have e : j = 303 := by omega
    subst e
    exact okk303 t)) (fun h304 => (okj (fun h305 => (by
    have e : j = 304 := by omega
    subst e
    exact okk304 t)) (fun h305 => (by
    have e : j = 305 := by omega
    subst e
    exact okk305 t)))))))) (fun h306 => (okj (fun h309 => (okj (fun h307 => (by
    have e : j = 306 := by omega
    subst e
    exact okk306 t)) (fun h307 => (okj (fun h308 => (by
    have e : j = 307 := by omega
    subst e
    exact okk307 t)) (fun h308 => (by
    have e : j = 308 := by omega
    subst e
    exact okk308 t)))))) (fun h309 => (okj (fun h310 => (by
    have e : j = 309 := by omega
    subst e
    exact okk309 t)) (fun h310 => (okj (fun h311 => (by
    have e : j = 310 := by omega
    subst e
    exact okk310 t)) (fun h311 => (by
    have e : j = 311 := by omega
    subst e
    exact okk311 t)))))))))) (fun h312 => (okj (fun h317 => (okj (fun h314 => (okj (fun h313 => (by
    have e : j = 312 := by omega
    subst e
    exact okk312 t)) (fun h313 => (by
    have e : j = 313 := by omega
    subst e
    exact okk313 t)))) (fun h314 => (okj (fun h315 => (by
    have e : j = 314 := by omega
    subst e
    exact okk314 t)) (fun h315 => (okj (fun h316 => (by
    have e : j = 315 := by omega
    subst e
    exact okk315 t)) (fun h316 => (by
    have e : j = 316 := by omega
    subst e
    exact okk316 t)))))))) (fun h317 => (okj (fun h320 => (okj (fun h318 => (by
    have e : j = 317 := by omega
    subst e
    exact okk317 t)) (fun h318 => (okj (fun h319 => (by
    have e : j = 318 := by omega
    subst e
    exact okk318 t)) (fun h319 => (by
    have e : j = 319 := by omega
    subst e
    exact okk319 t)))))) (fun h320 => (okj (fun h321 => (by
    have e : j = 320 := by omega
    subst e
    exact okk320 t)) (fun h321 => (okj (fun h322 => (by
    have e : j = 321 := by omega
    subst e
    exact okk321 t)) (fun h322 => (by
    have e : j = 322 := by omega
    subst e
    exact okk322 t)))))))))))) (fun h323 => (okj (fun h334 => (okj (fun h328 => (okj (fun h325 => (okj (fun h324 => (by
    have e : j = 323 := by omega
    subst e
    exact okk323 t)) (fun h324 => (by
    have e : j = 324 := by omega
    subst e
    exact okk324 t)))) (fun h325 => (okj (fun h326 => (by
    have e : j = 325 := by omega
    subst e
    exact okk325 t)) (fun h326 => (okj (fun h327 => (by
    have e : j = 326 := by omega
    subst e
    exact okk326 t)) (fun h327 => (by
    have e : j = 327 := by omega
    subst e
    exact okk327 t)))))))) (fun h328 => (okj (fun h331 => (okj (fun h329 => (by
    have e : j = 328 := by omega
    subst e
    exact okk328 t)) (fun h329 => (okj (fun h330 => (by
    have e : j = 329 := by omega
    subst e
    exact okk329 t)) (fun h330 => (by
    have e : j = 330 := by omega
    subst e
    exact okk330 t)))))) (fun h331 => (okj (fun h332 => (by
    have e : j = 331 := by omega
    subst e
    exact okk331 t)) (fun h332 => (okj (fun h333 => (by
    have e : j = 332 := by omega
    subst e
    exact okk332 t)) (fun h333 => (by
    have e : j = 333 := by omega
    subst e
    exact okk333 t)))))))))) (fun h334 => (okj (fun h339 => (okj (fun h336 => (okj (fun h335 => (by
    have e : j = 334 := by omega
    subst e
    exact okk334 t)) (fun h335 => (by
    have e : j = 335 := by omega
    subst e
    exact okk335 t)))) (fun h336 => (okj (fun h337 => (by
    have e : j = 336 := by omega
    subst e
    exact okk336 t)) (fun h337 => (okj (fun h338 => (by
    have e : j = 337 := by omega
    subst e
    exact okk337 t)) (fun h338 => (by
    have e : j = 338 := by omega
    subst e
    exact okk338 t)))))))) (fun h339 => (okj (fun h342 => (okj (fun h340 => (by
    have e : j = 339 := by omega
    subst e
    exact okk339 t)) (fun h340 => (okj (fun h341 => (by
    have e : j = 340 := by omega
    subst e
    exact okk340 t)) (fun h341 => (by
    have e : j = 341 := by omega
    subst e
    exact okk341 t)))))) (fun h342 => (okj (fun h343 => (by
    have e : j = 342 := by omega
    subst e
    exact okk342 t)) (fun h343 => (okj (fun h344 => (by
    have e : j = 343 := by omega
    subst e
    exact okk343 t)) (fun h344 => (by
    have e : j = 344 := by omega
    subst e
    exact okk344 t)))))))))))))))))))
theorem mok_k {y : Nat} (a n : Nat) (h : ((List.range n).all (fun i => Nat.beq (i + a) LAWM || mOK (i + a))) = true) (h1 : a ≤ y) (h2 : y < a + n) (hl : y ≠ LAWM) : mOK y = true := by
  have h3 := List.all_eq_true.mp h (y - a) (List.mem_range.mpr (by omega))
  rw [show y - a + a = y by omega, Bool.or_eq_true] at h3
  rcases h3 with h3 | h3
  · exact absurd (beqE h3) hl
  · exact h3
theorem mok_all : ∀ y, y < NMETH → y ≠ LAWM → mOK y = true := by
  intro y hy hl
  have hy : y < 345 := hy
  exact (Or.elim (Nat.lt_or_ge y 174) (fun h29 => (Or.elim (Nat.lt_or_ge y 84) (fun h14 => (Or.elim (Nat.lt_or_ge y 42) (fun h7 => (Or.elim (Nat.lt_or_ge y 18) (fun h3 => (Or.elim (Nat.lt_or_ge y 6) (fun h1 => (mok_k 0 6 mok0 (by omega) (by omega) hl)) (fun h1 => (Or.elim (Nat.lt_or_ge y 12) (fun h2 => (mok_k 6 6 mok1 (by omega) (by omega) hl)) (fun h2 => (mok_k 12 6 mok2 (by omega) (by omega) hl)))))) (fun h3 => (Or.elim (Nat.lt_or_ge y 30) (fun h5 => (Or.elim (Nat.lt_or_ge y 24) (fun h4 => (mok_k 18 6 mok3 (by omega) (by omega) hl)) (fun h4 => (mok_k 24 6 mok4 (by omega) (by omega) hl)))) (fun h5 => (Or.elim (Nat.lt_or_ge y 36) (fun h6 => (mok_k 30 6 mok5 (by omega) (by omega) hl)) (fun h6 => (mok_k 36 6 mok6 (by omega) (by omega) hl)))))))) (fun h7 => (Or.elim (Nat.lt_or_ge y 60) (fun h10 => (Or.elim (Nat.lt_or_ge y 48) (fun h8 => (mok_k 42 6 mok7 (by omega) (by omega) hl)) (fun h8 => (Or.elim (Nat.lt_or_ge y 54) (fun h9 => (mok_k 48 6 mok8 (by omega) (by omega) hl)) (fun h9 => (mok_k 54 6 mok9 (by omega) (by omega) hl)))))) (fun h10 => (Or.elim (Nat.lt_or_ge y 72) (fun h12 => (Or.elim (Nat.lt_or_ge y 66) (fun h11 => (mok_k 60 6 mok10 (by omega) (by omega) hl)) (fun h11 => (mok_k 66 6 mok11 (by omega) (by omega) hl)))) (fun h12 => (Or.elim (Nat.lt_or_ge y 78) (fun h13 => (mok_k 72 6 mok12 (by omega) (by omega) hl)) (fun h13 => (mok_k 78 6 mok13 (by omega) (by omega) hl)))))))))) (fun h14 => (Or.elim (Nat.lt_or_ge y 126) (fun h21 => (Or.elim (Nat.lt_or_ge y 102) (fun h17 => (Or.elim (Nat.lt_or_ge y 90) (fun h15 => (mok_k 84 6 mok14 (by omega) (by omega) hl)) (fun h15 => (Or.elim (Nat.lt_or_ge y 96) (fun h16 => (mok_k 90 6 mok15 (by omega) (by omega) hl)) (fun h16 => (mok_k 96 6 mok16 (by omega) (by omega) hl)))))) (fun h17 => (Or.elim (Nat.lt_or_ge y 114) (fun h19 => (Or.elim (Nat.lt_or_ge y 108) (fun h18 => (mok_k 102 6 mok17 (by omega) (by omega) hl)) (fun h18 => (mok_k 108 6 mok18 (by omega) (by omega) hl)))) (fun h19 => (Or.elim (Nat.lt_or_ge y 120) (fun h20 => (mok_k 114 6 mok19 (by omega) (by omega) hl)) (fun h20 => (mok_k 120 6 mok20 (by omega) (by omega) hl)))))))) (fun h21 => (Or.elim (Nat.lt_or_ge y 150) (fun h25 => (Or.elim (Nat.lt_or_ge y 138) (fun h23 => (Or.elim (Nat.lt_or_ge y 132) (fun h22 => (mok_k 126 6 mok21 (by omega) (by omega) hl)) (fun h22 => (mok_k 132 6 mok22 (by omega) (by omega) hl)))) (fun h23 => (Or.elim (Nat.lt_or_ge y 144) (fun h24 => (mok_k 138 6 mok23 (by omega) (by omega) hl)) (fun h24 => (mok_k 144 6 mok24 (by omega) (by omega) hl)))))) (fun h25 => (Or.elim (Nat.lt_or_ge y 162) (fun h27 => (Or.elim (Nat.lt_or_ge y 156) (fun h26 => (mok_k 150 6 mok25 (by omega) (by omega) hl)) (fun h26 => (mok_k 156 6 mok26 (by omega) (by omega) hl)))) (fun h27 => (Or.elim (Nat.lt_or_ge y 168) (fun h28 => (mok_k 162 6 mok27 (by omega) (by omega) hl)) (fun h28 => (mok_k 168 6 mok28 (by omega) (by omega) hl)))))))))))) (fun h29 => (Or.elim (Nat.lt_or_ge y 258) (fun h43 => (Or.elim (Nat.lt_or_ge y 216) (fun h36 => (Or.elim (Nat.lt_or_ge y 192) (fun h32 => (Or.elim (Nat.lt_or_ge y 180) (fun h30 => (mok_k 174 6 mok29 (by omega) (by omega) hl)) (fun h30 => (Or.elim (Nat.lt_or_ge y 186) (fun h31 => (mok_k 180 6 mok30 (by omega) (by omega) hl)) (fun h31 => (mok_k 186 6 mok31 (by omega) (by omega) hl)))))) (fun h32 => (Or.elim (Nat.lt_or_ge y 204) (fun h34 => (Or.elim (Nat.lt_or_ge y 198) (fun h33 => (mok_k 192 6 mok32 (by omega) (by omega) hl)) (fun h33 => (mok_k 198 6 mok33 (by omega) (by omega) hl)))) (fun h34 => (Or.elim (Nat.lt_or_ge y 210) (fun h35 => (mok_k 204 6 mok34 (by omega) (by omega) hl)) (fun h35 => (mok_k 210 6 mok35 (by omega) (by omega) hl)))))))) (fun h36 => (Or.elim (Nat.lt_or_ge y 234) (fun h39 => (Or.elim (Nat.lt_or_ge y 222) (fun h37 => (mok_k 216 6 mok36 (by omega) (by omega) hl)) (fun h37 => (Or.elim (Nat.lt_or_ge y 228) (fun h38 => (mok_k 222 6 mok37 (by omega) (by omega) hl)) (fun h38 => (mok_k 228 6 mok38 (by omega) (by omega) hl)))))) (fun h39 => (Or.elim (Nat.lt_or_ge y 246) (fun h41 => (Or.elim (Nat.lt_or_ge y 240) (fun h40 => (mok_k 234 6 mok39 (by omega) (by omega) hl)) (fun h40 => (mok_k 240 6 mok40 (by omega) (by omega) hl)))) (fun h41 => (Or.elim (Nat.lt_or_ge y 252) (fun h42 => (mok_k 246 6 mok41 (by omega) (by omega) hl)) (fun h42 => (mok_k 252 6 mok42 (by omega) (by omega) hl)))))))))) (fun h43 => (Or.elim (Nat.lt_or_ge y 300) (fun h50 => (Or.elim (Nat.lt_or_ge y 276) (fun h46 => (Or.elim (Nat.lt_or_ge y 264) (fun h44 => (mok_k 258 6 mok43 (by omega) (by omega) hl)) (fun h44 => (Or.elim (Nat.lt_or_ge y 270) (fun h45 => (mok_k 264 6 mok44 (by omega) (by omega) hl)) (fun h45 => (mok_k 270 6 mok45 (by omega) (by omega) hl)))))) (fun h46 => (Or.elim (Nat.lt_or_ge y 288) (fun h48 => (Or.elim (Nat.lt_or_ge y 282) (fun h47 => (mok_k 276 6 mok46 (by omega) (by omega) hl)) (fun h47 => (mok_k 282 6 mok47 (by omega) (by omega) hl)))) (fun h48 => (Or.elim (Nat.lt_or_ge y 294) (fun h49 => (mok_k 288 6 mok48 (by omega) (by omega) hl)) (fun h49 => (mok_k 294 6 mok49 (by omega) (by omega) hl)))))))) (fun h50 => (Or.elim (Nat.lt_or_ge y 324) (fun h54 => (Or.elim (Nat.lt_or_ge y 312) (fun h52 => (Or.elim (Nat.lt_or_ge y 306) (fun h51 => (mok_k 300 6 mok50 (by omega) (by omega) hl)) (fun h51 => (mok_k 306 6 mok51 (by omega) (by omega) hl)))) (fun h52 => (Or.elim (Nat.lt_or_ge y 318) (fun h53 => (mok_k 312 6 mok52 (by omega) (by omega) hl)) (fun h53 => (mok_k 318 6 mok53 (by omega) (by omega) hl)))))) (fun h54 => (Or.elim (Nat.lt_or_ge y 336) (fun h56 => (Or.elim (Nat.lt_or_ge y 330) (fun h55 => (mok_k 324 6 mok54 (by omega) (by omega) hl)) (fun h55 => (mok_k 330 6 mok55 (by omega) (by omega) hl)))) (fun h56 => (Or.elim (Nat.lt_or_ge y 342) (fun h57 => (mok_k 336 6 mok56 (by omega) (by omega) hl)) (fun h57 => (mok_k 342 3 mok57 (by omega) (by omega) hl)))))))))))))
theorem lay0 : ((List.range 16).all (fun k => decide ((tabs ((lpos 0).getD k (99, 0)).1)[((lpos 0).getD k (99, 0)).2]? = some (u_lay RX0 TX0 k)) && gw (u_lay RX0 TX0 k))) = true := by decide +kernel
theorem cl0 : CL TS 0 RX0 TX0 16 tyX0 := ⟨rfl, fun w hw => by
  obtain ⟨k, hk, rfl⟩ := List.mem_map.mp hw
  have h := List.all_eq_true.mp lay0 k hk
  obtain ⟨h1, h2⟩ := an2 h
  exact TS_in (dec_e h1) h2, tyX0_ok, nmX0, rfl⟩
theorem lay1 : ((List.range 2).all (fun k => decide ((tabs ((lpos 1).getD k (99, 0)).1)[((lpos 1).getD k (99, 0)).2]? = some (u_lay RX1 TX1 k)) && gw (u_lay RX1 TX1 k))) = true := by decide +kernel
theorem cl1 : CL TS 1 RX1 TX1 2 tyX1 := ⟨rfl, fun w hw => by
  obtain ⟨k, hk, rfl⟩ := List.mem_map.mp hw
  have h := List.all_eq_true.mp lay1 k hk
  obtain ⟨h1, h2⟩ := an2 h
  exact TS_in (dec_e h1) h2, tyX1_ok, nmX1, rfl⟩
theorem lay2 : ((List.range 7).all (fun k => decide ((tabs ((lpos 2).getD k (99, 0)).1)[((lpos 2).getD k (99, 0)).2]? = some (u_lay RX2 TX2 k)) && gw (u_lay RX2 TX2 k))) = true := by decide +kernel
theorem cl2 : CL TS 2 RX2 TX2 7 tyX2 := ⟨rfl, fun w hw => by
  obtain ⟨k, hk, rfl⟩ := List.mem_map.mp hw
  have h := List.all_eq_true.mp lay2 k hk
  obtain ⟨h1, h2⟩ := an2 h
  exact TS_in (dec_e h1) h2, tyX2_ok, nmX2, rfl⟩
theorem lay3 : ((List.range 2).all (fun k => decide ((tabs ((lpos 3).getD k (99, 0)).1)[((lpos 3).getD k (99, 0)).2]? = some (u_lay RX3 TX3 k)) && gw (u_lay RX3 TX3 k))) = true := by decide +kernel
theorem cl3 : CL TS 3 RX3 TX3 2 tyX3 := ⟨rfl, fun w hw => by
  obtain ⟨k, hk, rfl⟩ := List.mem_map.mp hw
  have h := List.all_eq_true.mp lay3 k hk
  obtain ⟨h1, h2⟩ := an2 h
  exact TS_in (dec_e h1) h2, tyX3_ok, nmX3, rfl⟩
theorem lay4 : ((List.range 11).all (fun k => decide ((tabs ((lpos 4).getD k (99, 0)).1)[((lpos 4).getD k (99, 0)).2]? = some (u_lay RX4 TX4 k)) && gw (u_lay RX4 TX4 k))) = true := by decide +kernel
theorem cl4 : CL TS 4 RX4 TX4 11 tyX4 := ⟨rfl, fun w hw => by
  obtain ⟨k, hk, rfl⟩ := List.mem_map.mp hw
  have h := List.all_eq_true.mp lay4 k hk
  obtain ⟨h1, h2⟩ := an2 h
  exact TS_in (dec_e h1) h2, tyX4_ok, nmX4, rfl⟩
theorem lay5 : ((List.range 7).all (fun k => decide ((tabs ((lpos 5).getD k (99, 0)).1)[((lpos 5).getD k (99, 0)).2]? = some (u_lay RX5 TX5 k)) && gw (u_lay RX5 TX5 k))) = true := by decide +kernel
theorem cl5 : CL TS 5 RX5 TX5 7 tyX5 := ⟨rfl, fun w hw => by
  obtain ⟨k, hk, rfl⟩ := List.mem_map.mp hw
  have h := List.all_eq_true.mp lay5 k hk
  obtain ⟨h1, h2⟩ := an2 h
  exact TS_in (dec_e h1) h2, tyX5_ok, nmX5, rfl⟩
theorem lay6 : ((List.range 16).all (fun k => decide ((tabs ((lpos 6).getD k (99, 0)).1)[((lpos 6).getD k (99, 0)).2]? = some (u_lay RX6 TX6 k)) && gw (u_lay RX6 TX6 k))) = true := by decide +kernel
theorem cl6 : CL TS 6 RX6 TX6 16 tyX6 := ⟨rfl, fun w hw => by
  obtain ⟨k, hk, rfl⟩ := List.mem_map.mp hw
  have h := List.all_eq_true.mp lay6 k hk
  obtain ⟨h1, h2⟩ := an2 h
  exact TS_in (dec_e h1) h2, tyX6_ok, nmX6, rfl⟩
theorem lay7 : ((List.range 3).all (fun k => decide ((tabs ((lpos 7).getD k (99, 0)).1)[((lpos 7).getD k (99, 0)).2]? = some (u_lay RX7 TX7 k)) && gw (u_lay RX7 TX7 k))) = true := by decide +kernel
theorem cl7 : CL TS 7 RX7 TX7 3 tyX7 := ⟨rfl, fun w hw => by
  obtain ⟨k, hk, rfl⟩ := List.mem_map.mp hw
  have h := List.all_eq_true.mp lay7 k hk
  obtain ⟨h1, h2⟩ := an2 h
  exact TS_in (dec_e h1) h2, tyX7_ok, nmX7, rfl⟩
theorem lay8 : ((List.range 9).all (fun k => decide ((tabs ((lpos 8).getD k (99, 0)).1)[((lpos 8).getD k (99, 0)).2]? = some (u_lay RX8 TX8 k)) && gw (u_lay RX8 TX8 k))) = true := by decide +kernel
theorem cl8 : CL TS 8 RX8 TX8 9 tyX8 := ⟨rfl, fun w hw => by
  obtain ⟨k, hk, rfl⟩ := List.mem_map.mp hw
  have h := List.all_eq_true.mp lay8 k hk
  obtain ⟨h1, h2⟩ := an2 h
  exact TS_in (dec_e h1) h2, tyX8_ok, nmX8, rfl⟩
theorem lay9 : ((List.range 5).all (fun k => decide ((tabs ((lpos 9).getD k (99, 0)).1)[((lpos 9).getD k (99, 0)).2]? = some (u_lay RX9 TX9 k)) && gw (u_lay RX9 TX9 k))) = true := by decide +kernel
theorem cl9 : CL TS 9 RX9 TX9 5 tyX9 := ⟨rfl, fun w hw => by
  obtain ⟨k, hk, rfl⟩ := List.mem_map.mp hw
  have h := List.all_eq_true.mp lay9 k hk
  obtain ⟨h1, h2⟩ := an2 h
  exact TS_in (dec_e h1) h2, tyX9_ok, nmX9, rfl⟩
theorem lay10 : ((List.range 18).all (fun k => decide ((tabs ((lpos 10).getD k (99, 0)).1)[((lpos 10).getD k (99, 0)).2]? = some (u_lay RX10 TX10 k)) && gw (u_lay RX10 TX10 k))) = true := by decide +kernel
theorem cl10 : CL TS 10 RX10 TX10 18 tyX10 := ⟨rfl, fun w hw => by
  obtain ⟨k, hk, rfl⟩ := List.mem_map.mp hw
  have h := List.all_eq_true.mp lay10 k hk
  obtain ⟨h1, h2⟩ := an2 h
  exact TS_in (dec_e h1) h2, tyX10_ok, nmX10, rfl⟩
theorem lay11 : ((List.range 53).all (fun k => decide ((tabs ((lpos 11).getD k (99, 0)).1)[((lpos 11).getD k (99, 0)).2]? = some (u_lay RX11 TX11 k)) && gw (u_lay RX11 TX11 k))) = true := by decide +kernel
theorem cl11 : CL TS 11 RX11 TX11 53 tyX11 := ⟨rfl, fun w hw => by
  obtain ⟨k, hk, rfl⟩ := List.mem_map.mp hw
  have h := List.all_eq_true.mp lay11 k hk
  obtain ⟨h1, h2⟩ := an2 h
  exact TS_in (dec_e h1) h2, tyX11_ok, nmX11, rfl⟩
theorem cl_all : ∀ ci, ci < 12 → CL TS ci (clC ci) (clF ci) (clN ci) (clT ci) := by
  intro ci h
  match ci, h with
  | 0, _ => exact cl0
  | 1, _ => exact cl1
  | 2, _ => exact cl2
  | 3, _ => exact cl3
  | 4, _ => exact cl4
  | 5, _ => exact cl5
  | 6, _ => exact cl6
  | 7, _ => exact cl7
  | 8, _ => exact cl8
  | 9, _ => exact cl9
  | 10, _ => exact cl10
  | 11, _ => exact cl11
  | k + 12, h => omega
theorem ty_b : ((List.range 12).all (fun ci => (List.range (clN ci)).all (fun i => !Nat.beq (tyg (clT ci i)) 9 && (Nat.beq (tyg (clT ci i)) ((ft ci).getD i 0) || (Nat.beq ((ft ci).getD i 0) 4 && Nat.beq (tyg (clT ci i)) 2))))) = true := by decide +kernel
theorem ty_all : ∀ ci i, ci < 12 → i < clN ci → tyg (clT ci i) ≠ 9 ∧ (tyg (clT ci i) = (ft ci).getD i 0 ∨ ((ft ci).getD i 0 = 4 ∧ tyg (clT ci i) = 2)) := by
  intro ci i h1 h2
  have h := List.all_eq_true.mp (List.all_eq_true.mp ty_b ci (List.mem_range.mpr h1)) i (List.mem_range.mpr h2)
  obtain ⟨h3, h4⟩ := an2 h
  refine ⟨(fun q => by rw [q] at h3; cases h3), ?_⟩
  rw [Bool.or_eq_true] at h4
  rcases h4 with h4 | h4
  · exact Or.inl (beqE h4)
  · obtain ⟨h5, h6⟩ := an2 h4
    exact Or.inr ⟨beqE h5, beqE h6⟩
theorem ini0 : Cond.instantiable RX0 16 ∈ TS ∧ Cond.initialized RX0 ∈ TS := ⟨(TS_in (k := 1) (o := 37) (by decide +kernel) (by decide +kernel)), (TS_in (k := 1) (o := 2) (by decide +kernel) (by decide +kernel))⟩
theorem ini1 : Cond.instantiable RX1 2 ∈ TS ∧ Cond.initialized RX1 ∈ TS := ⟨(TS_in (k := 1) (o := 208) (by decide +kernel) (by decide +kernel)), (TS_in (k := 1) (o := 5) (by decide +kernel) (by decide +kernel))⟩
theorem ini2 : Cond.instantiable RX2 7 ∈ TS ∧ Cond.initialized RX2 ∈ TS := ⟨(TS_in (k := 1) (o := 137) (by decide +kernel) (by decide +kernel)), (TS_in (k := 1) (o := 3) (by decide +kernel) (by decide +kernel))⟩
theorem ini3 : Cond.instantiable RX3 2 ∈ TS ∧ Cond.initialized RX3 ∈ TS := ⟨(TS_in (k := 1) (o := 221) (by decide +kernel) (by decide +kernel)), (TS_in (k := 1) (o := 6) (by decide +kernel) (by decide +kernel))⟩
theorem ini4 : Cond.instantiable RX4 11 ∈ TS ∧ Cond.initialized RX4 ∈ TS := ⟨(TS_in (k := 2) (o := 142) (by decide +kernel) (by decide +kernel)), (TS_in (k := 1) (o := 11) (by decide +kernel) (by decide +kernel))⟩
theorem ini5 : Cond.instantiable RX5 7 ∈ TS ∧ Cond.initialized RX5 ∈ TS := ⟨(TS_in (k := 1) (o := 234) (by decide +kernel) (by decide +kernel)), (TS_in (k := 1) (o := 7) (by decide +kernel) (by decide +kernel))⟩
theorem ini6 : Cond.instantiable RX6 16 ∈ TS ∧ Cond.initialized RX6 ∈ TS := ⟨(TS_in (k := 2) (o := 55) (by decide +kernel) (by decide +kernel)), (TS_in (k := 1) (o := 9) (by decide +kernel) (by decide +kernel))⟩
theorem ini7 : Cond.instantiable RX7 3 ∈ TS ∧ Cond.initialized RX7 ∈ TS := ⟨(TS_in (k := 2) (o := 33) (by decide +kernel) (by decide +kernel)), (TS_in (k := 1) (o := 8) (by decide +kernel) (by decide +kernel))⟩
theorem ini8 : Cond.instantiable RX8 9 ∈ TS ∧ Cond.initialized RX8 ∈ TS := ⟨(TS_in (k := 1) (o := 167) (by decide +kernel) (by decide +kernel)), (TS_in (k := 1) (o := 4) (by decide +kernel) (by decide +kernel))⟩
theorem ini9 : Cond.instantiable RX9 5 ∈ TS ∧ Cond.initialized RX9 ∈ TS := ⟨(TS_in (k := 2) (o := 118) (by decide +kernel) (by decide +kernel)), (TS_in (k := 1) (o := 10) (by decide +kernel) (by decide +kernel))⟩
theorem ini10 : Cond.instantiable RX10 18 ∈ TS ∧ Cond.initialized RX10 ∈ TS := ⟨(TS_in (k := 1) (o := 29) (by decide +kernel) (by decide +kernel)), (TS_in (k := 1) (o := 1) (by decide +kernel) (by decide +kernel))⟩
theorem ini11 : Cond.instantiable RX11 53 ∈ TS ∧ Cond.initialized RX11 ∈ TS := ⟨(TS_in (k := 7) (o := 62) (by decide +kernel) (by decide +kernel)), (TS_in (k := 1) (o := 13) (by decide +kernel) (by decide +kernel))⟩
theorem ini_all : ∀ ci, ci < 12 → Cond.instantiable (clC ci) (clN ci) ∈ TS ∧ Cond.initialized (clC ci) ∈ TS := by
  intro ci h
  match ci, h with
  | 0, _ => exact ini0
  | 1, _ => exact ini1
  | 2, _ => exact ini2
  | 3, _ => exact ini3
  | 4, _ => exact ini4
  | 5, _ => exact ini5
  | 6, _ => exact ini6
  | 7, _ => exact ini7
  | 8, _ => exact ini8
  | 9, _ => exact ini9
  | 10, _ => exact ini10
  | 11, _ => exact ini11
  | k + 12, h => omega
theorem xat0 : ((x_at "GlassLeaders" (iix9 0) (exn 0) (xIx 0) (xRx 0) xnames).all (fun w => decide (w ∈ lw_tbl) && gw w && vx_ot w)) = true := by decide +kernel
theorem xok0 : Bundle.fit (exn 0) = true ∧ Cond.initialized (exn 0) ∈ TS ∧ Cond.castable (exn 0) (exn 0) ∈ TS ∧ (∀ w ∈ x_at "GlassLeaders" (iix9 0) (exn 0) (xIx 0) (xRx 0) xnames, w ∈ TS ∧ vx_ot w = true) := ⟨by decide +kernel, (TS_in (k := 1) (o := 24) (by decide +kernel) (by decide +kernel)), (TS_in (k := 4) (o := 229) (by decide +kernel) (by decide +kernel)), fun w hw => by
  have h := List.all_eq_true.mp xat0 w hw
  obtain ⟨h, h3⟩ := an2 h
  obtain ⟨h1, h2⟩ := an2 h
  exact ⟨List.mem_filter.mpr ⟨dec_e h1, h2⟩, h3⟩⟩
theorem xat1 : ((x_at "GlassLeaders" (iix9 1) (exn 1) (xIx 1) (xRx 1) xnames).all (fun w => decide (w ∈ lw_tbl) && gw w && vx_ot w)) = true := by decide +kernel
theorem xok1 : Bundle.fit (exn 1) = true ∧ Cond.initialized (exn 1) ∈ TS ∧ Cond.castable (exn 1) (exn 1) ∈ TS ∧ (∀ w ∈ x_at "GlassLeaders" (iix9 1) (exn 1) (xIx 1) (xRx 1) xnames, w ∈ TS ∧ vx_ot w = true) := ⟨by decide +kernel, (TS_in (k := 1) (o := 23) (by decide +kernel) (by decide +kernel)), (TS_in (k := 4) (o := 193) (by decide +kernel) (by decide +kernel)), fun w hw => by
  have h := List.all_eq_true.mp xat1 w hw
  obtain ⟨h, h3⟩ := an2 h
  obtain ⟨h1, h2⟩ := an2 h
  exact ⟨List.mem_filter.mpr ⟨dec_e h1, h2⟩, h3⟩⟩
theorem xat2 : ((x_at "GlassLeaders" (iix9 2) (exn 2) (xIx 2) (xRx 2) xnames).all (fun w => decide (w ∈ lw_tbl) && gw w && vx_ot w)) = true := by decide +kernel
theorem xok2 : Bundle.fit (exn 2) = true ∧ Cond.initialized (exn 2) ∈ TS ∧ Cond.castable (exn 2) (exn 2) ∈ TS ∧ (∀ w ∈ x_at "GlassLeaders" (iix9 2) (exn 2) (xIx 2) (xRx 2) xnames, w ∈ TS ∧ vx_ot w = true) := ⟨by decide +kernel, (TS_in (k := 1) (o := 17) (by decide +kernel) (by decide +kernel)), (TS_in (k := 3) (o := 83) (by decide +kernel) (by decide +kernel)), fun w hw => by
  have h := List.all_eq_true.mp xat2 w hw
  obtain ⟨h, h3⟩ := an2 h
  obtain ⟨h1, h2⟩ := an2 h
  exact ⟨List.mem_filter.mpr ⟨dec_e h1, h2⟩, h3⟩⟩
theorem xat3 : ((x_at "GlassLeaders" (iix9 3) (exn 3) (xIx 3) (xRx 3) xnames).all (fun w => decide (w ∈ lw_tbl) && gw w && vx_ot w)) = true := by decide +kernel
theorem xok3 : Bundle.fit (exn 3) = true ∧ Cond.initialized (exn 3) ∈ TS ∧ Cond.castable (exn 3) (exn 3) ∈ TS ∧ (∀ w ∈ x_at "GlassLeaders" (iix9 3) (exn 3) (xIx 3) (xRx 3) xnames, w ∈ TS ∧ vx_ot w = true) := ⟨by decide +kernel, (TS_in (k := 1) (o := 25) (by decide +kernel) (by decide +kernel)), (TS_in (k := 5) (o := 53) (by decide +kernel) (by decide +kernel)), fun w hw => by
  have h := List.all_eq_true.mp xat3 w hw
  obtain ⟨h, h3⟩ := an2 h
  obtain ⟨h1, h2⟩ := an2 h
  exact ⟨List.mem_filter.mpr ⟨dec_e h1, h2⟩, h3⟩⟩
theorem x_all : ∀ e, e < 4 → Bundle.fit (exn e) = true ∧ Cond.initialized (exn e) ∈ TS ∧ Cond.castable (exn e) (exn e) ∈ TS ∧ (∀ w ∈ x_at "GlassLeaders" (iix9 e) (exn e) (xIx e) (xRx e) xnames, w ∈ TS ∧ vx_ot w = true) := by
  intro e h
  match e, h with
  | 0, _ => exact xok0
  | 1, _ => exact xok1
  | 2, _ => exact xok2
  | 3, _ => exact xok3
  | k + 4, h => omega
theorem o1 : Cond.instanceMethod Lib.objectInit ∈ TS := (TS_in (k := 1) (o := 34) (by decide +kernel) (by decide +kernel))
theorem o2 : Cond.code Lib.objectInit ⟨#[0xb1]⟩ 1 none ∈ TS := (TS_in (k := 1) (o := 35) (by decide +kernel) (by decide +kernel))
theorem o3 : Cond.native arraycopyName ∈ TS := (TS_in (k := 3) (o := 52) (by decide +kernel) (by decide +kernel))
theorem o4 : Cond.static arraycopyName ∈ TS := (TS_in (k := 3) (o := 51) (by decide +kernel) (by decide +kernel))
theorem o5 : Cond.initialized "java/lang/System" ∈ TS := (TS_in (k := 1) (o := 26) (by decide +kernel) (by decide +kernel))
theorem o6 : Cond.arrayClass .int ∈ TS := (TS_in (k := 1) (o := 134) (by decide +kernel) (by decide +kernel))
theorem o7 : Cond.arrayClass .long ∈ TS := (TS_in (k := 1) (o := 135) (by decide +kernel) (by decide +kernel))
theorem o8 : Cond.arrayClass .boolean ∈ TS := (TS_in (k := 7) (o := 231) (by decide +kernel) (by decide +kernel))
theorem wa1 : Cond.instanceMethod yJ0_length_8abf5 ∈ TS := (TS_in (k := 3) (o := 187) (by decide +kernel) (by decide +kernel))
theorem wa2 : Cond.selects "java/lang/String" yJ0_length_8abf5 yJ0_length_8abf5 ∈ TS := (TS_in (k := 3) (o := 188) (by decide +kernel) (by decide +kernel))
theorem wa3 : Cond.initialized "java/lang/String" ∈ TS := (TS_in (k := 1) (o := 19) (by decide +kernel) (by decide +kernel))
theorem wa4 : Cond.code yJ0_length_8abf5 cJ0_length_8abf5 1 (some .int) ∈ TS := (TS_in (k := 3) (o := 189) (by decide +kernel) (by decide +kernel))
theorem wa : ∀ w ∈ [Cond.instanceMethod yJ0_length_8abf5, .selects "java/lang/String" yJ0_length_8abf5 yJ0_length_8abf5, .initialized "java/lang/String", .code yJ0_length_8abf5 cJ0_length_8abf5 1 (some .int)], w ∈ TS ∧ goodWord w = true := by
  intro w hw
  simp only [List.mem_cons, List.not_mem_nil, or_false] at hw
  rcases hw with rfl | rfl | rfl | rfl
  · exact ⟨wa1, rfl⟩
  · exact ⟨wa2, rfl⟩
  · exact ⟨wa3, rfl⟩
  · exact ⟨wa4, rfl⟩
theorem wb1 : Cond.instanceMethod yJ0_charAt_5068e ∈ TS := (TS_in (k := 3) (o := 197) (by decide +kernel) (by decide +kernel))
theorem wb2 : Cond.selects "java/lang/String" yJ0_charAt_5068e yJ0_charAt_5068e ∈ TS := (TS_in (k := 3) (o := 198) (by decide +kernel) (by decide +kernel))
theorem wb3 : Cond.initialized "java/lang/String" ∈ TS := (TS_in (k := 1) (o := 19) (by decide +kernel) (by decide +kernel))
theorem wb4 : Cond.code yJ0_charAt_5068e cJ0_charAt_5068e 2 (some .char) ∈ TS := (TS_in (k := 3) (o := 199) (by decide +kernel) (by decide +kernel))
theorem wb : ∀ w ∈ [Cond.instanceMethod yJ0_charAt_5068e, .selects "java/lang/String" yJ0_charAt_5068e yJ0_charAt_5068e, .initialized "java/lang/String", .code yJ0_charAt_5068e cJ0_charAt_5068e 2 (some .char)], w ∈ TS ∧ goodWord w = true := by
  intro w hw
  simp only [List.mem_cons, List.not_mem_nil, or_false] at hw
  rcases hw with rfl | rfl | rfl | rfl
  · exact ⟨wb1, rfl⟩
  · exact ⟨wb2, rfl⟩
  · exact ⟨wb3, rfl⟩
  · exact ⟨wb4, rfl⟩
def hB (j h : Nat) : Bool := match (cod j h).2 with
  | (.astore i, 2, _, _) :: _ => Nat.ble (i + 1) (mxl j)
  | (.astore_n i, 1, _, _) :: _ => Nat.ble (i.val + 1) (mxl j)
  | _ => false
theorem hb_all : ((List.range 345).all (fun j => (hht j).all (fun r => hB j r.2.2.1))) = true := by decide +kernel
theorem h_all : ∀ j h, j < NMETH → (∃ r ∈ hht j, r.2.2.1 = h) → ∃ (op : Op) (ops : List Op) (i : Nat), (cod j h).2 = op :: ops ∧ i < mxl j ∧ ((op.1 = .astore i ∧ op.2.1 = 2) ∨ ∃ k : Fin 4, k.val = i ∧ op.1 = .astore_n k ∧ op.2.1 = 1) := by
  intro j h hj hr
  obtain ⟨r, h1, rfl⟩ := hr
  have h2 := List.all_eq_true.mp (List.all_eq_true.mp hb_all j (List.mem_range.mpr hj)) r h1
  unfold hB at h2
  split at h2
  · rename_i i a b ops e
    exact ⟨_, _, i, e, ble_le h2, Or.inl ⟨rfl, rfl⟩⟩
  · rename_i i a b ops e
    exact ⟨_, _, i.val, e, ble_le h2, Or.inr ⟨i, rfl, rfl, rfl⟩⟩
  · cases h2
def cpos (i : Nat) : Nat × Nat := if i = 13 then (3, 72) else if i = 25 then (4, 182) else if i = 30 then (4, 218) else if i = 47 then (5, 42) else (99, 0)
theorem hc_all : ((List.range 345).all (fun j => (hht j).all (fun r => !Nat.beq r.2.2.2 0 && decide ((tabs (cpos r.2.2.2).1)[(cpos r.2.2.2).2]? = some (.classLink (yn j).cls r.2.2.2 (exn (xn r.2.2.2)))) && gw (.classLink (yn j).cls r.2.2.2 (exn (xn r.2.2.2)))))) = true := by decide +kernel
theorem hl_all : ∀ j, j < NMETH → ∀ r ∈ hht j, r.2.2.2 ≠ 0 ∧ Cond.classLink (yn j).cls r.2.2.2 (exn (xn r.2.2.2)) ∈ TS := by
  intro j hj r hr
  have h := List.all_eq_true.mp (List.all_eq_true.mp hc_all j (List.mem_range.mpr hj)) r hr
  obtain ⟨h, h3⟩ := an2 h
  obtain ⟨h1, h2⟩ := an2 h
  exact ⟨(fun q => by rw [q] at h1; cases h1), TS_in (dec_e h2) h3⟩
theorem tok : TOK := ⟨ok_all, mok_all, cl_all, ty_all, ini_all, x_all, o1, o2, o3, o4, o5, o6, o7, o8, wa, wb, h_all, hl_all⟩
