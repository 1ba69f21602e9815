noncomputable def am_PV (y : Nat) : Prop := Cond.instanceMethod (am_nm y) ∈ lw_tbl ∧ Cond.selects (am_nm y).cls (am_nm y) (am_nm y) ∈ lw_tbl
theorem am_pv {y : Nat} (h : Cond.instanceMethod (am_nm y) ∈ lw_tbl) (h2 : Cond.selects (am_nm y).cls (am_nm y) (am_nm y) ∈ lw_tbl) : am_PV y := ⟨h, h2⟩
noncomputable def am_PIn (y : Nat) : Prop := Cond.instanceMethod (am_nm y) ∈ lw_tbl
noncomputable def am_PSt (y : Nat) : Prop := Cond.static (am_nm y) ∈ lw_tbl
noncomputable def am_VL_0 : List Nat := [1, 2, 3, 4, 6, 7, 9, 10, 11, 12, 13, 14, 15, 16, 17, 19, 20, 21, 22, 23, 24, 25, 26, 27, 28, 29, 31, 32, 33, 34, 35, 36, 37, 38, 39, 40, 41, 42, 44, 45]
set_option maxRecDepth 100000 in
theorem am_VL_ok0 : ∀ e ∈ am_VL_0, am_PV e :=
  fm_c (am_pv (am_t4 130 rfl) (am_t4 131 rfl)) <|
  fm_c (am_pv (am_t4 159 rfl) (am_t4 160 rfl)) <|
  fm_c (am_pv (am_t5 183 rfl) (am_t5 184 rfl)) <|
  fm_c (am_pv (am_t5 121 rfl) (am_t5 122 rfl)) <|
  fm_c (am_pv (am_t4 163 rfl) (am_t4 164 rfl)) <|
  fm_c (am_pv (am_t4 222 rfl) (am_t4 223 rfl)) <|
  fm_c (am_pv (am_t4 175 rfl) (am_t4 176 rfl)) <|
  fm_c (am_pv (am_t4 183 rfl) (am_t0 25 rfl)) <|
  fm_c (am_pv (am_t4 189 rfl) (am_t0 26 rfl)) <|
  fm_c (am_pv (am_t4 193 rfl) (am_t0 27 rfl)) <|
  fm_c (am_pv (am_t4 197 rfl) (am_t0 28 rfl)) <|
  fm_c (am_pv (am_t4 202 rfl) (am_t0 29 rfl)) <|
  fm_c (am_pv (am_t4 208 rfl) (am_t0 30 rfl)) <|
  fm_c (am_pv (am_t4 213 rfl) (am_t0 31 rfl)) <|
  fm_c (am_pv (am_t4 219 rfl) (am_t0 32 rfl)) <|
  fm_c (am_pv (am_t6 148 rfl) (am_t6 149 rfl)) <|
  fm_c (am_pv (am_t6 154 rfl) (am_t0 45 rfl)) <|
  fm_c (am_pv (am_t6 162 rfl) (am_t0 47 rfl)) <|
  fm_c (am_pv (am_t6 158 rfl) (am_t0 46 rfl)) <|
  fm_c (am_pv (am_t6 179 rfl) (am_t0 50 rfl)) <|
  fm_c (am_pv (am_t6 166 rfl) (am_t0 48 rfl)) <|
  fm_c (am_pv (am_t6 172 rfl) (am_t0 49 rfl)) <|
  fm_c (am_pv (am_t6 183 rfl) (am_t0 51 rfl)) <|
  fm_c (am_pv (am_t6 189 rfl) (am_t0 52 rfl)) <|
  fm_c (am_pv (am_t6 196 rfl) (am_t0 53 rfl)) <|
  fm_c (am_pv (am_t6 200 rfl) (am_t0 54 rfl)) <|
  fm_c (am_pv (am_t4 98 rfl) (am_t4 99 rfl)) <|
  fm_c (am_pv (am_t4 106 rfl) (am_t4 107 rfl)) <|
  fm_c (am_pv (am_t4 150 rfl) (am_t4 151 rfl)) <|
  fm_c (am_pv (am_t5 11 rfl) (am_t5 12 rfl)) <|
  fm_c (am_pv (am_t5 23 rfl) (am_t5 24 rfl)) <|
  fm_c (am_pv (am_t5 15 rfl) (am_t5 16 rfl)) <|
  fm_c (am_pv (am_t5 95 rfl) (am_t5 96 rfl)) <|
  fm_c (am_pv (am_t5 141 rfl) (am_t5 142 rfl)) <|
  fm_c (am_pv (am_t5 129 rfl) (am_t5 130 rfl)) <|
  fm_c (am_pv (am_t5 125 rfl) (am_t5 126 rfl)) <|
  fm_c (am_pv (am_t5 205 rfl) (am_t5 206 rfl)) <|
  fm_c (am_pv (am_t6 138 rfl) (am_t6 139 rfl)) <|
  fm_c (am_pv (am_t4 115 rfl) (am_t4 116 rfl)) <|
  fm_c (am_pv (am_t4 155 rfl) (am_t4 156 rfl)) <|
  fm_n
noncomputable def am_VL_1 : List Nat := [47, 48, 49, 50, 51, 52, 53, 54, 55, 56, 57, 58, 59, 60, 61, 62, 63, 64, 66, 67, 68, 69, 70, 71, 72, 74, 75, 76, 77, 78, 79, 80, 81, 82, 83, 84, 85, 86, 88, 89]
set_option maxRecDepth 100000 in
theorem am_VL_ok1 : ∀ e ∈ am_VL_1, am_PV e :=
  fm_c (am_pv (am_t3 173 rfl) (am_t3 174 rfl)) <|
  fm_c (am_pv (am_t3 177 rfl) (am_t3 178 rfl)) <|
  fm_c (am_pv (am_t3 193 rfl) (am_t3 194 rfl)) <|
  fm_c (am_pv (am_t3 203 rfl) (am_t0 7 rfl)) <|
  fm_c (am_pv (am_t3 211 rfl) (am_t0 9 rfl)) <|
  fm_c (am_pv (am_t4 33 rfl) (am_t0 12 rfl)) <|
  fm_c (am_pv (am_t3 207 rfl) (am_t0 8 rfl)) <|
  fm_c (am_pv (am_t3 199 rfl) (am_t0 6 rfl)) <|
  fm_c (am_pv (am_t3 215 rfl) (am_t0 10 rfl)) <|
  fm_c (am_pv (am_t3 220 rfl) (am_t0 11 rfl)) <|
  fm_c (am_pv (am_t4 37 rfl) (am_t0 13 rfl)) <|
  fm_c (am_pv (am_t4 40 rfl) (am_t4 41 rfl)) <|
  fm_c (am_pv (am_t4 56 rfl) (am_t4 57 rfl)) <|
  fm_c (am_pv (am_t4 86 rfl) (am_t4 87 rfl)) <|
  fm_c (am_pv (am_t4 142 rfl) (am_t4 143 rfl)) <|
  fm_c (am_pv (am_t4 94 rfl) (am_t4 95 rfl)) <|
  fm_c (am_pv (am_t4 90 rfl) (am_t4 91 rfl)) <|
  fm_c (am_pv (am_t4 81 rfl) (am_t4 82 rfl)) <|
  fm_c (am_pv (am_t3 127 rfl) (am_t3 128 rfl)) <|
  fm_c (am_pv (am_t3 108 rfl) (am_t3 109 rfl)) <|
  fm_c (am_pv (am_t3 131 rfl) (am_t3 132 rfl)) <|
  fm_c (am_pv (am_t3 157 rfl) (am_t3 158 rfl)) <|
  fm_c (am_pv (am_t3 135 rfl) (am_t3 136 rfl)) <|
  fm_c (am_pv (am_t3 148 rfl) (am_t3 149 rfl)) <|
  fm_c (am_pv (am_t3 161 rfl) (am_t3 162 rfl)) <|
  fm_c (am_pv (am_t6 5 rfl) (am_t6 6 rfl)) <|
  fm_c (am_pv (am_t6 29 rfl) (am_t0 41 rfl)) <|
  fm_c (am_pv (am_t6 25 rfl) (am_t0 40 rfl)) <|
  fm_c (am_pv (am_t6 20 rfl) (am_t6 21 rfl)) <|
  fm_c (am_pv (am_t6 41 rfl) (am_t6 42 rfl)) <|
  fm_c (am_pv (am_t6 52 rfl) (am_t0 42 rfl)) <|
  fm_c (am_pv (am_t6 46 rfl) (am_t6 47 rfl)) <|
  fm_c (am_pv (am_t6 65 rfl) (am_t6 66 rfl)) <|
  fm_c (am_pv (am_t6 73 rfl) (am_t6 74 rfl)) <|
  fm_c (am_pv (am_t6 93 rfl) (am_t6 94 rfl)) <|
  fm_c (am_pv (am_t6 105 rfl) (am_t6 106 rfl)) <|
  fm_c (am_pv (am_t6 113 rfl) (am_t6 114 rfl)) <|
  fm_c (am_pv (am_t6 121 rfl) (am_t6 122 rfl)) <|
  fm_c (am_pv (am_t3 189 rfl) (am_t3 190 rfl)) <|
  fm_c (am_pv (am_t4 146 rfl) (am_t4 147 rfl)) <|
  fm_n
noncomputable def am_VL_2 : List Nat := [90, 91, 92, 93, 94, 95, 96, 97, 98, 99, 100, 101, 102, 103, 104, 105, 106, 107, 108, 109, 110, 111, 112, 113, 114, 115, 116, 118, 119, 120, 121, 122, 123, 124, 125, 126, 127, 129, 130, 131]
set_option maxRecDepth 100000 in
theorem am_VL_ok2 : ∀ e ∈ am_VL_2, am_PV e :=
  fm_c (am_pv (am_t5 7 rfl) (am_t5 8 rfl)) <|
  fm_c (am_pv (am_t5 32 rfl) (am_t5 33 rfl)) <|
  fm_c (am_pv (am_t5 40 rfl) (am_t5 41 rfl)) <|
  fm_c (am_pv (am_t5 48 rfl) (am_t5 49 rfl)) <|
  fm_c (am_pv (am_t4 65 rfl) (am_t4 66 rfl)) <|
  fm_c (am_pv (am_t4 69 rfl) (am_t4 70 rfl)) <|
  fm_c (am_pv (am_t4 73 rfl) (am_t4 74 rfl)) <|
  fm_c (am_pv (am_t4 78 rfl) (am_t0 17 rfl)) <|
  fm_c (am_pv (am_t4 61 rfl) (am_t4 62 rfl)) <|
  fm_c (am_pv (am_t4 239 rfl) (am_t5 0 rfl)) <|
  fm_c (am_pv (am_t4 235 rfl) (am_t4 236 rfl)) <|
  fm_c (am_pv (am_t5 209 rfl) (am_t5 210 rfl)) <|
  fm_c (am_pv (am_t5 179 rfl) (am_t5 180 rfl)) <|
  fm_c (am_pv (am_t5 105 rfl) (am_t0 34 rfl)) <|
  fm_c (am_pv (am_t5 218 rfl) (am_t5 219 rfl)) <|
  fm_c (am_pv (am_t5 109 rfl) (am_t0 35 rfl)) <|
  fm_c (am_pv (am_t5 113 rfl) (am_t0 36 rfl)) <|
  fm_c (am_pv (am_t5 100 rfl) (am_t5 101 rfl)) <|
  fm_c (am_pv (am_t5 117 rfl) (am_t0 37 rfl)) <|
  fm_c (am_pv (am_t5 77 rfl) (am_t5 78 rfl)) <|
  fm_c (am_pv (am_t5 83 rfl) (am_t5 84 rfl)) <|
  fm_c (am_pv (am_t5 154 rfl) (am_t5 155 rfl)) <|
  fm_c (am_pv (am_t5 91 rfl) (am_t5 92 rfl)) <|
  fm_c (am_pv (am_t5 137 rfl) (am_t5 138 rfl)) <|
  fm_c (am_pv (am_t5 235 rfl) (am_t5 236 rfl)) <|
  fm_c (am_pv (am_t5 201 rfl) (am_t5 202 rfl)) <|
  fm_c (am_pv (am_t5 197 rfl) (am_t5 198 rfl)) <|
  fm_c (am_pv (am_t3 185 rfl) (am_t3 186 rfl)) <|
  fm_c (am_pv (am_t4 45 rfl) (am_t0 14 rfl)) <|
  fm_c (am_pv (am_t4 53 rfl) (am_t0 16 rfl)) <|
  fm_c (am_pv (am_t4 49 rfl) (am_t0 15 rfl)) <|
  fm_c (am_pv (am_t4 103 rfl) (am_t0 18 rfl)) <|
  fm_c (am_pv (am_t4 112 rfl) (am_t0 19 rfl)) <|
  fm_c (am_pv (am_t4 126 rfl) (am_t0 21 rfl)) <|
  fm_c (am_pv (am_t4 121 rfl) (am_t0 20 rfl)) <|
  fm_c (am_pv (am_t4 135 rfl) (am_t0 22 rfl)) <|
  fm_c (am_pv (am_t4 139 rfl) (am_t0 23 rfl)) <|
  fm_c (am_pv (am_t4 168 rfl) (am_t0 24 rfl)) <|
  fm_c (am_pv (am_t3 145 rfl) (am_t0 5 rfl)) <|
  fm_c (am_pv (am_t3 116 rfl) (am_t0 3 rfl)) <|
  fm_n
noncomputable def am_VL_3 : List Nat := [132, 133, 134, 135, 136, 137, 138, 139, 140, 141, 142, 143, 144, 145, 146, 147, 148, 149, 150, 151, 152, 153, 154, 155, 156, 157, 158, 159, 160, 161, 162, 163, 164, 165, 166, 167, 168, 169, 170, 171]
set_option maxRecDepth 100000 in
theorem am_VL_ok3 : ∀ e ∈ am_VL_3, am_PV e :=
  fm_c (am_pv (am_t3 105 rfl) (am_t0 2 rfl)) <|
  fm_c (am_pv (am_t3 97 rfl) (am_t0 0 rfl)) <|
  fm_c (am_pv (am_t3 101 rfl) (am_t0 1 rfl)) <|
  fm_c (am_pv (am_t5 66 rfl) (am_t0 33 rfl)) <|
  fm_c (am_pv (am_t3 80 rfl) (am_t3 81 rfl)) <|
  fm_c (am_pv (am_t3 84 rfl) (am_t3 85 rfl)) <|
  fm_c (am_pv (am_t3 88 rfl) (am_t3 89 rfl)) <|
  fm_c (am_pv (am_t3 92 rfl) (am_t3 93 rfl)) <|
  fm_c (am_pv (am_t3 124 rfl) (am_t0 4 rfl)) <|
  fm_c (am_pv (am_t3 119 rfl) (am_t3 120 rfl)) <|
  fm_c (am_pv (am_t3 140 rfl) (am_t3 141 rfl)) <|
  fm_c (am_pv (am_t3 153 rfl) (am_t3 154 rfl)) <|
  fm_c (am_pv (am_t3 169 rfl) (am_t3 170 rfl)) <|
  fm_c (am_pv (am_t3 181 rfl) (am_t3 182 rfl)) <|
  fm_c (am_pv (am_t4 171 rfl) (am_t4 172 rfl)) <|
  fm_c (am_pv (am_t4 227 rfl) (am_t4 228 rfl)) <|
  fm_c (am_pv (am_t4 231 rfl) (am_t4 232 rfl)) <|
  fm_c (am_pv (am_t5 3 rfl) (am_t5 4 rfl)) <|
  fm_c (am_pv (am_t5 19 rfl) (am_t5 20 rfl)) <|
  fm_c (am_pv (am_t5 28 rfl) (am_t5 29 rfl)) <|
  fm_c (am_pv (am_t5 36 rfl) (am_t5 37 rfl)) <|
  fm_c (am_pv (am_t5 44 rfl) (am_t5 45 rfl)) <|
  fm_c (am_pv (am_t5 52 rfl) (am_t5 53 rfl)) <|
  fm_c (am_pv (am_t5 56 rfl) (am_t5 57 rfl)) <|
  fm_c (am_pv (am_t5 61 rfl) (am_t5 62 rfl)) <|
  fm_c (am_pv (am_t5 69 rfl) (am_t5 70 rfl)) <|
  fm_c (am_pv (am_t5 73 rfl) (am_t5 74 rfl)) <|
  fm_c (am_pv (am_t5 87 rfl) (am_t5 88 rfl)) <|
  fm_c (am_pv (am_t5 133 rfl) (am_t5 134 rfl)) <|
  fm_c (am_pv (am_t5 151 rfl) (am_t0 38 rfl)) <|
  fm_c (am_pv (am_t5 146 rfl) (am_t5 147 rfl)) <|
  fm_c (am_pv (am_t5 159 rfl) (am_t5 160 rfl)) <|
  fm_c (am_pv (am_t5 163 rfl) (am_t5 164 rfl)) <|
  fm_c (am_pv (am_t5 167 rfl) (am_t5 168 rfl)) <|
  fm_c (am_pv (am_t5 171 rfl) (am_t5 172 rfl)) <|
  fm_c (am_pv (am_t5 175 rfl) (am_t5 176 rfl)) <|
  fm_c (am_pv (am_t5 193 rfl) (am_t5 194 rfl)) <|
  fm_c (am_pv (am_t5 214 rfl) (am_t5 215 rfl)) <|
  fm_c (am_pv (am_t5 222 rfl) (am_t5 223 rfl)) <|
  fm_c (am_pv (am_t5 232 rfl) (am_t0 39 rfl)) <|
  fm_n
noncomputable def am_VL_4 : List Nat := [172, 173, 174, 175, 176, 177, 178, 179, 180, 181, 182, 183, 184, 185, 186, 187, 188, 189, 190, 191, 192, 193, 194, 195, 197, 198, 199, 200, 201, 203, 205, 206, 207, 208, 209, 210, 211, 212, 215, 218]
set_option maxRecDepth 100000 in
theorem am_VL_ok4 : ∀ e ∈ am_VL_4, am_PV e :=
  fm_c (am_pv (am_t5 227 rfl) (am_t5 228 rfl)) <|
  fm_c (am_pv (am_t6 1 rfl) (am_t6 2 rfl)) <|
  fm_c (am_pv (am_t6 12 rfl) (am_t6 13 rfl)) <|
  fm_c (am_pv (am_t6 16 rfl) (am_t6 17 rfl)) <|
  fm_c (am_pv (am_t6 33 rfl) (am_t6 34 rfl)) <|
  fm_c (am_pv (am_t6 37 rfl) (am_t6 38 rfl)) <|
  fm_c (am_pv (am_t6 57 rfl) (am_t6 58 rfl)) <|
  fm_c (am_pv (am_t6 61 rfl) (am_t6 62 rfl)) <|
  fm_c (am_pv (am_t6 69 rfl) (am_t6 70 rfl)) <|
  fm_c (am_pv (am_t6 77 rfl) (am_t6 78 rfl)) <|
  fm_c (am_pv (am_t6 81 rfl) (am_t6 82 rfl)) <|
  fm_c (am_pv (am_t6 90 rfl) (am_t0 43 rfl)) <|
  fm_c (am_pv (am_t6 85 rfl) (am_t6 86 rfl)) <|
  fm_c (am_pv (am_t6 101 rfl) (am_t6 102 rfl)) <|
  fm_c (am_pv (am_t6 109 rfl) (am_t6 110 rfl)) <|
  fm_c (am_pv (am_t6 117 rfl) (am_t6 118 rfl)) <|
  fm_c (am_pv (am_t6 125 rfl) (am_t6 126 rfl)) <|
  fm_c (am_pv (am_t6 134 rfl) (am_t0 44 rfl)) <|
  fm_c (am_pv (am_t6 129 rfl) (am_t6 130 rfl)) <|
  fm_c (am_pv (am_t6 144 rfl) (am_t6 145 rfl)) <|
  fm_c (am_pv (am_t6 204 rfl) (am_t6 205 rfl)) <|
  fm_c (am_pv (am_t6 208 rfl) (am_t6 209 rfl)) <|
  fm_c (am_pv (am_t6 212 rfl) (am_t6 213 rfl)) <|
  fm_c (am_pv (am_t6 216 rfl) (am_t6 217 rfl)) <|
  fm_c (am_pv (am_t7 131 rfl) (am_t7 132 rfl)) <|
  fm_c (am_pv (am_t7 135 rfl) (am_t7 136 rfl)) <|
  fm_c (am_pv (am_t7 139 rfl) (am_t7 140 rfl)) <|
  fm_c (am_pv (am_t8 159 rfl) (am_t0 103 rfl)) <|
  fm_c (am_pv (am_t7 148 rfl) (am_t0 55 rfl)) <|
  fm_c (am_pv (am_t8 229 rfl) (am_t0 112 rfl)) <|
  fm_c (am_pv (am_t7 143 rfl) (am_t7 144 rfl)) <|
  fm_c (am_pv (am_t7 160 rfl) (am_t0 57 rfl)) <|
  fm_c (am_pv (am_t7 156 rfl) (am_t0 56 rfl)) <|
  fm_c (am_pv (am_t7 151 rfl) (am_t7 152 rfl)) <|
  fm_c (am_pv (am_t7 166 rfl) (am_t7 167 rfl)) <|
  fm_c (am_pv (am_t7 171 rfl) (am_t7 172 rfl)) <|
  fm_c (am_pv (am_t9 228 rfl) (am_t0 139 rfl)) <|
  fm_c (am_pv (am_t9 0 rfl) (am_t0 113 rfl)) <|
  fm_c (am_pv (am_t7 200 rfl) (am_t0 61 rfl)) <|
  fm_c (am_pv (am_t7 212 rfl) (am_t0 62 rfl)) <|
  fm_n
noncomputable def am_VL_5 : List Nat := [219, 220, 222, 223, 224, 225, 226, 227, 228, 229, 230, 231, 232, 233, 234, 235, 236, 237, 238, 239, 240, 241, 242, 243, 244, 245, 246, 247, 248, 249, 250, 251, 252, 253, 254, 255, 256, 257, 258, 259]
set_option maxRecDepth 100000 in
theorem am_VL_ok5 : ∀ e ∈ am_VL_5, am_PV e :=
  fm_c (am_pv (am_t7 196 rfl) (am_t0 60 rfl)) <|
  fm_c (am_pv (am_t8 126 rfl) (am_t0 97 rfl)) <|
  fm_c (am_pv (am_t7 223 rfl) (am_t0 64 rfl)) <|
  fm_c (am_pv (am_t7 216 rfl) (am_t0 63 rfl)) <|
  fm_c (am_pv (am_t8 7 rfl) (am_t0 70 rfl)) <|
  fm_c (am_pv (am_t8 11 rfl) (am_t0 71 rfl)) <|
  fm_c (am_pv (am_t8 15 rfl) (am_t0 72 rfl)) <|
  fm_c (am_pv (am_t8 19 rfl) (am_t0 73 rfl)) <|
  fm_c (am_pv (am_t8 23 rfl) (am_t0 74 rfl)) <|
  fm_c (am_pv (am_t8 64 rfl) (am_t0 84 rfl)) <|
  fm_c (am_pv (am_t8 27 rfl) (am_t0 75 rfl)) <|
  fm_c (am_pv (am_t8 31 rfl) (am_t0 76 rfl)) <|
  fm_c (am_pv (am_t8 35 rfl) (am_t0 77 rfl)) <|
  fm_c (am_pv (am_t8 39 rfl) (am_t0 78 rfl)) <|
  fm_c (am_pv (am_t8 44 rfl) (am_t0 79 rfl)) <|
  fm_c (am_pv (am_t8 48 rfl) (am_t0 80 rfl)) <|
  fm_c (am_pv (am_t8 52 rfl) (am_t0 81 rfl)) <|
  fm_c (am_pv (am_t8 56 rfl) (am_t0 82 rfl)) <|
  fm_c (am_pv (am_t8 60 rfl) (am_t0 83 rfl)) <|
  fm_c (am_pv (am_t8 68 rfl) (am_t0 85 rfl)) <|
  fm_c (am_pv (am_t8 72 rfl) (am_t0 86 rfl)) <|
  fm_c (am_pv (am_t8 3 rfl) (am_t0 69 rfl)) <|
  fm_c (am_pv (am_t7 239 rfl) (am_t0 68 rfl)) <|
  fm_c (am_pv (am_t7 235 rfl) (am_t0 67 rfl)) <|
  fm_c (am_pv (am_t8 76 rfl) (am_t0 87 rfl)) <|
  fm_c (am_pv (am_t8 88 rfl) (am_t0 90 rfl)) <|
  fm_c (am_pv (am_t8 92 rfl) (am_t0 91 rfl)) <|
  fm_c (am_pv (am_t8 84 rfl) (am_t0 89 rfl)) <|
  fm_c (am_pv (am_t7 175 rfl) (am_t7 176 rfl)) <|
  fm_c (am_pv (am_t7 180 rfl) (am_t0 58 rfl)) <|
  fm_c (am_pv (am_t7 192 rfl) (am_t0 59 rfl)) <|
  fm_c (am_pv (am_t8 130 rfl) (am_t0 98 rfl)) <|
  fm_c (am_pv (am_t7 183 rfl) (am_t7 184 rfl)) <|
  fm_c (am_pv (am_t8 80 rfl) (am_t0 88 rfl)) <|
  fm_c (am_pv (am_t7 231 rfl) (am_t0 66 rfl)) <|
  fm_c (am_pv (am_t8 104 rfl) (am_t0 93 rfl)) <|
  fm_c (am_pv (am_t7 227 rfl) (am_t0 65 rfl)) <|
  fm_c (am_pv (am_t8 100 rfl) (am_t0 92 rfl)) <|
  fm_c (am_pv (am_t8 111 rfl) (am_t0 94 rfl)) <|
  fm_c (am_pv (am_t8 115 rfl) (am_t0 95 rfl)) <|
  fm_n
noncomputable def am_VL_6 : List Nat := [260, 261, 262, 263, 264, 265, 266, 267, 268, 269, 270, 271, 272, 273, 274, 275, 276, 277, 278, 279, 280, 281, 282, 283, 284, 285, 286, 287, 288, 289, 290, 291, 292, 293, 294, 295, 296, 297, 298, 299]
set_option maxRecDepth 100000 in
theorem am_VL_ok6 : ∀ e ∈ am_VL_6, am_PV e :=
  fm_c (am_pv (am_t8 119 rfl) (am_t0 96 rfl)) <|
  fm_c (am_pv (am_t7 187 rfl) (am_t7 188 rfl)) <|
  fm_c (am_pv (am_t8 150 rfl) (am_t0 102 rfl)) <|
  fm_c (am_pv (am_t8 146 rfl) (am_t0 101 rfl)) <|
  fm_c (am_pv (am_t8 142 rfl) (am_t0 100 rfl)) <|
  fm_c (am_pv (am_t8 137 rfl) (am_t8 138 rfl)) <|
  fm_c (am_pv (am_t8 175 rfl) (am_t0 106 rfl)) <|
  fm_c (am_pv (am_t8 196 rfl) (am_t0 109 rfl)) <|
  fm_c (am_pv (am_t8 204 rfl) (am_t0 110 rfl)) <|
  fm_c (am_pv (am_t8 212 rfl) (am_t0 111 rfl)) <|
  fm_c (am_pv (am_t8 184 rfl) (am_t0 108 rfl)) <|
  fm_c (am_pv (am_t8 180 rfl) (am_t0 107 rfl)) <|
  fm_c (am_pv (am_t8 167 rfl) (am_t0 105 rfl)) <|
  fm_c (am_pv (am_t8 163 rfl) (am_t0 104 rfl)) <|
  fm_c (am_pv (am_t8 153 rfl) (am_t8 154 rfl)) <|
  fm_c (am_pv (am_t8 170 rfl) (am_t8 171 rfl)) <|
  fm_c (am_pv (am_t8 187 rfl) (am_t8 188 rfl)) <|
  fm_c (am_pv (am_t8 191 rfl) (am_t8 192 rfl)) <|
  fm_c (am_pv (am_t8 199 rfl) (am_t8 200 rfl)) <|
  fm_c (am_pv (am_t8 207 rfl) (am_t8 208 rfl)) <|
  fm_c (am_pv (am_t8 216 rfl) (am_t8 217 rfl)) <|
  fm_c (am_pv (am_t8 220 rfl) (am_t8 221 rfl)) <|
  fm_c (am_pv (am_t8 224 rfl) (am_t8 225 rfl)) <|
  fm_c (am_pv (am_t8 235 rfl) (am_t8 236 rfl)) <|
  fm_c (am_pv (am_t9 21 rfl) (am_t0 116 rfl)) <|
  fm_c (am_pv (am_t9 25 rfl) (am_t0 117 rfl)) <|
  fm_c (am_pv (am_t9 33 rfl) (am_t0 119 rfl)) <|
  fm_c (am_pv (am_t9 29 rfl) (am_t0 118 rfl)) <|
  fm_c (am_pv (am_t9 41 rfl) (am_t0 121 rfl)) <|
  fm_c (am_pv (am_t9 45 rfl) (am_t0 122 rfl)) <|
  fm_c (am_pv (am_t9 37 rfl) (am_t0 120 rfl)) <|
  fm_c (am_pv (am_t9 17 rfl) (am_t0 115 rfl)) <|
  fm_c (am_pv (am_t9 12 rfl) (am_t0 114 rfl)) <|
  fm_c (am_pv (am_t9 54 rfl) (am_t0 123 rfl)) <|
  fm_c (am_pv (am_t9 3 rfl) (am_t9 4 rfl)) <|
  fm_c (am_pv (am_t9 7 rfl) (am_t9 8 rfl)) <|
  fm_c (am_pv (am_t9 48 rfl) (am_t9 49 rfl)) <|
  fm_c (am_pv (am_t9 62 rfl) (am_t0 124 rfl)) <|
  fm_c (am_pv (am_t9 57 rfl) (am_t9 58 rfl)) <|
  fm_c (am_pv (am_t9 65 rfl) (am_t9 66 rfl)) <|
  fm_n
noncomputable def am_VL_7 : List Nat := [300, 301, 302, 303, 304, 305, 306, 307, 308, 309, 310, 311, 312, 313, 314, 315, 316, 317, 318, 319, 320, 321, 322, 323, 324, 325, 326, 327, 328, 329, 330, 331, 332, 333, 334, 335, 336, 337, 338, 339]
set_option maxRecDepth 100000 in
theorem am_VL_ok7 : ∀ e ∈ am_VL_7, am_PV e :=
  fm_c (am_pv (am_t9 69 rfl) (am_t9 70 rfl)) <|
  fm_c (am_pv (am_t9 73 rfl) (am_t9 74 rfl)) <|
  fm_c (am_pv (am_t9 77 rfl) (am_t9 78 rfl)) <|
  fm_c (am_pv (am_t9 91 rfl) (am_t0 126 rfl)) <|
  fm_c (am_pv (am_t9 87 rfl) (am_t0 125 rfl)) <|
  fm_c (am_pv (am_t9 82 rfl) (am_t9 83 rfl)) <|
  fm_c (am_pv (am_t9 106 rfl) (am_t0 128 rfl)) <|
  fm_c (am_pv (am_t9 102 rfl) (am_t0 127 rfl)) <|
  fm_c (am_pv (am_t9 97 rfl) (am_t9 98 rfl)) <|
  fm_c (am_pv (am_t9 120 rfl) (am_t0 129 rfl)) <|
  fm_c (am_pv (am_t9 124 rfl) (am_t0 130 rfl)) <|
  fm_c (am_pv (am_t9 109 rfl) (am_t9 110 rfl)) <|
  fm_c (am_pv (am_t9 114 rfl) (am_t9 115 rfl)) <|
  fm_c (am_pv (am_t9 140 rfl) (am_t0 133 rfl)) <|
  fm_c (am_pv (am_t9 136 rfl) (am_t0 132 rfl)) <|
  fm_c (am_pv (am_t9 132 rfl) (am_t0 131 rfl)) <|
  fm_c (am_pv (am_t9 127 rfl) (am_t9 128 rfl)) <|
  fm_c (am_pv (am_t9 143 rfl) (am_t9 144 rfl)) <|
  fm_c (am_pv (am_t9 147 rfl) (am_t9 148 rfl)) <|
  fm_c (am_pv (am_t9 151 rfl) (am_t9 152 rfl)) <|
  fm_c (am_pv (am_t9 156 rfl) (am_t0 134 rfl)) <|
  fm_c (am_pv (am_t9 159 rfl) (am_t9 160 rfl)) <|
  fm_c (am_pv (am_t9 168 rfl) (am_t0 135 rfl)) <|
  fm_c (am_pv (am_t9 163 rfl) (am_t9 164 rfl)) <|
  fm_c (am_pv (am_t9 171 rfl) (am_t9 172 rfl)) <|
  fm_c (am_pv (am_t9 175 rfl) (am_t9 176 rfl)) <|
  fm_c (am_pv (am_t9 179 rfl) (am_t9 180 rfl)) <|
  fm_c (am_pv (am_t9 183 rfl) (am_t9 184 rfl)) <|
  fm_c (am_pv (am_t9 187 rfl) (am_t9 188 rfl)) <|
  fm_c (am_pv (am_t9 196 rfl) (am_t0 136 rfl)) <|
  fm_c (am_pv (am_t9 200 rfl) (am_t0 137 rfl)) <|
  fm_c (am_pv (am_t9 204 rfl) (am_t0 138 rfl)) <|
  fm_c (am_pv (am_t9 191 rfl) (am_t9 192 rfl)) <|
  fm_c (am_pv (am_t9 207 rfl) (am_t9 208 rfl)) <|
  fm_c (am_pv (am_t9 211 rfl) (am_t9 212 rfl)) <|
  fm_c (am_pv (am_t9 215 rfl) (am_t9 216 rfl)) <|
  fm_c (am_pv (am_t9 219 rfl) (am_t9 220 rfl)) <|
  fm_c (am_pv (am_t9 232 rfl) (am_t0 140 rfl)) <|
  fm_c (am_pv (am_t9 223 rfl) (am_t9 224 rfl)) <|
  fm_c (am_pv (am_t10 24 rfl) (am_t0 147 rfl)) <|
  fm_n
noncomputable def am_VL_8 : List Nat := [340, 341, 342, 343, 344, 345, 346, 347, 348, 349, 350, 351, 352]
set_option maxRecDepth 100000 in
theorem am_VL_ok8 : ∀ e ∈ am_VL_8, am_PV e :=
  fm_c (am_pv (am_t10 20 rfl) (am_t0 146 rfl)) <|
  fm_c (am_pv (am_t10 16 rfl) (am_t0 145 rfl)) <|
  fm_c (am_pv (am_t10 12 rfl) (am_t0 144 rfl)) <|
  fm_c (am_pv (am_t10 29 rfl) (am_t0 148 rfl)) <|
  fm_c (am_pv (am_t10 8 rfl) (am_t0 143 rfl)) <|
  fm_c (am_pv (am_t10 4 rfl) (am_t0 142 rfl)) <|
  fm_c (am_pv (am_t10 0 rfl) (am_t0 141 rfl)) <|
  fm_c (am_pv (am_t9 235 rfl) (am_t9 236 rfl)) <|
  fm_c (am_pv (am_t10 32 rfl) (am_t10 33 rfl)) <|
  fm_c (am_pv (am_t10 37 rfl) (am_t10 38 rfl)) <|
  fm_c (am_pv (am_t8 134 rfl) (am_t0 99 rfl)) <|
  fm_c (am_pv (am_t10 41 rfl) (am_t10 42 rfl)) <|
  fm_c (am_pv (am_t10 45 rfl) (am_t10 46 rfl)) <|
  fm_n
noncomputable def am_VL : List Nat := am_VL_0 ++ (am_VL_1 ++ (am_VL_2 ++ (am_VL_3 ++ (am_VL_4 ++ (am_VL_5 ++ (am_VL_6 ++ (am_VL_7 ++ (am_VL_8))))))))
theorem am_VL_ok : ∀ e ∈ am_VL, am_PV e := fm_a am_VL_ok0 (fm_a am_VL_ok1 (fm_a am_VL_ok2 (fm_a am_VL_ok3 (fm_a am_VL_ok4 (fm_a am_VL_ok5 (fm_a am_VL_ok6 (fm_a am_VL_ok7 (am_VL_ok8))))))))
noncomputable def am_IL_0 : List Nat := [0, 5, 8, 18, 30, 43, 46, 65, 73, 87, 117, 128, 196]
set_option maxRecDepth 100000 in
theorem am_IL_ok0 : ∀ e ∈ am_IL_0, am_PIn e :=
  fm_c (am_t1 179 rfl) <|
  fm_c (am_t2 78 rfl) <|
  fm_c (am_t2 140 rfl) <|
  fm_c (am_t2 210 rfl) <|
  fm_c (am_t1 116 rfl) <|
  fm_c (am_t1 145 rfl) <|
  fm_c (am_t1 34 rfl) <|
  fm_c (am_t3 18 rfl) <|
  fm_c (am_t2 165 rfl) <|
  fm_c (am_t1 105 rfl) <|
  fm_c (am_t2 121 rfl) <|
  fm_c (am_t1 24 rfl) <|
  fm_c (am_t6 222 rfl) <|
  fm_n
noncomputable def am_IL : List Nat := am_IL_0
theorem am_IL_ok : ∀ e ∈ am_IL, am_PIn e := am_IL_ok0
noncomputable def am_SL_0 : List Nat := [202, 204, 213, 214, 216, 217, 221, 353]
set_option maxRecDepth 100000 in
theorem am_SL_ok0 : ∀ e ∈ am_SL_0, am_PSt e :=
  fm_c (am_t8 95 rfl) <|
  fm_c (am_t7 163 rfl) <|
  fm_c (am_t8 122 rfl) <|
  fm_c (am_t9 94 rfl) <|
  fm_c (am_t7 203 rfl) <|
  fm_c (am_t7 208 rfl) <|
  fm_c (am_t7 219 rfl) <|
  fm_c (am_t5 187 rfl) <|
  fm_n
noncomputable def am_SL : List Nat := am_SL_0
theorem am_SL_ok : ∀ e ∈ am_SL, am_PSt e := am_SL_ok0
noncomputable def am_kk (e : Nat × Nat × Nat × Nat × Nat × Nat) : Bool := match e.2.2.2.1 with
  | 0 => am_VL.contains e.2.2.1 && Nat.blt (am_inf e.2.2.1).1 13 && Nat.beq e.2.2.2.2.1 (am_ar e.2.2.1)
  | 1 => am_IL.contains e.2.2.1 && (am_inf e.2.2.1).2.1 && Nat.beq (am_inf e.2.2.1).2.2.2 0 && Nat.beq e.2.2.2.2.1 (am_ar e.2.2.1)
  | 2 => am_IL.contains e.2.2.1 && (am_inf e.2.2.1).2.1 && Nat.beq (am_inf e.2.2.1).2.2.2 0 && Nat.beq e.2.2.2.2.1 (am_ar e.2.2.1)
  | 3 => am_SL.contains e.2.2.1 && Nat.beq e.2.2.2.2.1 (am_ar e.2.2.1)
  | _ => true
theorem am_kk_ok : am_M.all am_kk = true := by decide +kernel
theorem am_hM_spec {own ix a k b : Nat} (h : am_hM own ix a k b = true) : ∃ p, (own, ix, a, k, b, p) ∈ am_M ∧ am_PM (own, ix, a, k, b, p) ∧ am_kk (own, ix, a, k, b, p) = true := by
  obtain ⟨⟨o, i, a', k', b', p⟩, he, h1⟩ := List.any_eq_true.mp h
  simp only [Bool.and_eq_true] at h1
  obtain ⟨⟨⟨⟨h1, h2⟩, h3⟩, h4⟩, h5⟩ := h1
  obtain rfl : o = own := Nat.eq_of_beq_eq_true h1
  obtain rfl : i = ix := Nat.eq_of_beq_eq_true h2
  obtain rfl : a' = a := Nat.eq_of_beq_eq_true h3
  obtain rfl : k' = k := Nat.eq_of_beq_eq_true h4
  obtain rfl : b' = b := Nat.eq_of_beq_eq_true h5
  exact ⟨p, he, am_M_ok _ he, List.all_eq_true.mp am_kk_ok _ he⟩
