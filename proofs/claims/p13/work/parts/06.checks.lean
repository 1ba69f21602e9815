theorem am_t0 {w : Cond} (i : Nat) (h : (k2_sels lw_privs)[i]? = some w) : w ∈ lw_tbl := List.mem_append_left _ (List.mem_of_getElem? h)
theorem am_t1 {w : Cond} (i : Nat) (h : tables_1_1[i]? = some w) : w ∈ lw_tbl := List.mem_append_right _ (show w ∈ tables_1 from List.mem_append_left _ (List.mem_of_getElem? h))
theorem am_t2 {w : Cond} (i : Nat) (h : tables_1_2[i]? = some w) : w ∈ lw_tbl := List.mem_append_right _ (show w ∈ tables_1 from List.mem_append_right _ (List.mem_append_left _ (List.mem_of_getElem? h)))
theorem am_t3 {w : Cond} (i : Nat) (h : tables_1_3[i]? = some w) : w ∈ lw_tbl := List.mem_append_right _ (show w ∈ tables_1 from List.mem_append_right _ (List.mem_append_right _ (List.mem_append_left _ (List.mem_of_getElem? h))))
theorem am_t4 {w : Cond} (i : Nat) (h : tables_1_4[i]? = some w) : w ∈ lw_tbl := List.mem_append_right _ (show w ∈ tables_1 from List.mem_append_right _ (List.mem_append_right _ (List.mem_append_right _ (List.mem_append_left _ (List.mem_of_getElem? h)))))
theorem am_t5 {w : Cond} (i : Nat) (h : tables_1_5[i]? = some w) : w ∈ lw_tbl := List.mem_append_right _ (show w ∈ tables_1 from List.mem_append_right _ (List.mem_append_right _ (List.mem_append_right _ (List.mem_append_right _ (List.mem_append_left _ (List.mem_of_getElem? h))))))
theorem am_t6 {w : Cond} (i : Nat) (h : tables_1_6[i]? = some w) : w ∈ lw_tbl := List.mem_append_right _ (show w ∈ tables_1 from List.mem_append_right _ (List.mem_append_right _ (List.mem_append_right _ (List.mem_append_right _ (List.mem_append_right _ (List.mem_append_left _ (List.mem_of_getElem? h)))))))
theorem am_t7 {w : Cond} (i : Nat) (h : tables_1_7[i]? = some w) : w ∈ lw_tbl := List.mem_append_right _ (show w ∈ tables_1 from List.mem_append_right _ (List.mem_append_right _ (List.mem_append_right _ (List.mem_append_right _ (List.mem_append_right _ (List.mem_append_right _ (List.mem_append_left _ (List.mem_of_getElem? h))))))))
theorem am_t8 {w : Cond} (i : Nat) (h : tables_1_8[i]? = some w) : w ∈ lw_tbl := List.mem_append_right _ (show w ∈ tables_1 from List.mem_append_right _ (List.mem_append_right _ (List.mem_append_right _ (List.mem_append_right _ (List.mem_append_right _ (List.mem_append_right _ (List.mem_append_right _ (List.mem_append_left _ (List.mem_of_getElem? h)))))))))
theorem am_t9 {w : Cond} (i : Nat) (h : tables_1_9[i]? = some w) : w ∈ lw_tbl := List.mem_append_right _ (show w ∈ tables_1 from List.mem_append_right _ (List.mem_append_right _ (List.mem_append_right _ (List.mem_append_right _ (List.mem_append_right _ (List.mem_append_right _ (List.mem_append_right _ (List.mem_append_right _ (List.mem_append_left _ (List.mem_of_getElem? h))))))))))
theorem am_t10 {w : Cond} (i : Nat) (h : tables_1_10[i]? = some w) : w ∈ lw_tbl := List.mem_append_right _ (show w ∈ tables_1 from List.mem_append_right _ (List.mem_append_right _ (List.mem_append_right _ (List.mem_append_right _ (List.mem_append_right _ (List.mem_append_right _ (List.mem_append_right _ (List.mem_append_right _ (List.mem_append_right _ (List.mem_of_getElem? h))))))))))
def am_nm (y : Nat) : MethodName := (am_mt.getD y (⟨"", "", ""⟩, ⟨#[]⟩)).1
def am_bc (y : Nat) : ByteArray := (am_mt.getD y (⟨"", "", ""⟩, ⟨#[]⟩)).2
noncomputable def am_rt (y : Nat) : Option FieldType := am_rets.getD (am_inf y).2.2.2 none
theorem fm_n {α : Type} {P : α → Prop} : ∀ e ∈ ([] : List α), P e := fun _ h => absurd h List.not_mem_nil
theorem fm_c {α : Type} {P : α → Prop} {a : α} {t : List α} (h : P a) (k : ∀ e ∈ t, P e) : ∀ e ∈ a :: t, P e := List.forall_mem_cons.mpr ⟨h, k⟩
theorem fm_a {α : Type} {P : α → Prop} {s t : List α} (h : ∀ e ∈ s, P e) (k : ∀ e ∈ t, P e) : ∀ e ∈ s ++ t, P e := fun e he => (List.mem_append.mp he).elim (h e) (k e)
def am_PF (e : Nat × Nat × Nat × Nat × Nat) : Prop := Cond.fieldLink (am_cn e.1) e.2.1 (am_cn e.2.2.1) (am_T e.2.2.1 e.2.2.2.1).2.1 (am_T e.2.2.1 e.2.2.2.1).2.2.1 ∈ lw_tbl ∧ e.2.2.2.1 < am_N e.2.2.1 ∧ e.2.2.1 < 13
theorem am_pf {o ix c k p : Nat} (h : Cond.fieldLink (am_cn o) ix (am_cn c) (am_T c k).2.1 (am_T c k).2.2.1 ∈ lw_tbl) (h1 : Nat.blt k (am_N c) = true) (h2 : Nat.blt c 13 = true) : am_PF (o, ix, c, k, p) := ⟨h, Nat.blt_eq.mp h1, Nat.blt_eq.mp h2⟩
/-- how a call is linked: kinds 0 (on an object), 1 (a maker), 2 (a maker of the nest), 3 (static), 9 (not walked) -/
def am_PM (e : Nat × Nat × Nat × Nat × Nat × Nat) : Prop :=
  (e.2.2.2.1 = 0 ∨ e.2.2.2.1 = 1 ∨ e.2.2.2.1 = 3 → Cond.methodLink (am_cn e.1) e.2.1 (am_nm e.2.2.1) ∈ lw_tbl ∧ e.2.2.1 < am_nM) ∧
  (e.2.2.2.1 = 2 → Cond.methodLinkNest (am_cn e.1) e.2.1 (am_nm e.2.2.1) "LastLayer" ∈ lw_tbl ∧ e.2.2.1 < am_nM) ∧
  (e.2.2.2.1 = 9 → (e.2.2.1 = 1000 → Cond.methodLink (am_cn e.1) e.2.1 objectInit ∈ lw_tbl) ∧ (e.2.2.1 = 1001 → Cond.methodLink (am_cn e.1) e.2.1 Lib.Math.min.name ∈ lw_tbl) ∧ (e.2.2.1 = 1002 → Cond.methodLink (am_cn e.1) e.2.1 Lib.Math.max.name ∈ lw_tbl) ∧ (e.2.2.1 = 1003 → Cond.methodLink (am_cn e.1) e.2.1 Lib.MathLoose.abs_long.x ∈ lw_tbl) ∧ (e.2.2.1 = 1004 → Cond.methodLink (am_cn e.1) e.2.1 arraycopyName ∈ lw_tbl))
theorem am_pm0 {o ix y b p : Nat} (h : Cond.methodLink (am_cn o) ix (am_nm y) ∈ lw_tbl) (h1 : Nat.blt y am_nM = true) : am_PM (o, ix, y, 0, b, p) := ⟨fun _ => ⟨h, Nat.blt_eq.mp h1⟩, fun q => by simp at q, fun q => by simp at q⟩
theorem am_pm1 {o ix y b p : Nat} (h : Cond.methodLink (am_cn o) ix (am_nm y) ∈ lw_tbl) (h1 : Nat.blt y am_nM = true) : am_PM (o, ix, y, 1, b, p) := ⟨fun _ => ⟨h, Nat.blt_eq.mp h1⟩, fun q => by simp at q, fun q => by simp at q⟩
theorem am_pm3 {o ix y b p : Nat} (h : Cond.methodLink (am_cn o) ix (am_nm y) ∈ lw_tbl) (h1 : Nat.blt y am_nM = true) : am_PM (o, ix, y, 3, b, p) := ⟨fun _ => ⟨h, Nat.blt_eq.mp h1⟩, fun q => by simp at q, fun q => by simp at q⟩
theorem am_pm2 {o ix y b p : Nat} (h : Cond.methodLinkNest (am_cn o) ix (am_nm y) "LastLayer" ∈ lw_tbl) (h1 : Nat.blt y am_nM = true) : am_PM (o, ix, y, 2, b, p) := ⟨fun q => by simp at q, fun _ => ⟨h, Nat.blt_eq.mp h1⟩, fun q => by simp at q⟩
theorem am_pm1000 {o ix b p : Nat} (h : Cond.methodLink (am_cn o) ix objectInit ∈ lw_tbl) : am_PM (o, ix, 1000, 9, b, p) := ⟨fun q => by simp at q, fun q => by simp at q, fun _ => ⟨fun _ => h, fun q => by simp at q, fun q => by simp at q, fun q => by simp at q, fun q => by simp at q⟩⟩
theorem am_pm1001 {o ix b p : Nat} (h : Cond.methodLink (am_cn o) ix Lib.Math.min.name ∈ lw_tbl) : am_PM (o, ix, 1001, 9, b, p) := ⟨fun q => by simp at q, fun q => by simp at q, fun _ => ⟨fun q => by simp at q, fun _ => h, fun q => by simp at q, fun q => by simp at q, fun q => by simp at q⟩⟩
theorem am_pm1002 {o ix b p : Nat} (h : Cond.methodLink (am_cn o) ix Lib.Math.max.name ∈ lw_tbl) : am_PM (o, ix, 1002, 9, b, p) := ⟨fun q => by simp at q, fun q => by simp at q, fun _ => ⟨fun q => by simp at q, fun q => by simp at q, fun _ => h, fun q => by simp at q, fun q => by simp at q⟩⟩
theorem am_pm1003 {o ix b p : Nat} (h : Cond.methodLink (am_cn o) ix Lib.MathLoose.abs_long.x ∈ lw_tbl) : am_PM (o, ix, 1003, 9, b, p) := ⟨fun q => by simp at q, fun q => by simp at q, fun _ => ⟨fun q => by simp at q, fun q => by simp at q, fun q => by simp at q, fun _ => h, fun q => by simp at q⟩⟩
theorem am_pm1004 {o ix b p : Nat} (h : Cond.methodLink (am_cn o) ix arraycopyName ∈ lw_tbl) : am_PM (o, ix, 1004, 9, b, p) := ⟨fun q => by simp at q, fun q => by simp at q, fun _ => ⟨fun q => by simp at q, fun q => by simp at q, fun q => by simp at q, fun q => by simp at q, fun _ => h⟩⟩
def am_PN (e : Nat × Nat × Nat × Nat) : Prop := Cond.classLink (am_cn e.1) e.2.1 (am_cn e.2.2.1) ∈ lw_tbl
def am_PI (e : Nat × Nat × Int32 × Nat) : Prop := Cond.constant (am_cn e.1) e.2.1 e.2.2.1 ∈ lw_tbl
def am_PL (e : Nat × Nat × Int64 × Nat) : Prop := Cond.constantLong (am_cn e.1) e.2.1 e.2.2.1 ∈ lw_tbl
set_option maxRecDepth 100000 in
theorem am_F_ok0 : ∀ e ∈ am_F_0, am_PF e :=
  fm_c (am_pf (am_t1 37 rfl) rfl rfl) <|
  fm_c (am_pf (am_t1 38 rfl) rfl rfl) <|
  fm_c (am_pf (am_t1 39 rfl) rfl rfl) <|
  fm_c (am_pf (am_t1 40 rfl) rfl rfl) <|
  fm_c (am_pf (am_t1 41 rfl) rfl rfl) <|
  fm_c (am_pf (am_t1 42 rfl) rfl rfl) <|
  fm_c (am_pf (am_t1 43 rfl) rfl rfl) <|
  fm_c (am_pf (am_t1 44 rfl) rfl rfl) <|
  fm_c (am_pf (am_t1 45 rfl) rfl rfl) <|
  fm_c (am_pf (am_t1 46 rfl) rfl rfl) <|
  fm_c (am_pf (am_t1 47 rfl) rfl rfl) <|
  fm_c (am_pf (am_t1 48 rfl) rfl rfl) <|
  fm_c (am_pf (am_t1 49 rfl) rfl rfl) <|
  fm_c (am_pf (am_t1 50 rfl) rfl rfl) <|
  fm_c (am_pf (am_t1 51 rfl) rfl rfl) <|
  fm_c (am_pf (am_t1 52 rfl) rfl rfl) <|
  fm_c (am_pf (am_t1 53 rfl) rfl rfl) <|
  fm_c (am_pf (am_t1 54 rfl) rfl rfl) <|
  fm_c (am_pf (am_t1 55 rfl) rfl rfl) <|
  fm_c (am_pf (am_t1 56 rfl) rfl rfl) <|
  fm_c (am_pf (am_t1 57 rfl) rfl rfl) <|
  fm_c (am_pf (am_t1 58 rfl) rfl rfl) <|
  fm_c (am_pf (am_t1 59 rfl) rfl rfl) <|
  fm_c (am_pf (am_t1 60 rfl) rfl rfl) <|
  fm_c (am_pf (am_t1 61 rfl) rfl rfl) <|
  fm_c (am_pf (am_t1 62 rfl) rfl rfl) <|
  fm_c (am_pf (am_t1 63 rfl) rfl rfl) <|
  fm_c (am_pf (am_t1 119 rfl) rfl rfl) <|
  fm_c (am_pf (am_t1 120 rfl) rfl rfl) <|
  fm_c (am_pf (am_t1 121 rfl) rfl rfl) <|
  fm_c (am_pf (am_t1 122 rfl) rfl rfl) <|
  fm_c (am_pf (am_t1 123 rfl) rfl rfl) <|
  fm_c (am_pf (am_t1 124 rfl) rfl rfl) <|
  fm_c (am_pf (am_t1 125 rfl) rfl rfl) <|
  fm_c (am_pf (am_t1 126 rfl) rfl rfl) <|
  fm_c (am_pf (am_t1 127 rfl) rfl rfl) <|
  fm_c (am_pf (am_t1 128 rfl) rfl rfl) <|
  fm_c (am_pf (am_t1 129 rfl) rfl rfl) <|
  fm_c (am_pf (am_t1 148 rfl) rfl rfl) <|
  fm_c (am_pf (am_t1 149 rfl) rfl rfl) <|
  fm_n
set_option maxRecDepth 100000 in
theorem am_F_ok1 : ∀ e ∈ am_F_1, am_PF e :=
  fm_c (am_pf (am_t1 150 rfl) rfl rfl) <|
  fm_c (am_pf (am_t1 151 rfl) rfl rfl) <|
  fm_c (am_pf (am_t1 152 rfl) rfl rfl) <|
  fm_c (am_pf (am_t1 153 rfl) rfl rfl) <|
  fm_c (am_pf (am_t1 154 rfl) rfl rfl) <|
  fm_c (am_pf (am_t1 155 rfl) rfl rfl) <|
  fm_c (am_pf (am_t1 156 rfl) rfl rfl) <|
  fm_c (am_pf (am_t1 157 rfl) rfl rfl) <|
  fm_c (am_pf (am_t1 158 rfl) rfl rfl) <|
  fm_c (am_pf (am_t1 159 rfl) rfl rfl) <|
  fm_c (am_pf (am_t1 160 rfl) rfl rfl) <|
  fm_c (am_pf (am_t1 161 rfl) rfl rfl) <|
  fm_c (am_pf (am_t1 162 rfl) rfl rfl) <|
  fm_c (am_pf (am_t1 163 rfl) rfl rfl) <|
  fm_c (am_pf (am_t1 164 rfl) rfl rfl) <|
  fm_c (am_pf (am_t1 165 rfl) rfl rfl) <|
  fm_c (am_pf (am_t1 182 rfl) rfl rfl) <|
  fm_c (am_pf (am_t1 183 rfl) rfl rfl) <|
  fm_c (am_pf (am_t1 184 rfl) rfl rfl) <|
  fm_c (am_pf (am_t1 185 rfl) rfl rfl) <|
  fm_c (am_pf (am_t1 186 rfl) rfl rfl) <|
  fm_c (am_pf (am_t1 187 rfl) rfl rfl) <|
  fm_c (am_pf (am_t1 188 rfl) rfl rfl) <|
  fm_c (am_pf (am_t1 189 rfl) rfl rfl) <|
  fm_c (am_pf (am_t1 190 rfl) rfl rfl) <|
  fm_c (am_pf (am_t1 191 rfl) rfl rfl) <|
  fm_c (am_pf (am_t1 192 rfl) rfl rfl) <|
  fm_c (am_pf (am_t1 193 rfl) rfl rfl) <|
  fm_c (am_pf (am_t1 194 rfl) rfl rfl) <|
  fm_c (am_pf (am_t1 195 rfl) rfl rfl) <|
  fm_c (am_pf (am_t1 196 rfl) rfl rfl) <|
  fm_c (am_pf (am_t1 197 rfl) rfl rfl) <|
  fm_c (am_pf (am_t1 198 rfl) rfl rfl) <|
  fm_c (am_pf (am_t1 199 rfl) rfl rfl) <|
  fm_c (am_pf (am_t1 200 rfl) rfl rfl) <|
  fm_c (am_pf (am_t1 201 rfl) rfl rfl) <|
  fm_c (am_pf (am_t1 202 rfl) rfl rfl) <|
  fm_c (am_pf (am_t1 216 rfl) rfl rfl) <|
  fm_c (am_pf (am_t1 217 rfl) rfl rfl) <|
  fm_c (am_pf (am_t1 218 rfl) rfl rfl) <|
  fm_n
set_option maxRecDepth 100000 in
theorem am_F_ok2 : ∀ e ∈ am_F_2, am_PF e :=
  fm_c (am_pf (am_t1 219 rfl) rfl rfl) <|
  fm_c (am_pf (am_t1 220 rfl) rfl rfl) <|
  fm_c (am_pf (am_t1 221 rfl) rfl rfl) <|
  fm_c (am_pf (am_t1 222 rfl) rfl rfl) <|
  fm_c (am_pf (am_t1 223 rfl) rfl rfl) <|
  fm_c (am_pf (am_t1 224 rfl) rfl rfl) <|
  fm_c (am_pf (am_t1 225 rfl) rfl rfl) <|
  fm_c (am_pf (am_t1 226 rfl) rfl rfl) <|
  fm_c (am_pf (am_t1 227 rfl) rfl rfl) <|
  fm_c (am_pf (am_t1 228 rfl) rfl rfl) <|
  fm_c (am_pf (am_t1 229 rfl) rfl rfl) <|
  fm_c (am_pf (am_t1 230 rfl) rfl rfl) <|
  fm_c (am_pf (am_t1 231 rfl) rfl rfl) <|
  fm_c (am_pf (am_t1 232 rfl) rfl rfl) <|
  fm_c (am_pf (am_t1 233 rfl) rfl rfl) <|
  fm_c (am_pf (am_t1 234 rfl) rfl rfl) <|
  fm_c (am_pf (am_t1 235 rfl) rfl rfl) <|
  fm_c (am_pf (am_t1 236 rfl) rfl rfl) <|
  fm_c (am_pf (am_t1 237 rfl) rfl rfl) <|
  fm_c (am_pf (am_t1 238 rfl) rfl rfl) <|
  fm_c (am_pf (am_t1 239 rfl) rfl rfl) <|
  fm_c (am_pf (am_t2 0 rfl) rfl rfl) <|
  fm_c (am_pf (am_t2 1 rfl) rfl rfl) <|
  fm_c (am_pf (am_t2 2 rfl) rfl rfl) <|
  fm_c (am_pf (am_t2 3 rfl) rfl rfl) <|
  fm_c (am_pf (am_t2 4 rfl) rfl rfl) <|
  fm_c (am_pf (am_t2 5 rfl) rfl rfl) <|
  fm_c (am_pf (am_t2 6 rfl) rfl rfl) <|
  fm_c (am_pf (am_t2 7 rfl) rfl rfl) <|
  fm_c (am_pf (am_t2 8 rfl) rfl rfl) <|
  fm_c (am_pf (am_t2 9 rfl) rfl rfl) <|
  fm_c (am_pf (am_t2 10 rfl) rfl rfl) <|
  fm_c (am_pf (am_t2 11 rfl) rfl rfl) <|
  fm_c (am_pf (am_t2 12 rfl) rfl rfl) <|
  fm_c (am_pf (am_t2 13 rfl) rfl rfl) <|
  fm_c (am_pf (am_t2 14 rfl) rfl rfl) <|
  fm_c (am_pf (am_t2 15 rfl) rfl rfl) <|
  fm_c (am_pf (am_t2 16 rfl) rfl rfl) <|
  fm_c (am_pf (am_t2 17 rfl) rfl rfl) <|
  fm_c (am_pf (am_t2 18 rfl) rfl rfl) <|
  fm_n
set_option maxRecDepth 100000 in
theorem am_F_ok3 : ∀ e ∈ am_F_3, am_PF e :=
  fm_c (am_pf (am_t2 19 rfl) rfl rfl) <|
  fm_c (am_pf (am_t2 20 rfl) rfl rfl) <|
  fm_c (am_pf (am_t2 21 rfl) rfl rfl) <|
  fm_c (am_pf (am_t2 22 rfl) rfl rfl) <|
  fm_c (am_pf (am_t2 23 rfl) rfl rfl) <|
  fm_c (am_pf (am_t2 24 rfl) rfl rfl) <|
  fm_c (am_pf (am_t2 25 rfl) rfl rfl) <|
  fm_c (am_pf (am_t2 26 rfl) rfl rfl) <|
  fm_c (am_pf (am_t2 27 rfl) rfl rfl) <|
  fm_c (am_pf (am_t2 28 rfl) rfl rfl) <|
  fm_c (am_pf (am_t2 29 rfl) rfl rfl) <|
  fm_c (am_pf (am_t2 30 rfl) rfl rfl) <|
  fm_c (am_pf (am_t2 31 rfl) rfl rfl) <|
  fm_c (am_pf (am_t2 32 rfl) rfl rfl) <|
  fm_c (am_pf (am_t2 33 rfl) rfl rfl) <|
  fm_c (am_pf (am_t2 34 rfl) rfl rfl) <|
  fm_c (am_pf (am_t2 35 rfl) rfl rfl) <|
  fm_c (am_pf (am_t2 36 rfl) rfl rfl) <|
  fm_c (am_pf (am_t2 37 rfl) rfl rfl) <|
  fm_c (am_pf (am_t2 81 rfl) rfl rfl) <|
  fm_c (am_pf (am_t2 82 rfl) rfl rfl) <|
  fm_c (am_pf (am_t2 83 rfl) rfl rfl) <|
  fm_c (am_pf (am_t2 84 rfl) rfl rfl) <|
  fm_c (am_pf (am_t2 85 rfl) rfl rfl) <|
  fm_c (am_pf (am_t2 86 rfl) rfl rfl) <|
  fm_c (am_pf (am_t2 87 rfl) rfl rfl) <|
  fm_c (am_pf (am_t2 88 rfl) rfl rfl) <|
  fm_c (am_pf (am_t2 89 rfl) rfl rfl) <|
  fm_c (am_pf (am_t2 90 rfl) rfl rfl) <|
  fm_c (am_pf (am_t2 91 rfl) rfl rfl) <|
  fm_c (am_pf (am_t2 92 rfl) rfl rfl) <|
  fm_c (am_pf (am_t2 93 rfl) rfl rfl) <|
  fm_c (am_pf (am_t2 94 rfl) rfl rfl) <|
  fm_c (am_pf (am_t2 95 rfl) rfl rfl) <|
  fm_c (am_pf (am_t2 96 rfl) rfl rfl) <|
  fm_c (am_pf (am_t2 97 rfl) rfl rfl) <|
  fm_c (am_pf (am_t2 98 rfl) rfl rfl) <|
  fm_c (am_pf (am_t2 99 rfl) rfl rfl) <|
  fm_c (am_pf (am_t2 100 rfl) rfl rfl) <|
  fm_c (am_pf (am_t2 101 rfl) rfl rfl) <|
  fm_n
set_option maxRecDepth 100000 in
theorem am_F_ok4 : ∀ e ∈ am_F_4, am_PF e :=
  fm_c (am_pf (am_t2 102 rfl) rfl rfl) <|
  fm_c (am_pf (am_t2 126 rfl) rfl rfl) <|
  fm_c (am_pf (am_t2 127 rfl) rfl rfl) <|
  fm_c (am_pf (am_t2 128 rfl) rfl rfl) <|
  fm_c (am_pf (am_t2 129 rfl) rfl rfl) <|
  fm_c (am_pf (am_t2 145 rfl) rfl rfl) <|
  fm_c (am_pf (am_t2 146 rfl) rfl rfl) <|
  fm_c (am_pf (am_t2 147 rfl) rfl rfl) <|
  fm_c (am_pf (am_t2 148 rfl) rfl rfl) <|
  fm_c (am_pf (am_t2 149 rfl) rfl rfl) <|
  fm_c (am_pf (am_t2 150 rfl) rfl rfl) <|
  fm_c (am_pf (am_t2 172 rfl) rfl rfl) <|
  fm_c (am_pf (am_t2 173 rfl) rfl rfl) <|
  fm_c (am_pf (am_t2 174 rfl) rfl rfl) <|
  fm_c (am_pf (am_t2 175 rfl) rfl rfl) <|
  fm_c (am_pf (am_t2 176 rfl) rfl rfl) <|
  fm_c (am_pf (am_t2 177 rfl) rfl rfl) <|
  fm_c (am_pf (am_t2 178 rfl) rfl rfl) <|
  fm_c (am_pf (am_t2 179 rfl) rfl rfl) <|
  fm_c (am_pf (am_t2 180 rfl) rfl rfl) <|
  fm_c (am_pf (am_t2 181 rfl) rfl rfl) <|
  fm_c (am_pf (am_t2 182 rfl) rfl rfl) <|
  fm_c (am_pf (am_t2 183 rfl) rfl rfl) <|
  fm_c (am_pf (am_t2 184 rfl) rfl rfl) <|
  fm_c (am_pf (am_t2 185 rfl) rfl rfl) <|
  fm_c (am_pf (am_t2 186 rfl) rfl rfl) <|
  fm_c (am_pf (am_t2 187 rfl) rfl rfl) <|
  fm_c (am_pf (am_t2 213 rfl) rfl rfl) <|
  fm_c (am_pf (am_t2 214 rfl) rfl rfl) <|
  fm_c (am_pf (am_t2 215 rfl) rfl rfl) <|
  fm_c (am_pf (am_t2 216 rfl) rfl rfl) <|
  fm_c (am_pf (am_t2 217 rfl) rfl rfl) <|
  fm_c (am_pf (am_t2 218 rfl) rfl rfl) <|
  fm_c (am_pf (am_t2 219 rfl) rfl rfl) <|
  fm_c (am_pf (am_t2 220 rfl) rfl rfl) <|
  fm_c (am_pf (am_t2 221 rfl) rfl rfl) <|
  fm_c (am_pf (am_t2 222 rfl) rfl rfl) <|
  fm_c (am_pf (am_t2 223 rfl) rfl rfl) <|
  fm_c (am_pf (am_t2 224 rfl) rfl rfl) <|
  fm_c (am_pf (am_t2 225 rfl) rfl rfl) <|
  fm_n
set_option maxRecDepth 100000 in
theorem am_F_ok5 : ∀ e ∈ am_F_5, am_PF e :=
  fm_c (am_pf (am_t2 226 rfl) rfl rfl) <|
  fm_c (am_pf (am_t2 227 rfl) rfl rfl) <|
  fm_c (am_pf (am_t2 228 rfl) rfl rfl) <|
  fm_c (am_pf (am_t2 229 rfl) rfl rfl) <|
  fm_c (am_pf (am_t2 230 rfl) rfl rfl) <|
  fm_c (am_pf (am_t3 21 rfl) rfl rfl) <|
  fm_c (am_pf (am_t3 22 rfl) rfl rfl) <|
  fm_c (am_pf (am_t3 23 rfl) rfl rfl) <|
  fm_c (am_pf (am_t3 24 rfl) rfl rfl) <|
  fm_c (am_pf (am_t3 25 rfl) rfl rfl) <|
  fm_c (am_pf (am_t3 33 rfl) rfl rfl) <|
  fm_c (am_pf (am_t3 34 rfl) rfl rfl) <|
  fm_c (am_pf (am_t3 35 rfl) rfl rfl) <|
  fm_c (am_pf (am_t3 36 rfl) rfl rfl) <|
  fm_c (am_pf (am_t3 37 rfl) rfl rfl) <|
  fm_c (am_pf (am_t3 38 rfl) rfl rfl) <|
  fm_c (am_pf (am_t3 39 rfl) rfl rfl) <|
  fm_c (am_pf (am_t3 40 rfl) rfl rfl) <|
  fm_c (am_pf (am_t3 41 rfl) rfl rfl) <|
  fm_c (am_pf (am_t3 42 rfl) rfl rfl) <|
  fm_c (am_pf (am_t3 43 rfl) rfl rfl) <|
  fm_c (am_pf (am_t3 44 rfl) rfl rfl) <|
  fm_c (am_pf (am_t3 45 rfl) rfl rfl) <|
  fm_c (am_pf (am_t3 46 rfl) rfl rfl) <|
  fm_c (am_pf (am_t3 47 rfl) rfl rfl) <|
  fm_c (am_pf (am_t6 225 rfl) rfl rfl) <|
  fm_c (am_pf (am_t6 226 rfl) rfl rfl) <|
  fm_c (am_pf (am_t6 227 rfl) rfl rfl) <|
  fm_c (am_pf (am_t6 228 rfl) rfl rfl) <|
  fm_c (am_pf (am_t6 229 rfl) rfl rfl) <|
  fm_c (am_pf (am_t6 230 rfl) rfl rfl) <|
  fm_c (am_pf (am_t6 231 rfl) rfl rfl) <|
  fm_c (am_pf (am_t6 232 rfl) rfl rfl) <|
  fm_c (am_pf (am_t6 233 rfl) rfl rfl) <|
  fm_c (am_pf (am_t6 234 rfl) rfl rfl) <|
  fm_c (am_pf (am_t6 235 rfl) rfl rfl) <|
  fm_c (am_pf (am_t6 236 rfl) rfl rfl) <|
  fm_c (am_pf (am_t6 237 rfl) rfl rfl) <|
  fm_c (am_pf (am_t6 238 rfl) rfl rfl) <|
  fm_c (am_pf (am_t6 239 rfl) rfl rfl) <|
  fm_n
set_option maxRecDepth 100000 in
theorem am_F_ok6 : ∀ e ∈ am_F_6, am_PF e :=
  fm_c (am_pf (am_t7 0 rfl) rfl rfl) <|
  fm_c (am_pf (am_t7 1 rfl) rfl rfl) <|
  fm_c (am_pf (am_t7 2 rfl) rfl rfl) <|
  fm_c (am_pf (am_t7 3 rfl) rfl rfl) <|
  fm_c (am_pf (am_t7 4 rfl) rfl rfl) <|
  fm_c (am_pf (am_t7 5 rfl) rfl rfl) <|
  fm_c (am_pf (am_t7 6 rfl) rfl rfl) <|
  fm_c (am_pf (am_t7 7 rfl) rfl rfl) <|
  fm_c (am_pf (am_t7 8 rfl) rfl rfl) <|
  fm_c (am_pf (am_t7 9 rfl) rfl rfl) <|
  fm_c (am_pf (am_t7 10 rfl) rfl rfl) <|
  fm_c (am_pf (am_t7 11 rfl) rfl rfl) <|
  fm_c (am_pf (am_t7 12 rfl) rfl rfl) <|
  fm_c (am_pf (am_t7 13 rfl) rfl rfl) <|
  fm_c (am_pf (am_t7 14 rfl) rfl rfl) <|
  fm_c (am_pf (am_t7 15 rfl) rfl rfl) <|
  fm_c (am_pf (am_t7 16 rfl) rfl rfl) <|
  fm_c (am_pf (am_t7 17 rfl) rfl rfl) <|
  fm_c (am_pf (am_t7 18 rfl) rfl rfl) <|
  fm_c (am_pf (am_t7 19 rfl) rfl rfl) <|
  fm_c (am_pf (am_t7 20 rfl) rfl rfl) <|
  fm_c (am_pf (am_t7 21 rfl) rfl rfl) <|
  fm_c (am_pf (am_t7 22 rfl) rfl rfl) <|
  fm_c (am_pf (am_t7 23 rfl) rfl rfl) <|
  fm_c (am_pf (am_t7 24 rfl) rfl rfl) <|
  fm_c (am_pf (am_t7 25 rfl) rfl rfl) <|
  fm_c (am_pf (am_t7 26 rfl) rfl rfl) <|
  fm_c (am_pf (am_t7 27 rfl) rfl rfl) <|
  fm_c (am_pf (am_t7 28 rfl) rfl rfl) <|
  fm_c (am_pf (am_t7 29 rfl) rfl rfl) <|
  fm_c (am_pf (am_t7 30 rfl) rfl rfl) <|
  fm_c (am_pf (am_t7 31 rfl) rfl rfl) <|
  fm_c (am_pf (am_t7 32 rfl) rfl rfl) <|
  fm_n
theorem am_F_ok : ∀ e ∈ am_F, am_PF e := fm_a am_F_ok0 (fm_a am_F_ok1 (fm_a am_F_ok2 (fm_a am_F_ok3 (fm_a am_F_ok4 (fm_a am_F_ok5 (am_F_ok6))))))
set_option maxRecDepth 100000 in
theorem am_M_ok0 : ∀ e ∈ am_M_0, am_PM e :=
  fm_c (am_pm1 (am_t1 23 rfl) rfl) <|
  fm_c (am_pm1000 (am_t1 26 rfl)) <|
  fm_c (am_pm2 (am_t1 33 rfl) rfl) <|
  fm_c (am_pm1000 (am_t1 36 rfl)) <|
  fm_c (am_pm1 (am_t1 104 rfl) rfl) <|
  fm_c (am_pm1000 (am_t1 107 rfl)) <|
  fm_c (am_pm2 (am_t1 115 rfl) rfl) <|
  fm_c (am_pm1000 (am_t1 118 rfl)) <|
  fm_c (am_pm2 (am_t1 144 rfl) rfl) <|
  fm_c (am_pm1000 (am_t1 147 rfl)) <|
  fm_c (am_pm2 (am_t1 178 rfl) rfl) <|
  fm_c (am_pm1000 (am_t1 181 rfl)) <|
  fm_c (am_pm2 (am_t2 77 rfl) rfl) <|
  fm_c (am_pm1000 (am_t2 80 rfl)) <|
  fm_c (am_pm1 (am_t2 120 rfl) rfl) <|
  fm_c (am_pm1000 (am_t2 123 rfl)) <|
  fm_c (am_pm1 (am_t2 125 rfl) rfl) <|
  fm_c (am_pm1 (am_t2 139 rfl) rfl) <|
  fm_c (am_pm1000 (am_t2 142 rfl)) <|
  fm_c (am_pm2 (am_t2 144 rfl) rfl) <|
  fm_c (am_pm2 (am_t2 164 rfl) rfl) <|
  fm_c (am_pm1000 (am_t2 167 rfl)) <|
  fm_c (am_pm1 (am_t2 169 rfl) rfl) <|
  fm_c (am_pm2 (am_t2 171 rfl) rfl) <|
  fm_c (am_pm2 (am_t2 209 rfl) rfl) <|
  fm_c (am_pm1000 (am_t2 212 rfl)) <|
  fm_c (am_pm2 (am_t3 17 rfl) rfl) <|
  fm_c (am_pm1000 (am_t3 20 rfl)) <|
  fm_c (am_pm0 (am_t3 79 rfl) rfl) <|
  fm_c (am_pm0 (am_t3 83 rfl) rfl) <|
  fm_c (am_pm0 (am_t3 87 rfl) rfl) <|
  fm_c (am_pm0 (am_t3 91 rfl) rfl) <|
  fm_c (am_pm0 (am_t3 95 rfl) rfl) <|
  fm_c (am_pm0 (am_t3 99 rfl) rfl) <|
  fm_c (am_pm0 (am_t3 103 rfl) rfl) <|
  fm_c (am_pm0 (am_t3 107 rfl) rfl) <|
  fm_c (am_pm1001 (am_t3 111 rfl)) <|
  fm_c (am_pm0 (am_t3 114 rfl) rfl) <|
  fm_c (am_pm0 (am_t3 118 rfl) rfl) <|
  fm_c (am_pm0 (am_t3 122 rfl) rfl) <|
  fm_n
set_option maxRecDepth 100000 in
theorem am_M_ok1 : ∀ e ∈ am_M_1, am_PM e :=
  fm_c (am_pm0 (am_t3 126 rfl) rfl) <|
  fm_c (am_pm0 (am_t3 130 rfl) rfl) <|
  fm_c (am_pm0 (am_t3 134 rfl) rfl) <|
  fm_c (am_pm0 (am_t3 138 rfl) rfl) <|
  fm_c (am_pm0 (am_t3 139 rfl) rfl) <|
  fm_c (am_pm0 (am_t3 143 rfl) rfl) <|
  fm_c (am_pm0 (am_t3 147 rfl) rfl) <|
  fm_c (am_pm0 (am_t3 152 rfl) rfl) <|
  fm_c (am_pm0 (am_t3 156 rfl) rfl) <|
  fm_c (am_pm0 (am_t3 160 rfl) rfl) <|
  fm_c (am_pm0 (am_t3 164 rfl) rfl) <|
  fm_c (am_pm1004 (am_t3 165 rfl)) <|
  fm_c (am_pm0 (am_t3 168 rfl) rfl) <|
  fm_c (am_pm0 (am_t3 172 rfl) rfl) <|
  fm_c (am_pm0 (am_t3 176 rfl) rfl) <|
  fm_c (am_pm0 (am_t3 180 rfl) rfl) <|
  fm_c (am_pm0 (am_t3 184 rfl) rfl) <|
  fm_c (am_pm0 (am_t3 188 rfl) rfl) <|
  fm_c (am_pm0 (am_t3 192 rfl) rfl) <|
  fm_c (am_pm1001 (am_t3 196 rfl)) <|
  fm_c (am_pm0 (am_t3 197 rfl) rfl) <|
  fm_c (am_pm0 (am_t3 201 rfl) rfl) <|
  fm_c (am_pm0 (am_t3 205 rfl) rfl) <|
  fm_c (am_pm0 (am_t3 209 rfl) rfl) <|
  fm_c (am_pm0 (am_t3 213 rfl) rfl) <|
  fm_c (am_pm0 (am_t3 218 rfl) rfl) <|
  fm_c (am_pm0 (am_t4 31 rfl) rfl) <|
  fm_c (am_pm0 (am_t4 35 rfl) rfl) <|
  fm_c (am_pm0 (am_t4 39 rfl) rfl) <|
  fm_c (am_pm0 (am_t4 43 rfl) rfl) <|
  fm_c (am_pm0 (am_t4 47 rfl) rfl) <|
  fm_c (am_pm0 (am_t4 51 rfl) rfl) <|
  fm_c (am_pm0 (am_t4 55 rfl) rfl) <|
  fm_c (am_pm0 (am_t4 59 rfl) rfl) <|
  fm_c (am_pm0 (am_t4 60 rfl) rfl) <|
  fm_c (am_pm0 (am_t4 64 rfl) rfl) <|
  fm_c (am_pm0 (am_t4 68 rfl) rfl) <|
  fm_c (am_pm0 (am_t4 72 rfl) rfl) <|
  fm_c (am_pm0 (am_t4 76 rfl) rfl) <|
  fm_c (am_pm0 (am_t4 80 rfl) rfl) <|
  fm_n
set_option maxRecDepth 100000 in
theorem am_M_ok2 : ∀ e ∈ am_M_2, am_PM e :=
  fm_c (am_pm0 (am_t4 84 rfl) rfl) <|
  fm_c (am_pm0 (am_t4 85 rfl) rfl) <|
  fm_c (am_pm0 (am_t4 89 rfl) rfl) <|
  fm_c (am_pm0 (am_t4 93 rfl) rfl) <|
  fm_c (am_pm0 (am_t4 97 rfl) rfl) <|
  fm_c (am_pm0 (am_t4 101 rfl) rfl) <|
  fm_c (am_pm0 (am_t4 105 rfl) rfl) <|
  fm_c (am_pm0 (am_t4 109 rfl) rfl) <|
  fm_c (am_pm0 (am_t4 110 rfl) rfl) <|
  fm_c (am_pm0 (am_t4 114 rfl) rfl) <|
  fm_c (am_pm0 (am_t4 118 rfl) rfl) <|
  fm_c (am_pm0 (am_t4 119 rfl) rfl) <|
  fm_c (am_pm1001 (am_t4 123 rfl)) <|
  fm_c (am_pm0 (am_t4 124 rfl) rfl) <|
  fm_c (am_pm0 (am_t4 128 rfl) rfl) <|
  fm_c (am_pm0 (am_t4 129 rfl) rfl) <|
  fm_c (am_pm0 (am_t4 133 rfl) rfl) <|
  fm_c (am_pm0 (am_t4 137 rfl) rfl) <|
  fm_c (am_pm0 (am_t4 141 rfl) rfl) <|
  fm_c (am_pm0 (am_t4 145 rfl) rfl) <|
  fm_c (am_pm0 (am_t4 149 rfl) rfl) <|
  fm_c (am_pm1004 (am_t4 153 rfl)) <|
  fm_c (am_pm0 (am_t4 154 rfl) rfl) <|
  fm_c (am_pm0 (am_t4 158 rfl) rfl) <|
  fm_c (am_pm0 (am_t4 162 rfl) rfl) <|
  fm_c (am_pm0 (am_t4 166 rfl) rfl) <|
  fm_c (am_pm0 (am_t4 170 rfl) rfl) <|
  fm_c (am_pm0 (am_t4 174 rfl) rfl) <|
  fm_c (am_pm0 (am_t4 178 rfl) rfl) <|
  fm_c (am_pm0 (am_t4 179 rfl) rfl) <|
  fm_c (am_pm0 (am_t4 180 rfl) rfl) <|
  fm_c (am_pm0 (am_t4 181 rfl) rfl) <|
  fm_c (am_pm0 (am_t4 185 rfl) rfl) <|
  fm_c (am_pm0 (am_t4 186 rfl) rfl) <|
  fm_c (am_pm0 (am_t4 187 rfl) rfl) <|
  fm_c (am_pm0 (am_t4 191 rfl) rfl) <|
  fm_c (am_pm0 (am_t4 195 rfl) rfl) <|
  fm_c (am_pm0 (am_t4 199 rfl) rfl) <|
  fm_c (am_pm0 (am_t4 200 rfl) rfl) <|
  fm_c (am_pm0 (am_t4 204 rfl) rfl) <|
  fm_n
set_option maxRecDepth 100000 in
theorem am_M_ok3 : ∀ e ∈ am_M_3, am_PM e :=
  fm_c (am_pm0 (am_t4 205 rfl) rfl) <|
  fm_c (am_pm0 (am_t4 206 rfl) rfl) <|
  fm_c (am_pm0 (am_t4 210 rfl) rfl) <|
  fm_c (am_pm0 (am_t4 211 rfl) rfl) <|
  fm_c (am_pm0 (am_t4 215 rfl) rfl) <|
  fm_c (am_pm0 (am_t4 216 rfl) rfl) <|
  fm_c (am_pm0 (am_t4 217 rfl) rfl) <|
  fm_c (am_pm0 (am_t4 221 rfl) rfl) <|
  fm_c (am_pm1004 (am_t4 225 rfl)) <|
  fm_c (am_pm0 (am_t4 226 rfl) rfl) <|
  fm_c (am_pm0 (am_t4 230 rfl) rfl) <|
  fm_c (am_pm0 (am_t4 234 rfl) rfl) <|
  fm_c (am_pm0 (am_t4 238 rfl) rfl) <|
  fm_c (am_pm0 (am_t5 2 rfl) rfl) <|
  fm_c (am_pm0 (am_t5 6 rfl) rfl) <|
  fm_c (am_pm0 (am_t5 10 rfl) rfl) <|
  fm_c (am_pm0 (am_t5 14 rfl) rfl) <|
  fm_c (am_pm0 (am_t5 18 rfl) rfl) <|
  fm_c (am_pm0 (am_t5 22 rfl) rfl) <|
  fm_c (am_pm0 (am_t5 26 rfl) rfl) <|
  fm_c (am_pm0 (am_t5 27 rfl) rfl) <|
  fm_c (am_pm0 (am_t5 31 rfl) rfl) <|
  fm_c (am_pm0 (am_t5 35 rfl) rfl) <|
  fm_c (am_pm0 (am_t5 39 rfl) rfl) <|
  fm_c (am_pm0 (am_t5 43 rfl) rfl) <|
  fm_c (am_pm0 (am_t5 47 rfl) rfl) <|
  fm_c (am_pm0 (am_t5 51 rfl) rfl) <|
  fm_c (am_pm0 (am_t5 55 rfl) rfl) <|
  fm_c (am_pm0 (am_t5 59 rfl) rfl) <|
  fm_c (am_pm0 (am_t5 60 rfl) rfl) <|
  fm_c (am_pm0 (am_t5 64 rfl) rfl) <|
  fm_c (am_pm0 (am_t5 68 rfl) rfl) <|
  fm_c (am_pm0 (am_t5 72 rfl) rfl) <|
  fm_c (am_pm0 (am_t5 76 rfl) rfl) <|
  fm_c (am_pm0 (am_t5 80 rfl) rfl) <|
  fm_c (am_pm0 (am_t5 81 rfl) rfl) <|
  fm_c (am_pm0 (am_t5 82 rfl) rfl) <|
  fm_c (am_pm0 (am_t5 86 rfl) rfl) <|
  fm_c (am_pm0 (am_t5 90 rfl) rfl) <|
  fm_c (am_pm0 (am_t5 94 rfl) rfl) <|
  fm_n
set_option maxRecDepth 100000 in
theorem am_M_ok4 : ∀ e ∈ am_M_4, am_PM e :=
  fm_c (am_pm1001 (am_t5 98 rfl)) <|
  fm_c (am_pm0 (am_t5 99 rfl) rfl) <|
  fm_c (am_pm0 (am_t5 103 rfl) rfl) <|
  fm_c (am_pm0 (am_t5 107 rfl) rfl) <|
  fm_c (am_pm0 (am_t5 111 rfl) rfl) <|
  fm_c (am_pm0 (am_t5 115 rfl) rfl) <|
  fm_c (am_pm1001 (am_t5 119 rfl)) <|
  fm_c (am_pm0 (am_t5 120 rfl) rfl) <|
  fm_c (am_pm0 (am_t5 124 rfl) rfl) <|
  fm_c (am_pm0 (am_t5 128 rfl) rfl) <|
  fm_c (am_pm0 (am_t5 132 rfl) rfl) <|
  fm_c (am_pm0 (am_t5 136 rfl) rfl) <|
  fm_c (am_pm0 (am_t5 140 rfl) rfl) <|
  fm_c (am_pm0 (am_t5 144 rfl) rfl) <|
  fm_c (am_pm0 (am_t5 145 rfl) rfl) <|
  fm_c (am_pm0 (am_t5 149 rfl) rfl) <|
  fm_c (am_pm0 (am_t5 153 rfl) rfl) <|
  fm_c (am_pm0 (am_t5 157 rfl) rfl) <|
  fm_c (am_pm0 (am_t5 158 rfl) rfl) <|
  fm_c (am_pm0 (am_t5 162 rfl) rfl) <|
  fm_c (am_pm0 (am_t5 166 rfl) rfl) <|
  fm_c (am_pm0 (am_t5 170 rfl) rfl) <|
  fm_c (am_pm0 (am_t5 174 rfl) rfl) <|
  fm_c (am_pm0 (am_t5 178 rfl) rfl) <|
  fm_c (am_pm0 (am_t5 182 rfl) rfl) <|
  fm_c (am_pm3 (am_t5 186 rfl) rfl) <|
  fm_c (am_pm0 (am_t5 192 rfl) rfl) <|
  fm_c (am_pm0 (am_t5 196 rfl) rfl) <|
  fm_c (am_pm0 (am_t5 200 rfl) rfl) <|
  fm_c (am_pm0 (am_t5 204 rfl) rfl) <|
  fm_c (am_pm0 (am_t5 208 rfl) rfl) <|
  fm_c (am_pm0 (am_t5 212 rfl) rfl) <|
  fm_c (am_pm0 (am_t5 213 rfl) rfl) <|
  fm_c (am_pm0 (am_t5 217 rfl) rfl) <|
  fm_c (am_pm0 (am_t5 221 rfl) rfl) <|
  fm_c (am_pm0 (am_t5 225 rfl) rfl) <|
  fm_c (am_pm0 (am_t5 226 rfl) rfl) <|
  fm_c (am_pm0 (am_t5 230 rfl) rfl) <|
  fm_c (am_pm0 (am_t5 234 rfl) rfl) <|
  fm_c (am_pm0 (am_t5 238 rfl) rfl) <|
  fm_n
set_option maxRecDepth 100000 in
theorem am_M_ok5 : ∀ e ∈ am_M_5, am_PM e :=
  fm_c (am_pm0 (am_t5 239 rfl) rfl) <|
  fm_c (am_pm0 (am_t6 0 rfl) rfl) <|
  fm_c (am_pm0 (am_t6 4 rfl) rfl) <|
  fm_c (am_pm0 (am_t6 8 rfl) rfl) <|
  fm_c (am_pm0 (am_t6 9 rfl) rfl) <|
  fm_c (am_pm3 (am_t6 10 rfl) rfl) <|
  fm_c (am_pm0 (am_t6 11 rfl) rfl) <|
  fm_c (am_pm0 (am_t6 15 rfl) rfl) <|
  fm_c (am_pm0 (am_t6 19 rfl) rfl) <|
  fm_c (am_pm0 (am_t6 23 rfl) rfl) <|
  fm_c (am_pm0 (am_t6 27 rfl) rfl) <|
  fm_c (am_pm1004 (am_t6 31 rfl)) <|
  fm_c (am_pm0 (am_t6 32 rfl) rfl) <|
  fm_c (am_pm0 (am_t6 36 rfl) rfl) <|
  fm_c (am_pm0 (am_t6 40 rfl) rfl) <|
  fm_c (am_pm0 (am_t6 44 rfl) rfl) <|
  fm_c (am_pm0 (am_t6 45 rfl) rfl) <|
  fm_c (am_pm0 (am_t6 49 rfl) rfl) <|
  fm_c (am_pm0 (am_t6 50 rfl) rfl) <|
  fm_c (am_pm0 (am_t6 54 rfl) rfl) <|
  fm_c (am_pm0 (am_t6 55 rfl) rfl) <|
  fm_c (am_pm0 (am_t6 56 rfl) rfl) <|
  fm_c (am_pm0 (am_t6 60 rfl) rfl) <|
  fm_c (am_pm0 (am_t6 64 rfl) rfl) <|
  fm_c (am_pm0 (am_t6 68 rfl) rfl) <|
  fm_c (am_pm0 (am_t6 72 rfl) rfl) <|
  fm_c (am_pm0 (am_t6 76 rfl) rfl) <|
  fm_c (am_pm0 (am_t6 80 rfl) rfl) <|
  fm_c (am_pm0 (am_t6 84 rfl) rfl) <|
  fm_c (am_pm0 (am_t6 88 rfl) rfl) <|
  fm_c (am_pm0 (am_t6 92 rfl) rfl) <|
  fm_c (am_pm0 (am_t6 96 rfl) rfl) <|
  fm_c (am_pm0 (am_t6 97 rfl) rfl) <|
  fm_c (am_pm0 (am_t6 98 rfl) rfl) <|
  fm_c (am_pm0 (am_t6 99 rfl) rfl) <|
  fm_c (am_pm0 (am_t6 100 rfl) rfl) <|
  fm_c (am_pm0 (am_t6 104 rfl) rfl) <|
  fm_c (am_pm0 (am_t6 108 rfl) rfl) <|
  fm_c (am_pm0 (am_t6 112 rfl) rfl) <|
  fm_c (am_pm0 (am_t6 116 rfl) rfl) <|
  fm_n
set_option maxRecDepth 100000 in
theorem am_M_ok6 : ∀ e ∈ am_M_6, am_PM e :=
  fm_c (am_pm0 (am_t6 120 rfl) rfl) <|
  fm_c (am_pm0 (am_t6 124 rfl) rfl) <|
  fm_c (am_pm0 (am_t6 128 rfl) rfl) <|
  fm_c (am_pm0 (am_t6 132 rfl) rfl) <|
  fm_c (am_pm0 (am_t6 137 rfl) rfl) <|
  fm_c (am_pm0 (am_t6 141 rfl) rfl) <|
  fm_c (am_pm0 (am_t6 142 rfl) rfl) <|
  fm_c (am_pm0 (am_t6 143 rfl) rfl) <|
  fm_c (am_pm0 (am_t6 147 rfl) rfl) <|
  fm_c (am_pm0 (am_t6 151 rfl) rfl) <|
  fm_c (am_pm0 (am_t6 152 rfl) rfl) <|
  fm_c (am_pm0 (am_t6 156 rfl) rfl) <|
  fm_c (am_pm0 (am_t6 160 rfl) rfl) <|
  fm_c (am_pm0 (am_t6 164 rfl) rfl) <|
  fm_c (am_pm0 (am_t6 168 rfl) rfl) <|
  fm_c (am_pm0 (am_t6 169 rfl) rfl) <|
  fm_c (am_pm0 (am_t6 170 rfl) rfl) <|
  fm_c (am_pm0 (am_t6 174 rfl) rfl) <|
  fm_c (am_pm0 (am_t6 175 rfl) rfl) <|
  fm_c (am_pm0 (am_t6 176 rfl) rfl) <|
  fm_c (am_pm0 (am_t6 177 rfl) rfl) <|
  fm_c (am_pm0 (am_t6 181 rfl) rfl) <|
  fm_c (am_pm0 (am_t6 185 rfl) rfl) <|
  fm_c (am_pm0 (am_t6 186 rfl) rfl) <|
  fm_c (am_pm0 (am_t6 187 rfl) rfl) <|
  fm_c (am_pm0 (am_t6 191 rfl) rfl) <|
  fm_c (am_pm0 (am_t6 192 rfl) rfl) <|
  fm_c (am_pm0 (am_t6 193 rfl) rfl) <|
  fm_c (am_pm0 (am_t6 194 rfl) rfl) <|
  fm_c (am_pm0 (am_t6 198 rfl) rfl) <|
  fm_c (am_pm0 (am_t6 203 rfl) rfl) <|
  fm_c (am_pm0 (am_t6 207 rfl) rfl) <|
  fm_c (am_pm0 (am_t6 211 rfl) rfl) <|
  fm_c (am_pm0 (am_t6 215 rfl) rfl) <|
  fm_c (am_pm1 (am_t6 221 rfl) rfl) <|
  fm_c (am_pm1000 (am_t6 224 rfl)) <|
  fm_c (am_pm0 (am_t7 130 rfl) rfl) <|
  fm_c (am_pm0 (am_t7 134 rfl) rfl) <|
  fm_c (am_pm0 (am_t7 138 rfl) rfl) <|
  fm_c (am_pm0 (am_t7 142 rfl) rfl) <|
  fm_n
set_option maxRecDepth 100000 in
theorem am_M_ok7 : ∀ e ∈ am_M_7, am_PM e :=
  fm_c (am_pm0 (am_t7 146 rfl) rfl) <|
  fm_c (am_pm0 (am_t7 150 rfl) rfl) <|
  fm_c (am_pm0 (am_t7 154 rfl) rfl) <|
  fm_c (am_pm0 (am_t7 158 rfl) rfl) <|
  fm_c (am_pm3 (am_t7 162 rfl) rfl) <|
  fm_c (am_pm0 (am_t7 165 rfl) rfl) <|
  fm_c (am_pm0 (am_t7 170 rfl) rfl) <|
  fm_c (am_pm0 (am_t7 174 rfl) rfl) <|
  fm_c (am_pm0 (am_t7 178 rfl) rfl) <|
  fm_c (am_pm0 (am_t7 182 rfl) rfl) <|
  fm_c (am_pm0 (am_t7 186 rfl) rfl) <|
  fm_c (am_pm0 (am_t7 190 rfl) rfl) <|
  fm_c (am_pm0 (am_t7 194 rfl) rfl) <|
  fm_c (am_pm0 (am_t7 198 rfl) rfl) <|
  fm_c (am_pm3 (am_t7 202 rfl) rfl) <|
  fm_c (am_pm3 (am_t7 207 rfl) rfl) <|
  fm_c (am_pm0 (am_t7 210 rfl) rfl) <|
  fm_c (am_pm0 (am_t7 214 rfl) rfl) <|
  fm_c (am_pm3 (am_t7 218 rfl) rfl) <|
  fm_c (am_pm0 (am_t7 221 rfl) rfl) <|
  fm_c (am_pm0 (am_t7 225 rfl) rfl) <|
  fm_c (am_pm0 (am_t7 229 rfl) rfl) <|
  fm_c (am_pm0 (am_t7 233 rfl) rfl) <|
  fm_c (am_pm0 (am_t7 237 rfl) rfl) <|
  fm_c (am_pm0 (am_t8 1 rfl) rfl) <|
  fm_c (am_pm0 (am_t8 5 rfl) rfl) <|
  fm_c (am_pm0 (am_t8 9 rfl) rfl) <|
  fm_c (am_pm0 (am_t8 13 rfl) rfl) <|
  fm_c (am_pm0 (am_t8 17 rfl) rfl) <|
  fm_c (am_pm0 (am_t8 21 rfl) rfl) <|
  fm_c (am_pm0 (am_t8 25 rfl) rfl) <|
  fm_c (am_pm0 (am_t8 29 rfl) rfl) <|
  fm_c (am_pm0 (am_t8 33 rfl) rfl) <|
  fm_c (am_pm0 (am_t8 37 rfl) rfl) <|
  fm_c (am_pm0 (am_t8 42 rfl) rfl) <|
  fm_c (am_pm0 (am_t8 46 rfl) rfl) <|
  fm_c (am_pm0 (am_t8 50 rfl) rfl) <|
  fm_c (am_pm0 (am_t8 54 rfl) rfl) <|
  fm_c (am_pm0 (am_t8 58 rfl) rfl) <|
  fm_c (am_pm0 (am_t8 62 rfl) rfl) <|
  fm_n
set_option maxRecDepth 100000 in
theorem am_M_ok8 : ∀ e ∈ am_M_8, am_PM e :=
  fm_c (am_pm0 (am_t8 66 rfl) rfl) <|
  fm_c (am_pm0 (am_t8 70 rfl) rfl) <|
  fm_c (am_pm0 (am_t8 74 rfl) rfl) <|
  fm_c (am_pm0 (am_t8 78 rfl) rfl) <|
  fm_c (am_pm0 (am_t8 82 rfl) rfl) <|
  fm_c (am_pm0 (am_t8 86 rfl) rfl) <|
  fm_c (am_pm0 (am_t8 90 rfl) rfl) <|
  fm_c (am_pm3 (am_t8 94 rfl) rfl) <|
  fm_c (am_pm0 (am_t8 98 rfl) rfl) <|
  fm_c (am_pm0 (am_t8 102 rfl) rfl) <|
  fm_c (am_pm1002 (am_t8 106 rfl)) <|
  fm_c (am_pm0 (am_t8 109 rfl) rfl) <|
  fm_c (am_pm0 (am_t8 113 rfl) rfl) <|
  fm_c (am_pm0 (am_t8 117 rfl) rfl) <|
  fm_c (am_pm3 (am_t8 121 rfl) rfl) <|
  fm_c (am_pm0 (am_t8 124 rfl) rfl) <|
  fm_c (am_pm0 (am_t8 128 rfl) rfl) <|
  fm_c (am_pm0 (am_t8 132 rfl) rfl) <|
  fm_c (am_pm0 (am_t8 136 rfl) rfl) <|
  fm_c (am_pm0 (am_t8 140 rfl) rfl) <|
  fm_c (am_pm0 (am_t8 144 rfl) rfl) <|
  fm_c (am_pm0 (am_t8 148 rfl) rfl) <|
  fm_c (am_pm0 (am_t8 152 rfl) rfl) <|
  fm_c (am_pm0 (am_t8 157 rfl) rfl) <|
  fm_c (am_pm0 (am_t8 161 rfl) rfl) <|
  fm_c (am_pm0 (am_t8 165 rfl) rfl) <|
  fm_c (am_pm0 (am_t8 169 rfl) rfl) <|
  fm_c (am_pm0 (am_t8 173 rfl) rfl) <|
  fm_c (am_pm0 (am_t8 178 rfl) rfl) <|
  fm_c (am_pm0 (am_t8 182 rfl) rfl) <|
  fm_c (am_pm0 (am_t8 186 rfl) rfl) <|
  fm_c (am_pm0 (am_t8 190 rfl) rfl) <|
  fm_c (am_pm0 (am_t8 194 rfl) rfl) <|
  fm_c (am_pm0 (am_t8 198 rfl) rfl) <|
  fm_c (am_pm0 (am_t8 202 rfl) rfl) <|
  fm_c (am_pm0 (am_t8 206 rfl) rfl) <|
  fm_c (am_pm0 (am_t8 210 rfl) rfl) <|
  fm_c (am_pm0 (am_t8 215 rfl) rfl) <|
  fm_c (am_pm0 (am_t8 219 rfl) rfl) <|
  fm_c (am_pm0 (am_t8 223 rfl) rfl) <|
  fm_n
set_option maxRecDepth 100000 in
theorem am_M_ok9 : ∀ e ∈ am_M_9, am_PM e :=
  fm_c (am_pm0 (am_t8 227 rfl) rfl) <|
  fm_c (am_pm1003 (am_t8 231 rfl)) <|
  fm_c (am_pm0 (am_t8 234 rfl) rfl) <|
  fm_c (am_pm0 (am_t8 238 rfl) rfl) <|
  fm_c (am_pm0 (am_t9 2 rfl) rfl) <|
  fm_c (am_pm0 (am_t9 6 rfl) rfl) <|
  fm_c (am_pm0 (am_t9 10 rfl) rfl) <|
  fm_c (am_pm1001 (am_t9 14 rfl)) <|
  fm_c (am_pm0 (am_t9 15 rfl) rfl) <|
  fm_c (am_pm0 (am_t9 19 rfl) rfl) <|
  fm_c (am_pm0 (am_t9 23 rfl) rfl) <|
  fm_c (am_pm0 (am_t9 27 rfl) rfl) <|
  fm_c (am_pm0 (am_t9 31 rfl) rfl) <|
  fm_c (am_pm0 (am_t9 35 rfl) rfl) <|
  fm_c (am_pm0 (am_t9 39 rfl) rfl) <|
  fm_c (am_pm0 (am_t9 43 rfl) rfl) <|
  fm_c (am_pm0 (am_t9 47 rfl) rfl) <|
  fm_c (am_pm0 (am_t9 52 rfl) rfl) <|
  fm_c (am_pm0 (am_t9 56 rfl) rfl) <|
  fm_c (am_pm0 (am_t9 60 rfl) rfl) <|
  fm_c (am_pm0 (am_t9 64 rfl) rfl) <|
  fm_c (am_pm0 (am_t9 68 rfl) rfl) <|
  fm_c (am_pm0 (am_t9 72 rfl) rfl) <|
  fm_c (am_pm0 (am_t9 76 rfl) rfl) <|
  fm_c (am_pm0 (am_t9 81 rfl) rfl) <|
  fm_c (am_pm0 (am_t9 85 rfl) rfl) <|
  fm_c (am_pm0 (am_t9 89 rfl) rfl) <|
  fm_c (am_pm3 (am_t9 93 rfl) rfl) <|
  fm_c (am_pm0 (am_t9 96 rfl) rfl) <|
  fm_c (am_pm0 (am_t9 100 rfl) rfl) <|
  fm_c (am_pm0 (am_t9 104 rfl) rfl) <|
  fm_c (am_pm0 (am_t9 108 rfl) rfl) <|
  fm_c (am_pm0 (am_t9 113 rfl) rfl) <|
  fm_c (am_pm0 (am_t9 118 rfl) rfl) <|
  fm_c (am_pm0 (am_t9 122 rfl) rfl) <|
  fm_c (am_pm0 (am_t9 126 rfl) rfl) <|
  fm_c (am_pm0 (am_t9 130 rfl) rfl) <|
  fm_c (am_pm0 (am_t9 134 rfl) rfl) <|
  fm_c (am_pm0 (am_t9 138 rfl) rfl) <|
  fm_c (am_pm0 (am_t9 142 rfl) rfl) <|
  fm_n
set_option maxRecDepth 100000 in
theorem am_M_ok10 : ∀ e ∈ am_M_10, am_PM e :=
  fm_c (am_pm0 (am_t9 146 rfl) rfl) <|
  fm_c (am_pm0 (am_t9 150 rfl) rfl) <|
  fm_c (am_pm0 (am_t9 154 rfl) rfl) <|
  fm_c (am_pm0 (am_t9 158 rfl) rfl) <|
  fm_c (am_pm0 (am_t9 162 rfl) rfl) <|
  fm_c (am_pm0 (am_t9 166 rfl) rfl) <|
  fm_c (am_pm0 (am_t9 170 rfl) rfl) <|
  fm_c (am_pm0 (am_t9 174 rfl) rfl) <|
  fm_c (am_pm0 (am_t9 178 rfl) rfl) <|
  fm_c (am_pm0 (am_t9 182 rfl) rfl) <|
  fm_c (am_pm0 (am_t9 186 rfl) rfl) <|
  fm_c (am_pm0 (am_t9 190 rfl) rfl) <|
  fm_c (am_pm0 (am_t9 194 rfl) rfl) <|
  fm_c (am_pm0 (am_t9 198 rfl) rfl) <|
  fm_c (am_pm0 (am_t9 202 rfl) rfl) <|
  fm_c (am_pm0 (am_t9 206 rfl) rfl) <|
  fm_c (am_pm0 (am_t9 210 rfl) rfl) <|
  fm_c (am_pm0 (am_t9 214 rfl) rfl) <|
  fm_c (am_pm0 (am_t9 218 rfl) rfl) <|
  fm_c (am_pm0 (am_t9 222 rfl) rfl) <|
  fm_c (am_pm0 (am_t9 226 rfl) rfl) <|
  fm_c (am_pm0 (am_t9 230 rfl) rfl) <|
  fm_c (am_pm0 (am_t9 234 rfl) rfl) <|
  fm_c (am_pm0 (am_t9 238 rfl) rfl) <|
  fm_c (am_pm0 (am_t10 2 rfl) rfl) <|
  fm_c (am_pm0 (am_t10 6 rfl) rfl) <|
  fm_c (am_pm0 (am_t10 10 rfl) rfl) <|
  fm_c (am_pm0 (am_t10 14 rfl) rfl) <|
  fm_c (am_pm0 (am_t10 18 rfl) rfl) <|
  fm_c (am_pm0 (am_t10 22 rfl) rfl) <|
  fm_c (am_pm0 (am_t10 27 rfl) rfl) <|
  fm_c (am_pm0 (am_t10 31 rfl) rfl) <|
  fm_c (am_pm0 (am_t10 36 rfl) rfl) <|
  fm_c (am_pm0 (am_t10 40 rfl) rfl) <|
  fm_c (am_pm0 (am_t10 44 rfl) rfl) <|
  fm_n
theorem am_M_ok : ∀ e ∈ am_M, am_PM e := fm_a am_M_ok0 (fm_a am_M_ok1 (fm_a am_M_ok2 (fm_a am_M_ok3 (fm_a am_M_ok4 (fm_a am_M_ok5 (fm_a am_M_ok6 (fm_a am_M_ok7 (fm_a am_M_ok8 (fm_a am_M_ok9 (am_M_ok10))))))))))
set_option maxRecDepth 100000 in
theorem am_NW_ok0 : ∀ e ∈ am_NW_0, am_PN e :=
  fm_c (am_t1 21 rfl) <|
  fm_c (am_t1 29 rfl) <|
  fm_c (am_t1 31 rfl) <|
  fm_c (am_t1 102 rfl) <|
  fm_c (am_t1 108 rfl) <|
  fm_c (am_t1 110 rfl) <|
  fm_c (am_t1 112 rfl) <|
  fm_c (am_t2 75 rfl) <|
  fm_c (am_t2 118 rfl) <|
  fm_c (am_t2 124 rfl) <|
  fm_c (am_t2 137 rfl) <|
  fm_c (am_t2 143 rfl) <|
  fm_c (am_t2 162 rfl) <|
  fm_c (am_t2 168 rfl) <|
  fm_c (am_t2 170 rfl) <|
  fm_c (am_t2 207 rfl) <|
  fm_c (am_t6 219 rfl) <|
  fm_n
theorem am_NW_ok : ∀ e ∈ am_NW, am_PN e := am_NW_ok0
set_option maxRecDepth 100000 in
theorem am_CI_ok0 : ∀ e ∈ am_CI_0, am_PI e :=
  fm_c (am_t5 189 rfl) <|
  fm_c (am_t5 190 rfl) <|
  fm_c (am_t5 191 rfl) <|
  fm_c (am_t6 202 rfl) <|
  fm_c (am_t10 26 rfl) <|
  fm_n
theorem am_CI_ok : ∀ e ∈ am_CI, am_PI e := am_CI_ok0
set_option maxRecDepth 100000 in
theorem am_CL_ok0 : ∀ e ∈ am_CL_0, am_PL e :=
  fm_c (am_t3 151 rfl) <|
  fm_c (am_t3 217 rfl) <|
  fm_c (am_t6 136 rfl) <|
  fm_c (am_t7 169 rfl) <|
  fm_c (am_t7 205 rfl) <|
  fm_c (am_t7 206 rfl) <|
  fm_c (am_t8 41 rfl) <|
  fm_c (am_t8 97 rfl) <|
  fm_c (am_t8 156 rfl) <|
  fm_c (am_t8 177 rfl) <|
  fm_c (am_t8 214 rfl) <|
  fm_c (am_t9 51 rfl) <|
  fm_c (am_t9 80 rfl) <|
  fm_c (am_t9 112 rfl) <|
  fm_c (am_t9 117 rfl) <|
  fm_c (am_t10 35 rfl) <|
  fm_c (am_t10 48 rfl) <|
  fm_n
theorem am_CL_ok : ∀ e ∈ am_CL, am_PL e := am_CL_ok0
noncomputable def am_ar (q : Nat) : Nat := bif Nat.blt q 177 then (bif Nat.blt q 88 then (bif Nat.blt q 44 then (bif Nat.blt q 22 then (bif Nat.blt q 11 then (bif Nat.blt q 5 then (bif Nat.blt q 2 then (bif Nat.blt q 1 then (0) else (2)) else (bif Nat.blt q 3 then (1) else (bif Nat.blt q 4 then (0) else (2)))) else (bif Nat.blt q 8 then (bif Nat.blt q 6 then (0) else (bif Nat.blt q 7 then (0) else (1))) else (bif Nat.blt q 9 then (2) else (bif Nat.blt q 10 then (1) else (0))))) else (bif Nat.blt q 16 then (bif Nat.blt q 13 then (bif Nat.blt q 12 then (0) else (1)) else (bif Nat.blt q 14 then (2) else (bif Nat.blt q 15 then (2) else (3)))) else (bif Nat.blt q 19 then (bif Nat.blt q 17 then (1) else (bif Nat.blt q 18 then (1) else (0))) else (bif Nat.blt q 20 then (3) else (bif Nat.blt q 21 then (2) else (3)))))) else (bif Nat.blt q 33 then (bif Nat.blt q 27 then (bif Nat.blt q 24 then (bif Nat.blt q 23 then (3) else (1)) else (bif Nat.blt q 25 then (2) else (bif Nat.blt q 26 then (3) else (1)))) else (bif Nat.blt q 30 then (bif Nat.blt q 28 then (2) else (bif Nat.blt q 29 then (1) else (1))) else (bif Nat.blt q 31 then (0) else (bif Nat.blt q 32 then (2) else (1))))) else (bif Nat.blt q 38 then (bif Nat.blt q 35 then (bif Nat.blt q 34 then (1) else (0)) else (bif Nat.blt q 36 then (1) else (bif Nat.blt q 37 then (0) else (0)))) else (bif Nat.blt q 41 then (bif Nat.blt q 39 then (0) else (bif Nat.blt q 40 then (1) else (1))) else (bif Nat.blt q 42 then (1) else (bif Nat.blt q 43 then (3) else (0))))))) else (bif Nat.blt q 66 then (bif Nat.blt q 55 then (bif Nat.blt q 49 then (bif Nat.blt q 46 then (bif Nat.blt q 45 then (2) else (1)) else (bif Nat.blt q 47 then (0) else (bif Nat.blt q 48 then (0) else (1)))) else (bif Nat.blt q 52 then (bif Nat.blt q 50 then (1) else (bif Nat.blt q 51 then (1) else (1))) else (bif Nat.blt q 53 then (1) else (bif Nat.blt q 54 then (3) else (0))))) else (bif Nat.blt q 60 then (bif Nat.blt q 57 then (bif Nat.blt q 56 then (0) else (1)) else (bif Nat.blt q 58 then (0) else (bif Nat.blt q 59 then (0) else (1)))) else (bif Nat.blt q 63 then (bif Nat.blt q 61 then (1) else (bif Nat.blt q 62 then (1) else (2))) else (bif Nat.blt q 64 then (2) else (bif Nat.blt q 65 then (1) else (0)))))) else (bif Nat.blt q 77 then (bif Nat.blt q 71 then (bif Nat.blt q 68 then (bif Nat.blt q 67 then (0) else (2)) else (bif Nat.blt q 69 then (1) else (bif Nat.blt q 70 then (2) else (2)))) else (bif Nat.blt q 74 then (bif Nat.blt q 72 then (1) else (bif Nat.blt q 73 then (4) else (0))) else (bif Nat.blt q 75 then (3) else (bif Nat.blt q 76 then (3) else (2))))) else (bif Nat.blt q 82 then (bif Nat.blt q 79 then (bif Nat.blt q 78 then (3) else (1)) else (bif Nat.blt q 80 then (2) else (bif Nat.blt q 81 then (2) else (2)))) else (bif Nat.blt q 85 then (bif Nat.blt q 83 then (3) else (bif Nat.blt q 84 then (3) else (3))) else (bif Nat.blt q 86 then (3) else (bif Nat.blt q 87 then (2) else (0)))))))) else (bif Nat.blt q 132 then (bif Nat.blt q 110 then (bif Nat.blt q 99 then (bif Nat.blt q 93 then (bif Nat.blt q 90 then (bif Nat.blt q 89 then (0) else (1)) else (bif Nat.blt q 91 then (1) else (bif Nat.blt q 92 then (1) else (1)))) else (bif Nat.blt q 96 then (bif Nat.blt q 94 then (1) else (bif Nat.blt q 95 then (1) else (1))) else (bif Nat.blt q 97 then (1) else (bif Nat.blt q 98 then (1) else (1))))) else (bif Nat.blt q 104 then (bif Nat.blt q 101 then (bif Nat.blt q 100 then (0) else (0)) else (bif Nat.blt q 102 then (0) else (bif Nat.blt q 103 then (0) else (1)))) else (bif Nat.blt q 107 then (bif Nat.blt q 105 then (2) else (bif Nat.blt q 106 then (0) else (1))) else (bif Nat.blt q 108 then (2) else (bif Nat.blt q 109 then (2) else (1)))))) else (bif Nat.blt q 121 then (bif Nat.blt q 115 then (bif Nat.blt q 112 then (bif Nat.blt q 111 then (0) else (2)) else (bif Nat.blt q 113 then (1) else (bif Nat.blt q 114 then (2) else (2)))) else (bif Nat.blt q 118 then (bif Nat.blt q 116 then (1) else (bif Nat.blt q 117 then (1) else (1))) else (bif Nat.blt q 119 then (1) else (bif Nat.blt q 120 then (0) else (1))))) else (bif Nat.blt q 126 then (bif Nat.blt q 123 then (bif Nat.blt q 122 then (0) else (1)) else (bif Nat.blt q 124 then (0) else (bif Nat.blt q 125 then (2) else (0)))) else (bif Nat.blt q 129 then (bif Nat.blt q 127 then (0) else (bif Nat.blt q 128 then (1) else (0))) else (bif Nat.blt q 130 then (1) else (bif Nat.blt q 131 then (1) else (0))))))) else (bif Nat.blt q 154 then (bif Nat.blt q 143 then (bif Nat.blt q 137 then (bif Nat.blt q 134 then (bif Nat.blt q 133 then (1) else (1)) else (bif Nat.blt q 135 then (3) else (bif Nat.blt q 136 then (2) else (0)))) else (bif Nat.blt q 140 then (bif Nat.blt q 138 then (0) else (bif Nat.blt q 139 then (0) else (3))) else (bif Nat.blt q 141 then (2) else (bif Nat.blt q 142 then (3) else (2))))) else (bif Nat.blt q 148 then (bif Nat.blt q 145 then (bif Nat.blt q 144 then (5) else (5)) else (bif Nat.blt q 146 then (1) else (bif Nat.blt q 147 then (1) else (1)))) else (bif Nat.blt q 151 then (bif Nat.blt q 149 then (1) else (bif Nat.blt q 150 then (2) else (2))) else (bif Nat.blt q 152 then (2) else (bif Nat.blt q 153 then (2) else (2)))))) else (bif Nat.blt q 165 then (bif Nat.blt q 159 then (bif Nat.blt q 156 then (bif Nat.blt q 155 then (0) else (0)) else (bif Nat.blt q 157 then (0) else (bif Nat.blt q 158 then (2) else (1)))) else (bif Nat.blt q 162 then (bif Nat.blt q 160 then (0) else (bif Nat.blt q 161 then (1) else (2))) else (bif Nat.blt q 163 then (1) else (bif Nat.blt q 164 then (1) else (2))))) else (bif Nat.blt q 171 then (bif Nat.blt q 168 then (bif Nat.blt q 166 then (2) else (bif Nat.blt q 167 then (2) else (0))) else (bif Nat.blt q 169 then (1) else (bif Nat.blt q 170 then (2) else (3)))) else (bif Nat.blt q 174 then (bif Nat.blt q 172 then (2) else (bif Nat.blt q 173 then (3) else (2))) else (bif Nat.blt q 175 then (0) else (bif Nat.blt q 176 then (2) else (1))))))))) else (bif Nat.blt q 266 then (bif Nat.blt q 221 then (bif Nat.blt q 199 then (bif Nat.blt q 188 then (bif Nat.blt q 182 then (bif Nat.blt q 179 then (bif Nat.blt q 178 then (1) else (1)) else (bif Nat.blt q 180 then (1) else (bif Nat.blt q 181 then (2) else (0)))) else (bif Nat.blt q 185 then (bif Nat.blt q 183 then (0) else (bif Nat.blt q 184 then (3) else (2))) else (bif Nat.blt q 186 then (2) else (bif Nat.blt q 187 then (2) else (1))))) else (bif Nat.blt q 193 then (bif Nat.blt q 190 then (bif Nat.blt q 189 then (1) else (4)) else (bif Nat.blt q 191 then (4) else (bif Nat.blt q 192 then (1) else (1)))) else (bif Nat.blt q 196 then (bif Nat.blt q 194 then (2) else (bif Nat.blt q 195 then (0) else (0))) else (bif Nat.blt q 197 then (0) else (bif Nat.blt q 198 then (0) else (0)))))) else (bif Nat.blt q 210 then (bif Nat.blt q 204 then (bif Nat.blt q 201 then (bif Nat.blt q 200 then (0) else (1)) else (bif Nat.blt q 202 then (1) else (bif Nat.blt q 203 then (3) else (2)))) else (bif Nat.blt q 207 then (bif Nat.blt q 205 then (2) else (bif Nat.blt q 206 then (3) else (1))) else (bif Nat.blt q 208 then (2) else (bif Nat.blt q 209 then (3) else (2))))) else (bif Nat.blt q 215 then (bif Nat.blt q 212 then (bif Nat.blt q 211 then (5) else (2)) else (bif Nat.blt q 213 then (1) else (bif Nat.blt q 214 then (2) else (1)))) else (bif Nat.blt q 218 then (bif Nat.blt q 216 then (1) else (bif Nat.blt q 217 then (1) else (1))) else (bif Nat.blt q 219 then (1) else (bif Nat.blt q 220 then (0) else (1))))))) else (bif Nat.blt q 243 then (bif Nat.blt q 232 then (bif Nat.blt q 226 then (bif Nat.blt q 223 then (bif Nat.blt q 222 then (6) else (1)) else (bif Nat.blt q 224 then (0) else (bif Nat.blt q 225 then (0) else (0)))) else (bif Nat.blt q 229 then (bif Nat.blt q 227 then (0) else (bif Nat.blt q 228 then (0) else (0))) else (bif Nat.blt q 230 then (0) else (bif Nat.blt q 231 then (0) else (0))))) else (bif Nat.blt q 237 then (bif Nat.blt q 234 then (bif Nat.blt q 233 then (0) else (0)) else (bif Nat.blt q 235 then (0) else (bif Nat.blt q 236 then (0) else (0)))) else (bif Nat.blt q 240 then (bif Nat.blt q 238 then (0) else (bif Nat.blt q 239 then (0) else (0))) else (bif Nat.blt q 241 then (0) else (bif Nat.blt q 242 then (0) else (0)))))) else (bif Nat.blt q 254 then (bif Nat.blt q 248 then (bif Nat.blt q 245 then (bif Nat.blt q 244 then (2) else (0)) else (bif Nat.blt q 246 then (1) else (bif Nat.blt q 247 then (2) else (3)))) else (bif Nat.blt q 251 then (bif Nat.blt q 249 then (5) else (bif Nat.blt q 250 then (1) else (2))) else (bif Nat.blt q 252 then (0) else (bif Nat.blt q 253 then (1) else (2))))) else (bif Nat.blt q 260 then (bif Nat.blt q 257 then (bif Nat.blt q 255 then (1) else (bif Nat.blt q 256 then (2) else (0))) else (bif Nat.blt q 258 then (0) else (bif Nat.blt q 259 then (0) else (0)))) else (bif Nat.blt q 263 then (bif Nat.blt q 261 then (0) else (bif Nat.blt q 262 then (1) else (1))) else (bif Nat.blt q 264 then (1) else (bif Nat.blt q 265 then (1) else (1)))))))) else (bif Nat.blt q 310 then (bif Nat.blt q 288 then (bif Nat.blt q 277 then (bif Nat.blt q 271 then (bif Nat.blt q 268 then (bif Nat.blt q 267 then (1) else (1)) else (bif Nat.blt q 269 then (1) else (bif Nat.blt q 270 then (1) else (2)))) else (bif Nat.blt q 274 then (bif Nat.blt q 272 then (1) else (bif Nat.blt q 273 then (0) else (0))) else (bif Nat.blt q 275 then (1) else (bif Nat.blt q 276 then (2) else (2))))) else (bif Nat.blt q 282 then (bif Nat.blt q 279 then (bif Nat.blt q 278 then (2) else (2)) else (bif Nat.blt q 280 then (2) else (bif Nat.blt q 281 then (0) else (0)))) else (bif Nat.blt q 285 then (bif Nat.blt q 283 then (0) else (bif Nat.blt q 284 then (2) else (0))) else (bif Nat.blt q 286 then (1) else (bif Nat.blt q 287 then (1) else (1)))))) else (bif Nat.blt q 299 then (bif Nat.blt q 293 then (bif Nat.blt q 290 then (bif Nat.blt q 289 then (1) else (4)) else (bif Nat.blt q 291 then (3) else (bif Nat.blt q 292 then (3) else (0)))) else (bif Nat.blt q 296 then (bif Nat.blt q 294 then (1) else (bif Nat.blt q 295 then (1) else (0))) else (bif Nat.blt q 297 then (1) else (bif Nat.blt q 298 then (2) else (1))))) else (bif Nat.blt q 304 then (bif Nat.blt q 301 then (bif Nat.blt q 300 then (1) else (2)) else (bif Nat.blt q 302 then (2) else (bif Nat.blt q 303 then (2) else (1)))) else (bif Nat.blt q 307 then (bif Nat.blt q 305 then (0) else (bif Nat.blt q 306 then (0) else (1))) else (bif Nat.blt q 308 then (1) else (bif Nat.blt q 309 then (1) else (0))))))) else (bif Nat.blt q 332 then (bif Nat.blt q 321 then (bif Nat.blt q 315 then (bif Nat.blt q 312 then (bif Nat.blt q 311 then (0) else (2)) else (bif Nat.blt q 313 then (3) else (bif Nat.blt q 314 then (2) else (2)))) else (bif Nat.blt q 318 then (bif Nat.blt q 316 then (2) else (bif Nat.blt q 317 then (3) else (2))) else (bif Nat.blt q 319 then (0) else (bif Nat.blt q 320 then (2) else (2))))) else (bif Nat.blt q 326 then (bif Nat.blt q 323 then (bif Nat.blt q 322 then (1) else (4)) else (bif Nat.blt q 324 then (1) else (bif Nat.blt q 325 then (1) else (1)))) else (bif Nat.blt q 329 then (bif Nat.blt q 327 then (2) else (bif Nat.blt q 328 then (0) else (0))) else (bif Nat.blt q 330 then (1) else (bif Nat.blt q 331 then (1) else (0)))))) else (bif Nat.blt q 343 then (bif Nat.blt q 337 then (bif Nat.blt q 334 then (bif Nat.blt q 333 then (2) else (2)) else (bif Nat.blt q 335 then (2) else (bif Nat.blt q 336 then (1) else (1)))) else (bif Nat.blt q 340 then (bif Nat.blt q 338 then (4) else (bif Nat.blt q 339 then (4) else (1))) else (bif Nat.blt q 341 then (0) else (bif Nat.blt q 342 then (1) else (1))))) else (bif Nat.blt q 349 then (bif Nat.blt q 346 then (bif Nat.blt q 344 then (1) else (bif Nat.blt q 345 then (1) else (2))) else (bif Nat.blt q 347 then (1) else (bif Nat.blt q 348 then (1) else (1)))) else (bif Nat.blt q 352 then (bif Nat.blt q 350 then (2) else (bif Nat.blt q 351 then (2) else (0))) else (bif Nat.blt q 353 then (0) else (bif Nat.blt q 354 then (1) else (1)))))))))
def am_law : Nat := 354
/-- a method's own words: its code, how it is called, that its owner is ready -/
def am_PP (y : Nat) : Prop := (am_nm y).cls = am_cn (am_inf y).1 ∧ plainName (am_nm y).cls = true ∧ Cond.code (am_nm y) (am_bc y) (am_inf y).2.2.1 (am_rt y) ∈ lw_tbl ∧ Cond.initialized (am_nm y).cls ∈ lw_tbl ∧ (am_inf y).2.2.1 ≤ 60 ∧ ((am_inf y).2.1 = true → (am_nm y).name = "<init>") ∧
  (Cond.static (am_nm y) ∈ lw_tbl ∨ (Cond.instanceMethod (am_nm y) ∈ lw_tbl ∧ ((am_inf y).2.1 = true ∨ Cond.selects (am_nm y).cls (am_nm y) (am_nm y) ∈ lw_tbl))) ∧ ((am_nm y).cls ≠ "java/lang/invoke/MethodHandle" ∧ (am_nm y).cls ≠ "java/lang/invoke/VarHandle") ∧ ∀ k, (parseMethodDescriptor (am_nm y).desc).map (fun d => d.parameters.length) = some k ↔ k = am_ar y
theorem am_pp0 : am_PP 0 := ⟨rfl, by decide +kernel, am_t1 180 rfl, am_t1 6 rfl, Nat.le_of_ble_eq_true rfl, fun _ => rfl, Or.inr ⟨am_t1 179 rfl, Or.inl rfl⟩, ⟨by decide +kernel, by decide +kernel⟩, fun k => ⟨fun h => (Option.some.inj h).symm, fun h => h ▸ rfl⟩⟩
theorem am_pp1 : am_PP 1 := ⟨rfl, by decide +kernel, am_t4 132 rfl, am_t1 6 rfl, Nat.le_of_ble_eq_true rfl, (fun h => absurd h (by decide +kernel)), Or.inr ⟨am_t4 130 rfl, Or.inr (am_t4 131 rfl)⟩, ⟨by decide +kernel, by decide +kernel⟩, fun k => ⟨fun h => (Option.some.inj h).symm, fun h => h ▸ rfl⟩⟩
theorem am_pp2 : am_PP 2 := ⟨rfl, by decide +kernel, am_t4 161 rfl, am_t1 6 rfl, Nat.le_of_ble_eq_true rfl, (fun h => absurd h (by decide +kernel)), Or.inr ⟨am_t4 159 rfl, Or.inr (am_t4 160 rfl)⟩, ⟨by decide +kernel, by decide +kernel⟩, fun k => ⟨fun h => (Option.some.inj h).symm, fun h => h ▸ rfl⟩⟩
theorem am_pp3 : am_PP 3 := ⟨rfl, by decide +kernel, am_t5 185 rfl, am_t1 6 rfl, Nat.le_of_ble_eq_true rfl, (fun h => absurd h (by decide +kernel)), Or.inr ⟨am_t5 183 rfl, Or.inr (am_t5 184 rfl)⟩, ⟨by decide +kernel, by decide +kernel⟩, fun k => ⟨fun h => (Option.some.inj h).symm, fun h => h ▸ rfl⟩⟩
theorem am_pp4 : am_PP 4 := ⟨rfl, by decide +kernel, am_t5 123 rfl, am_t1 6 rfl, Nat.le_of_ble_eq_true rfl, (fun h => absurd h (by decide +kernel)), Or.inr ⟨am_t5 121 rfl, Or.inr (am_t5 122 rfl)⟩, ⟨by decide +kernel, by decide +kernel⟩, fun k => ⟨fun h => (Option.some.inj h).symm, fun h => h ▸ rfl⟩⟩
theorem am_pp5 : am_PP 5 := ⟨rfl, by decide +kernel, am_t2 79 rfl, am_t1 7 rfl, Nat.le_of_ble_eq_true rfl, fun _ => rfl, Or.inr ⟨am_t2 78 rfl, Or.inl rfl⟩, ⟨by decide +kernel, by decide +kernel⟩, fun k => ⟨fun h => (Option.some.inj h).symm, fun h => h ▸ rfl⟩⟩
theorem am_pp6 : am_PP 6 := ⟨rfl, by decide +kernel, am_t4 165 rfl, am_t1 7 rfl, Nat.le_of_ble_eq_true rfl, (fun h => absurd h (by decide +kernel)), Or.inr ⟨am_t4 163 rfl, Or.inr (am_t4 164 rfl)⟩, ⟨by decide +kernel, by decide +kernel⟩, fun k => ⟨fun h => (Option.some.inj h).symm, fun h => h ▸ rfl⟩⟩
theorem am_pp7 : am_PP 7 := ⟨rfl, by decide +kernel, am_t4 224 rfl, am_t1 7 rfl, Nat.le_of_ble_eq_true rfl, (fun h => absurd h (by decide +kernel)), Or.inr ⟨am_t4 222 rfl, Or.inr (am_t4 223 rfl)⟩, ⟨by decide +kernel, by decide +kernel⟩, fun k => ⟨fun h => (Option.some.inj h).symm, fun h => h ▸ rfl⟩⟩
theorem am_pp8 : am_PP 8 := ⟨rfl, by decide +kernel, am_t2 141 rfl, am_t1 9 rfl, Nat.le_of_ble_eq_true rfl, fun _ => rfl, Or.inr ⟨am_t2 140 rfl, Or.inl rfl⟩, ⟨by decide +kernel, by decide +kernel⟩, fun k => ⟨fun h => (Option.some.inj h).symm, fun h => h ▸ rfl⟩⟩
theorem am_pp9 : am_PP 9 := ⟨rfl, by decide +kernel, am_t4 177 rfl, am_t1 9 rfl, Nat.le_of_ble_eq_true rfl, (fun h => absurd h (by decide +kernel)), Or.inr ⟨am_t4 175 rfl, Or.inr (am_t4 176 rfl)⟩, ⟨by decide +kernel, by decide +kernel⟩, fun k => ⟨fun h => (Option.some.inj h).symm, fun h => h ▸ rfl⟩⟩
theorem am_pp10 : am_PP 10 := ⟨rfl, by decide +kernel, am_t4 184 rfl, am_t1 9 rfl, Nat.le_of_ble_eq_true rfl, (fun h => absurd h (by decide +kernel)), Or.inr ⟨am_t4 183 rfl, Or.inr (am_t0 25 rfl)⟩, ⟨by decide +kernel, by decide +kernel⟩, fun k => ⟨fun h => (Option.some.inj h).symm, fun h => h ▸ rfl⟩⟩
theorem am_pp11 : am_PP 11 := ⟨rfl, by decide +kernel, am_t4 190 rfl, am_t1 9 rfl, Nat.le_of_ble_eq_true rfl, (fun h => absurd h (by decide +kernel)), Or.inr ⟨am_t4 189 rfl, Or.inr (am_t0 26 rfl)⟩, ⟨by decide +kernel, by decide +kernel⟩, fun k => ⟨fun h => (Option.some.inj h).symm, fun h => h ▸ rfl⟩⟩
theorem am_pp12 : am_PP 12 := ⟨rfl, by decide +kernel, am_t4 194 rfl, am_t1 9 rfl, Nat.le_of_ble_eq_true rfl, (fun h => absurd h (by decide +kernel)), Or.inr ⟨am_t4 193 rfl, Or.inr (am_t0 27 rfl)⟩, ⟨by decide +kernel, by decide +kernel⟩, fun k => ⟨fun h => (Option.some.inj h).symm, fun h => h ▸ rfl⟩⟩
theorem am_pp13 : am_PP 13 := ⟨rfl, by decide +kernel, am_t4 198 rfl, am_t1 9 rfl, Nat.le_of_ble_eq_true rfl, (fun h => absurd h (by decide +kernel)), Or.inr ⟨am_t4 197 rfl, Or.inr (am_t0 28 rfl)⟩, ⟨by decide +kernel, by decide +kernel⟩, fun k => ⟨fun h => (Option.some.inj h).symm, fun h => h ▸ rfl⟩⟩
theorem am_pp14 : am_PP 14 := ⟨rfl, by decide +kernel, am_t4 203 rfl, am_t1 9 rfl, Nat.le_of_ble_eq_true rfl, (fun h => absurd h (by decide +kernel)), Or.inr ⟨am_t4 202 rfl, Or.inr (am_t0 29 rfl)⟩, ⟨by decide +kernel, by decide +kernel⟩, fun k => ⟨fun h => (Option.some.inj h).symm, fun h => h ▸ rfl⟩⟩
theorem am_pp15 : am_PP 15 := ⟨rfl, by decide +kernel, am_t4 209 rfl, am_t1 9 rfl, Nat.le_of_ble_eq_true rfl, (fun h => absurd h (by decide +kernel)), Or.inr ⟨am_t4 208 rfl, Or.inr (am_t0 30 rfl)⟩, ⟨by decide +kernel, by decide +kernel⟩, fun k => ⟨fun h => (Option.some.inj h).symm, fun h => h ▸ rfl⟩⟩
theorem am_pp16 : am_PP 16 := ⟨rfl, by decide +kernel, am_t4 214 rfl, am_t1 9 rfl, Nat.le_of_ble_eq_true rfl, (fun h => absurd h (by decide +kernel)), Or.inr ⟨am_t4 213 rfl, Or.inr (am_t0 31 rfl)⟩, ⟨by decide +kernel, by decide +kernel⟩, fun k => ⟨fun h => (Option.some.inj h).symm, fun h => h ▸ rfl⟩⟩
theorem am_pp17 : am_PP 17 := ⟨rfl, by decide +kernel, am_t4 220 rfl, am_t1 9 rfl, Nat.le_of_ble_eq_true rfl, (fun h => absurd h (by decide +kernel)), Or.inr ⟨am_t4 219 rfl, Or.inr (am_t0 32 rfl)⟩, ⟨by decide +kernel, by decide +kernel⟩, fun k => ⟨fun h => (Option.some.inj h).symm, fun h => h ▸ rfl⟩⟩
theorem am_pp18 : am_PP 18 := ⟨rfl, by decide +kernel, am_t2 211 rfl, am_t1 11 rfl, Nat.le_of_ble_eq_true rfl, fun _ => rfl, Or.inr ⟨am_t2 210 rfl, Or.inl rfl⟩, ⟨by decide +kernel, by decide +kernel⟩, fun k => ⟨fun h => (Option.some.inj h).symm, fun h => h ▸ rfl⟩⟩
theorem am_pp19 : am_PP 19 := ⟨rfl, by decide +kernel, am_t6 150 rfl, am_t1 11 rfl, Nat.le_of_ble_eq_true rfl, (fun h => absurd h (by decide +kernel)), Or.inr ⟨am_t6 148 rfl, Or.inr (am_t6 149 rfl)⟩, ⟨by decide +kernel, by decide +kernel⟩, fun k => ⟨fun h => (Option.some.inj h).symm, fun h => h ▸ rfl⟩⟩
theorem am_pp20 : am_PP 20 := ⟨rfl, by decide +kernel, am_t6 155 rfl, am_t1 11 rfl, Nat.le_of_ble_eq_true rfl, (fun h => absurd h (by decide +kernel)), Or.inr ⟨am_t6 154 rfl, Or.inr (am_t0 45 rfl)⟩, ⟨by decide +kernel, by decide +kernel⟩, fun k => ⟨fun h => (Option.some.inj h).symm, fun h => h ▸ rfl⟩⟩
theorem am_pp21 : am_PP 21 := ⟨rfl, by decide +kernel, am_t6 163 rfl, am_t1 11 rfl, Nat.le_of_ble_eq_true rfl, (fun h => absurd h (by decide +kernel)), Or.inr ⟨am_t6 162 rfl, Or.inr (am_t0 47 rfl)⟩, ⟨by decide +kernel, by decide +kernel⟩, fun k => ⟨fun h => (Option.some.inj h).symm, fun h => h ▸ rfl⟩⟩
theorem am_pp22 : am_PP 22 := ⟨rfl, by decide +kernel, am_t6 159 rfl, am_t1 11 rfl, Nat.le_of_ble_eq_true rfl, (fun h => absurd h (by decide +kernel)), Or.inr ⟨am_t6 158 rfl, Or.inr (am_t0 46 rfl)⟩, ⟨by decide +kernel, by decide +kernel⟩, fun k => ⟨fun h => (Option.some.inj h).symm, fun h => h ▸ rfl⟩⟩
theorem am_pp23 : am_PP 23 := ⟨rfl, by decide +kernel, am_t6 180 rfl, am_t1 11 rfl, Nat.le_of_ble_eq_true rfl, (fun h => absurd h (by decide +kernel)), Or.inr ⟨am_t6 179 rfl, Or.inr (am_t0 50 rfl)⟩, ⟨by decide +kernel, by decide +kernel⟩, fun k => ⟨fun h => (Option.some.inj h).symm, fun h => h ▸ rfl⟩⟩
theorem am_pp24 : am_PP 24 := ⟨rfl, by decide +kernel, am_t6 167 rfl, am_t1 11 rfl, Nat.le_of_ble_eq_true rfl, (fun h => absurd h (by decide +kernel)), Or.inr ⟨am_t6 166 rfl, Or.inr (am_t0 48 rfl)⟩, ⟨by decide +kernel, by decide +kernel⟩, fun k => ⟨fun h => (Option.some.inj h).symm, fun h => h ▸ rfl⟩⟩
theorem am_pp25 : am_PP 25 := ⟨rfl, by decide +kernel, am_t6 173 rfl, am_t1 11 rfl, Nat.le_of_ble_eq_true rfl, (fun h => absurd h (by decide +kernel)), Or.inr ⟨am_t6 172 rfl, Or.inr (am_t0 49 rfl)⟩, ⟨by decide +kernel, by decide +kernel⟩, fun k => ⟨fun h => (Option.some.inj h).symm, fun h => h ▸ rfl⟩⟩
theorem am_pp26 : am_PP 26 := ⟨rfl, by decide +kernel, am_t6 184 rfl, am_t1 11 rfl, Nat.le_of_ble_eq_true rfl, (fun h => absurd h (by decide +kernel)), Or.inr ⟨am_t6 183 rfl, Or.inr (am_t0 51 rfl)⟩, ⟨by decide +kernel, by decide +kernel⟩, fun k => ⟨fun h => (Option.some.inj h).symm, fun h => h ▸ rfl⟩⟩
theorem am_pp27 : am_PP 27 := ⟨rfl, by decide +kernel, am_t6 190 rfl, am_t1 11 rfl, Nat.le_of_ble_eq_true rfl, (fun h => absurd h (by decide +kernel)), Or.inr ⟨am_t6 189 rfl, Or.inr (am_t0 52 rfl)⟩, ⟨by decide +kernel, by decide +kernel⟩, fun k => ⟨fun h => (Option.some.inj h).symm, fun h => h ▸ rfl⟩⟩
theorem am_pp28 : am_PP 28 := ⟨rfl, by decide +kernel, am_t6 197 rfl, am_t1 11 rfl, Nat.le_of_ble_eq_true rfl, (fun h => absurd h (by decide +kernel)), Or.inr ⟨am_t6 196 rfl, Or.inr (am_t0 53 rfl)⟩, ⟨by decide +kernel, by decide +kernel⟩, fun k => ⟨fun h => (Option.some.inj h).symm, fun h => h ▸ rfl⟩⟩
theorem am_pp29 : am_PP 29 := ⟨rfl, by decide +kernel, am_t6 201 rfl, am_t1 11 rfl, Nat.le_of_ble_eq_true rfl, (fun h => absurd h (by decide +kernel)), Or.inr ⟨am_t6 200 rfl, Or.inr (am_t0 54 rfl)⟩, ⟨by decide +kernel, by decide +kernel⟩, fun k => ⟨fun h => (Option.some.inj h).symm, fun h => h ▸ rfl⟩⟩
theorem am_pp30 : am_PP 30 := ⟨rfl, by decide +kernel, am_t1 117 rfl, am_t1 4 rfl, Nat.le_of_ble_eq_true rfl, fun _ => rfl, Or.inr ⟨am_t1 116 rfl, Or.inl rfl⟩, ⟨by decide +kernel, by decide +kernel⟩, fun k => ⟨fun h => (Option.some.inj h).symm, fun h => h ▸ rfl⟩⟩
theorem am_pp31 : am_PP 31 := ⟨rfl, by decide +kernel, am_t4 100 rfl, am_t1 4 rfl, Nat.le_of_ble_eq_true rfl, (fun h => absurd h (by decide +kernel)), Or.inr ⟨am_t4 98 rfl, Or.inr (am_t4 99 rfl)⟩, ⟨by decide +kernel, by decide +kernel⟩, fun k => ⟨fun h => (Option.some.inj h).symm, fun h => h ▸ rfl⟩⟩
theorem am_pp32 : am_PP 32 := ⟨rfl, by decide +kernel, am_t4 108 rfl, am_t1 4 rfl, Nat.le_of_ble_eq_true rfl, (fun h => absurd h (by decide +kernel)), Or.inr ⟨am_t4 106 rfl, Or.inr (am_t4 107 rfl)⟩, ⟨by decide +kernel, by decide +kernel⟩, fun k => ⟨fun h => (Option.some.inj h).symm, fun h => h ▸ rfl⟩⟩
theorem am_pp33 : am_PP 33 := ⟨rfl, by decide +kernel, am_t4 152 rfl, am_t1 4 rfl, Nat.le_of_ble_eq_true rfl, (fun h => absurd h (by decide +kernel)), Or.inr ⟨am_t4 150 rfl, Or.inr (am_t4 151 rfl)⟩, ⟨by decide +kernel, by decide +kernel⟩, fun k => ⟨fun h => (Option.some.inj h).symm, fun h => h ▸ rfl⟩⟩
theorem am_pp34 : am_PP 34 := ⟨rfl, by decide +kernel, am_t5 13 rfl, am_t1 4 rfl, Nat.le_of_ble_eq_true rfl, (fun h => absurd h (by decide +kernel)), Or.inr ⟨am_t5 11 rfl, Or.inr (am_t5 12 rfl)⟩, ⟨by decide +kernel, by decide +kernel⟩, fun k => ⟨fun h => (Option.some.inj h).symm, fun h => h ▸ rfl⟩⟩
theorem am_pp35 : am_PP 35 := ⟨rfl, by decide +kernel, am_t5 25 rfl, am_t1 4 rfl, Nat.le_of_ble_eq_true rfl, (fun h => absurd h (by decide +kernel)), Or.inr ⟨am_t5 23 rfl, Or.inr (am_t5 24 rfl)⟩, ⟨by decide +kernel, by decide +kernel⟩, fun k => ⟨fun h => (Option.some.inj h).symm, fun h => h ▸ rfl⟩⟩
theorem am_pp36 : am_PP 36 := ⟨rfl, by decide +kernel, am_t5 17 rfl, am_t1 4 rfl, Nat.le_of_ble_eq_true rfl, (fun h => absurd h (by decide +kernel)), Or.inr ⟨am_t5 15 rfl, Or.inr (am_t5 16 rfl)⟩, ⟨by decide +kernel, by decide +kernel⟩, fun k => ⟨fun h => (Option.some.inj h).symm, fun h => h ▸ rfl⟩⟩
theorem am_pp37 : am_PP 37 := ⟨rfl, by decide +kernel, am_t5 97 rfl, am_t1 4 rfl, Nat.le_of_ble_eq_true rfl, (fun h => absurd h (by decide +kernel)), Or.inr ⟨am_t5 95 rfl, Or.inr (am_t5 96 rfl)⟩, ⟨by decide +kernel, by decide +kernel⟩, fun k => ⟨fun h => (Option.some.inj h).symm, fun h => h ▸ rfl⟩⟩
theorem am_pp38 : am_PP 38 := ⟨rfl, by decide +kernel, am_t5 143 rfl, am_t1 4 rfl, Nat.le_of_ble_eq_true rfl, (fun h => absurd h (by decide +kernel)), Or.inr ⟨am_t5 141 rfl, Or.inr (am_t5 142 rfl)⟩, ⟨by decide +kernel, by decide +kernel⟩, fun k => ⟨fun h => (Option.some.inj h).symm, fun h => h ▸ rfl⟩⟩
theorem am_pp39 : am_PP 39 := ⟨rfl, by decide +kernel, am_t5 131 rfl, am_t1 4 rfl, Nat.le_of_ble_eq_true rfl, (fun h => absurd h (by decide +kernel)), Or.inr ⟨am_t5 129 rfl, Or.inr (am_t5 130 rfl)⟩, ⟨by decide +kernel, by decide +kernel⟩, fun k => ⟨fun h => (Option.some.inj h).symm, fun h => h ▸ rfl⟩⟩
theorem am_pp40 : am_PP 40 := ⟨rfl, by decide +kernel, am_t5 127 rfl, am_t1 4 rfl, Nat.le_of_ble_eq_true rfl, (fun h => absurd h (by decide +kernel)), Or.inr ⟨am_t5 125 rfl, Or.inr (am_t5 126 rfl)⟩, ⟨by decide +kernel, by decide +kernel⟩, fun k => ⟨fun h => (Option.some.inj h).symm, fun h => h ▸ rfl⟩⟩
theorem am_pp41 : am_PP 41 := ⟨rfl, by decide +kernel, am_t5 207 rfl, am_t1 4 rfl, Nat.le_of_ble_eq_true rfl, (fun h => absurd h (by decide +kernel)), Or.inr ⟨am_t5 205 rfl, Or.inr (am_t5 206 rfl)⟩, ⟨by decide +kernel, by decide +kernel⟩, fun k => ⟨fun h => (Option.some.inj h).symm, fun h => h ▸ rfl⟩⟩
theorem am_pp42 : am_PP 42 := ⟨rfl, by decide +kernel, am_t6 140 rfl, am_t1 4 rfl, Nat.le_of_ble_eq_true rfl, (fun h => absurd h (by decide +kernel)), Or.inr ⟨am_t6 138 rfl, Or.inr (am_t6 139 rfl)⟩, ⟨by decide +kernel, by decide +kernel⟩, fun k => ⟨fun h => (Option.some.inj h).symm, fun h => h ▸ rfl⟩⟩
theorem am_pp43 : am_PP 43 := ⟨rfl, by decide +kernel, am_t1 146 rfl, am_t1 5 rfl, Nat.le_of_ble_eq_true rfl, fun _ => rfl, Or.inr ⟨am_t1 145 rfl, Or.inl rfl⟩, ⟨by decide +kernel, by decide +kernel⟩, fun k => ⟨fun h => (Option.some.inj h).symm, fun h => h ▸ rfl⟩⟩
theorem am_pp44 : am_PP 44 := ⟨rfl, by decide +kernel, am_t4 117 rfl, am_t1 5 rfl, Nat.le_of_ble_eq_true rfl, (fun h => absurd h (by decide +kernel)), Or.inr ⟨am_t4 115 rfl, Or.inr (am_t4 116 rfl)⟩, ⟨by decide +kernel, by decide +kernel⟩, fun k => ⟨fun h => (Option.some.inj h).symm, fun h => h ▸ rfl⟩⟩
theorem am_pp45 : am_PP 45 := ⟨rfl, by decide +kernel, am_t4 157 rfl, am_t1 5 rfl, Nat.le_of_ble_eq_true rfl, (fun h => absurd h (by decide +kernel)), Or.inr ⟨am_t4 155 rfl, Or.inr (am_t4 156 rfl)⟩, ⟨by decide +kernel, by decide +kernel⟩, fun k => ⟨fun h => (Option.some.inj h).symm, fun h => h ▸ rfl⟩⟩
theorem am_pp46 : am_PP 46 := ⟨rfl, by decide +kernel, am_t1 35 rfl, am_t1 2 rfl, Nat.le_of_ble_eq_true rfl, fun _ => rfl, Or.inr ⟨am_t1 34 rfl, Or.inl rfl⟩, ⟨by decide +kernel, by decide +kernel⟩, fun k => ⟨fun h => (Option.some.inj h).symm, fun h => h ▸ rfl⟩⟩
theorem am_pp47 : am_PP 47 := ⟨rfl, by decide +kernel, am_t3 175 rfl, am_t1 2 rfl, Nat.le_of_ble_eq_true rfl, (fun h => absurd h (by decide +kernel)), Or.inr ⟨am_t3 173 rfl, Or.inr (am_t3 174 rfl)⟩, ⟨by decide +kernel, by decide +kernel⟩, fun k => ⟨fun h => (Option.some.inj h).symm, fun h => h ▸ rfl⟩⟩
theorem am_pp48 : am_PP 48 := ⟨rfl, by decide +kernel, am_t3 179 rfl, am_t1 2 rfl, Nat.le_of_ble_eq_true rfl, (fun h => absurd h (by decide +kernel)), Or.inr ⟨am_t3 177 rfl, Or.inr (am_t3 178 rfl)⟩, ⟨by decide +kernel, by decide +kernel⟩, fun k => ⟨fun h => (Option.some.inj h).symm, fun h => h ▸ rfl⟩⟩
theorem am_pp49 : am_PP 49 := ⟨rfl, by decide +kernel, am_t3 195 rfl, am_t1 2 rfl, Nat.le_of_ble_eq_true rfl, (fun h => absurd h (by decide +kernel)), Or.inr ⟨am_t3 193 rfl, Or.inr (am_t3 194 rfl)⟩, ⟨by decide +kernel, by decide +kernel⟩, fun k => ⟨fun h => (Option.some.inj h).symm, fun h => h ▸ rfl⟩⟩
theorem am_pp50 : am_PP 50 := ⟨rfl, by decide +kernel, am_t3 204 rfl, am_t1 2 rfl, Nat.le_of_ble_eq_true rfl, (fun h => absurd h (by decide +kernel)), Or.inr ⟨am_t3 203 rfl, Or.inr (am_t0 7 rfl)⟩, ⟨by decide +kernel, by decide +kernel⟩, fun k => ⟨fun h => (Option.some.inj h).symm, fun h => h ▸ rfl⟩⟩
theorem am_pp51 : am_PP 51 := ⟨rfl, by decide +kernel, am_t3 212 rfl, am_t1 2 rfl, Nat.le_of_ble_eq_true rfl, (fun h => absurd h (by decide +kernel)), Or.inr ⟨am_t3 211 rfl, Or.inr (am_t0 9 rfl)⟩, ⟨by decide +kernel, by decide +kernel⟩, fun k => ⟨fun h => (Option.some.inj h).symm, fun h => h ▸ rfl⟩⟩
theorem am_pp52 : am_PP 52 := ⟨rfl, by decide +kernel, am_t4 34 rfl, am_t1 2 rfl, Nat.le_of_ble_eq_true rfl, (fun h => absurd h (by decide +kernel)), Or.inr ⟨am_t4 33 rfl, Or.inr (am_t0 12 rfl)⟩, ⟨by decide +kernel, by decide +kernel⟩, fun k => ⟨fun h => (Option.some.inj h).symm, fun h => h ▸ rfl⟩⟩
theorem am_pp53 : am_PP 53 := ⟨rfl, by decide +kernel, am_t3 208 rfl, am_t1 2 rfl, Nat.le_of_ble_eq_true rfl, (fun h => absurd h (by decide +kernel)), Or.inr ⟨am_t3 207 rfl, Or.inr (am_t0 8 rfl)⟩, ⟨by decide +kernel, by decide +kernel⟩, fun k => ⟨fun h => (Option.some.inj h).symm, fun h => h ▸ rfl⟩⟩
theorem am_pp54 : am_PP 54 := ⟨rfl, by decide +kernel, am_t3 200 rfl, am_t1 2 rfl, Nat.le_of_ble_eq_true rfl, (fun h => absurd h (by decide +kernel)), Or.inr ⟨am_t3 199 rfl, Or.inr (am_t0 6 rfl)⟩, ⟨by decide +kernel, by decide +kernel⟩, fun k => ⟨fun h => (Option.some.inj h).symm, fun h => h ▸ rfl⟩⟩
theorem am_pp55 : am_PP 55 := ⟨rfl, by decide +kernel, am_t3 216 rfl, am_t1 2 rfl, Nat.le_of_ble_eq_true rfl, (fun h => absurd h (by decide +kernel)), Or.inr ⟨am_t3 215 rfl, Or.inr (am_t0 10 rfl)⟩, ⟨by decide +kernel, by decide +kernel⟩, fun k => ⟨fun h => (Option.some.inj h).symm, fun h => h ▸ rfl⟩⟩
theorem am_pp56 : am_PP 56 := ⟨rfl, by decide +kernel, am_t3 221 rfl, am_t1 2 rfl, Nat.le_of_ble_eq_true rfl, (fun h => absurd h (by decide +kernel)), Or.inr ⟨am_t3 220 rfl, Or.inr (am_t0 11 rfl)⟩, ⟨by decide +kernel, by decide +kernel⟩, fun k => ⟨fun h => (Option.some.inj h).symm, fun h => h ▸ rfl⟩⟩
theorem am_pp57 : am_PP 57 := ⟨rfl, by decide +kernel, am_t4 38 rfl, am_t1 2 rfl, Nat.le_of_ble_eq_true rfl, (fun h => absurd h (by decide +kernel)), Or.inr ⟨am_t4 37 rfl, Or.inr (am_t0 13 rfl)⟩, ⟨by decide +kernel, by decide +kernel⟩, fun k => ⟨fun h => (Option.some.inj h).symm, fun h => h ▸ rfl⟩⟩
theorem am_pp58 : am_PP 58 := ⟨rfl, by decide +kernel, am_t4 42 rfl, am_t1 2 rfl, Nat.le_of_ble_eq_true rfl, (fun h => absurd h (by decide +kernel)), Or.inr ⟨am_t4 40 rfl, Or.inr (am_t4 41 rfl)⟩, ⟨by decide +kernel, by decide +kernel⟩, fun k => ⟨fun h => (Option.some.inj h).symm, fun h => h ▸ rfl⟩⟩
theorem am_pp59 : am_PP 59 := ⟨rfl, by decide +kernel, am_t4 58 rfl, am_t1 2 rfl, Nat.le_of_ble_eq_true rfl, (fun h => absurd h (by decide +kernel)), Or.inr ⟨am_t4 56 rfl, Or.inr (am_t4 57 rfl)⟩, ⟨by decide +kernel, by decide +kernel⟩, fun k => ⟨fun h => (Option.some.inj h).symm, fun h => h ▸ rfl⟩⟩
theorem am_pp60 : am_PP 60 := ⟨rfl, by decide +kernel, am_t4 88 rfl, am_t1 2 rfl, Nat.le_of_ble_eq_true rfl, (fun h => absurd h (by decide +kernel)), Or.inr ⟨am_t4 86 rfl, Or.inr (am_t4 87 rfl)⟩, ⟨by decide +kernel, by decide +kernel⟩, fun k => ⟨fun h => (Option.some.inj h).symm, fun h => h ▸ rfl⟩⟩
theorem am_pp61 : am_PP 61 := ⟨rfl, by decide +kernel, am_t4 144 rfl, am_t1 2 rfl, Nat.le_of_ble_eq_true rfl, (fun h => absurd h (by decide +kernel)), Or.inr ⟨am_t4 142 rfl, Or.inr (am_t4 143 rfl)⟩, ⟨by decide +kernel, by decide +kernel⟩, fun k => ⟨fun h => (Option.some.inj h).symm, fun h => h ▸ rfl⟩⟩
theorem am_pp62 : am_PP 62 := ⟨rfl, by decide +kernel, am_t4 96 rfl, am_t1 2 rfl, Nat.le_of_ble_eq_true rfl, (fun h => absurd h (by decide +kernel)), Or.inr ⟨am_t4 94 rfl, Or.inr (am_t4 95 rfl)⟩, ⟨by decide +kernel, by decide +kernel⟩, fun k => ⟨fun h => (Option.some.inj h).symm, fun h => h ▸ rfl⟩⟩
theorem am_pp63 : am_PP 63 := ⟨rfl, by decide +kernel, am_t4 92 rfl, am_t1 2 rfl, Nat.le_of_ble_eq_true rfl, (fun h => absurd h (by decide +kernel)), Or.inr ⟨am_t4 90 rfl, Or.inr (am_t4 91 rfl)⟩, ⟨by decide +kernel, by decide +kernel⟩, fun k => ⟨fun h => (Option.some.inj h).symm, fun h => h ▸ rfl⟩⟩
theorem am_pp64 : am_PP 64 := ⟨rfl, by decide +kernel, am_t4 83 rfl, am_t1 2 rfl, Nat.le_of_ble_eq_true rfl, (fun h => absurd h (by decide +kernel)), Or.inr ⟨am_t4 81 rfl, Or.inr (am_t4 82 rfl)⟩, ⟨by decide +kernel, by decide +kernel⟩, fun k => ⟨fun h => (Option.some.inj h).symm, fun h => h ▸ rfl⟩⟩
theorem am_pp65 : am_PP 65 := ⟨rfl, by decide +kernel, am_t3 19 rfl, am_t1 12 rfl, Nat.le_of_ble_eq_true rfl, fun _ => rfl, Or.inr ⟨am_t3 18 rfl, Or.inl rfl⟩, ⟨by decide +kernel, by decide +kernel⟩, fun k => ⟨fun h => (Option.some.inj h).symm, fun h => h ▸ rfl⟩⟩
theorem am_pp66 : am_PP 66 := ⟨rfl, by decide +kernel, am_t3 129 rfl, am_t1 12 rfl, Nat.le_of_ble_eq_true rfl, (fun h => absurd h (by decide +kernel)), Or.inr ⟨am_t3 127 rfl, Or.inr (am_t3 128 rfl)⟩, ⟨by decide +kernel, by decide +kernel⟩, fun k => ⟨fun h => (Option.some.inj h).symm, fun h => h ▸ rfl⟩⟩
theorem am_pp67 : am_PP 67 := ⟨rfl, by decide +kernel, am_t3 110 rfl, am_t1 12 rfl, Nat.le_of_ble_eq_true rfl, (fun h => absurd h (by decide +kernel)), Or.inr ⟨am_t3 108 rfl, Or.inr (am_t3 109 rfl)⟩, ⟨by decide +kernel, by decide +kernel⟩, fun k => ⟨fun h => (Option.some.inj h).symm, fun h => h ▸ rfl⟩⟩
theorem am_pp68 : am_PP 68 := ⟨rfl, by decide +kernel, am_t3 133 rfl, am_t1 12 rfl, Nat.le_of_ble_eq_true rfl, (fun h => absurd h (by decide +kernel)), Or.inr ⟨am_t3 131 rfl, Or.inr (am_t3 132 rfl)⟩, ⟨by decide +kernel, by decide +kernel⟩, fun k => ⟨fun h => (Option.some.inj h).symm, fun h => h ▸ rfl⟩⟩
theorem am_pp69 : am_PP 69 := ⟨rfl, by decide +kernel, am_t3 159 rfl, am_t1 12 rfl, Nat.le_of_ble_eq_true rfl, (fun h => absurd h (by decide +kernel)), Or.inr ⟨am_t3 157 rfl, Or.inr (am_t3 158 rfl)⟩, ⟨by decide +kernel, by decide +kernel⟩, fun k => ⟨fun h => (Option.some.inj h).symm, fun h => h ▸ rfl⟩⟩
theorem am_pp70 : am_PP 70 := ⟨rfl, by decide +kernel, am_t3 137 rfl, am_t1 12 rfl, Nat.le_of_ble_eq_true rfl, (fun h => absurd h (by decide +kernel)), Or.inr ⟨am_t3 135 rfl, Or.inr (am_t3 136 rfl)⟩, ⟨by decide +kernel, by decide +kernel⟩, fun k => ⟨fun h => (Option.some.inj h).symm, fun h => h ▸ rfl⟩⟩
theorem am_pp71 : am_PP 71 := ⟨rfl, by decide +kernel, am_t3 150 rfl, am_t1 12 rfl, Nat.le_of_ble_eq_true rfl, (fun h => absurd h (by decide +kernel)), Or.inr ⟨am_t3 148 rfl, Or.inr (am_t3 149 rfl)⟩, ⟨by decide +kernel, by decide +kernel⟩, fun k => ⟨fun h => (Option.some.inj h).symm, fun h => h ▸ rfl⟩⟩
theorem am_pp72 : am_PP 72 := ⟨rfl, by decide +kernel, am_t3 163 rfl, am_t1 12 rfl, Nat.le_of_ble_eq_true rfl, (fun h => absurd h (by decide +kernel)), Or.inr ⟨am_t3 161 rfl, Or.inr (am_t3 162 rfl)⟩, ⟨by decide +kernel, by decide +kernel⟩, fun k => ⟨fun h => (Option.some.inj h).symm, fun h => h ▸ rfl⟩⟩
theorem am_pp73 : am_PP 73 := ⟨rfl, by decide +kernel, am_t2 166 rfl, am_t1 10 rfl, Nat.le_of_ble_eq_true rfl, fun _ => rfl, Or.inr ⟨am_t2 165 rfl, Or.inl rfl⟩, ⟨by decide +kernel, by decide +kernel⟩, fun k => ⟨fun h => (Option.some.inj h).symm, fun h => h ▸ rfl⟩⟩
theorem am_pp74 : am_PP 74 := ⟨rfl, by decide +kernel, am_t6 7 rfl, am_t1 10 rfl, Nat.le_of_ble_eq_true rfl, (fun h => absurd h (by decide +kernel)), Or.inr ⟨am_t6 5 rfl, Or.inr (am_t6 6 rfl)⟩, ⟨by decide +kernel, by decide +kernel⟩, fun k => ⟨fun h => (Option.some.inj h).symm, fun h => h ▸ rfl⟩⟩
theorem am_pp75 : am_PP 75 := ⟨rfl, by decide +kernel, am_t6 30 rfl, am_t1 10 rfl, Nat.le_of_ble_eq_true rfl, (fun h => absurd h (by decide +kernel)), Or.inr ⟨am_t6 29 rfl, Or.inr (am_t0 41 rfl)⟩, ⟨by decide +kernel, by decide +kernel⟩, fun k => ⟨fun h => (Option.some.inj h).symm, fun h => h ▸ rfl⟩⟩
theorem am_pp76 : am_PP 76 := ⟨rfl, by decide +kernel, am_t6 26 rfl, am_t1 10 rfl, Nat.le_of_ble_eq_true rfl, (fun h => absurd h (by decide +kernel)), Or.inr ⟨am_t6 25 rfl, Or.inr (am_t0 40 rfl)⟩, ⟨by decide +kernel, by decide +kernel⟩, fun k => ⟨fun h => (Option.some.inj h).symm, fun h => h ▸ rfl⟩⟩
theorem am_pp77 : am_PP 77 := ⟨rfl, by decide +kernel, am_t6 22 rfl, am_t1 10 rfl, Nat.le_of_ble_eq_true rfl, (fun h => absurd h (by decide +kernel)), Or.inr ⟨am_t6 20 rfl, Or.inr (am_t6 21 rfl)⟩, ⟨by decide +kernel, by decide +kernel⟩, fun k => ⟨fun h => (Option.some.inj h).symm, fun h => h ▸ rfl⟩⟩
theorem am_pp78 : am_PP 78 := ⟨rfl, by decide +kernel, am_t6 43 rfl, am_t1 10 rfl, Nat.le_of_ble_eq_true rfl, (fun h => absurd h (by decide +kernel)), Or.inr ⟨am_t6 41 rfl, Or.inr (am_t6 42 rfl)⟩, ⟨by decide +kernel, by decide +kernel⟩, fun k => ⟨fun h => (Option.some.inj h).symm, fun h => h ▸ rfl⟩⟩
theorem am_pp79 : am_PP 79 := ⟨rfl, by decide +kernel, am_t6 53 rfl, am_t1 10 rfl, Nat.le_of_ble_eq_true rfl, (fun h => absurd h (by decide +kernel)), Or.inr ⟨am_t6 52 rfl, Or.inr (am_t0 42 rfl)⟩, ⟨by decide +kernel, by decide +kernel⟩, fun k => ⟨fun h => (Option.some.inj h).symm, fun h => h ▸ rfl⟩⟩
theorem am_pp80 : am_PP 80 := ⟨rfl, by decide +kernel, am_t6 48 rfl, am_t1 10 rfl, Nat.le_of_ble_eq_true rfl, (fun h => absurd h (by decide +kernel)), Or.inr ⟨am_t6 46 rfl, Or.inr (am_t6 47 rfl)⟩, ⟨by decide +kernel, by decide +kernel⟩, fun k => ⟨fun h => (Option.some.inj h).symm, fun h => h ▸ rfl⟩⟩
theorem am_pp81 : am_PP 81 := ⟨rfl, by decide +kernel, am_t6 67 rfl, am_t1 10 rfl, Nat.le_of_ble_eq_true rfl, (fun h => absurd h (by decide +kernel)), Or.inr ⟨am_t6 65 rfl, Or.inr (am_t6 66 rfl)⟩, ⟨by decide +kernel, by decide +kernel⟩, fun k => ⟨fun h => (Option.some.inj h).symm, fun h => h ▸ rfl⟩⟩
theorem am_pp82 : am_PP 82 := ⟨rfl, by decide +kernel, am_t6 75 rfl, am_t1 10 rfl, Nat.le_of_ble_eq_true rfl, (fun h => absurd h (by decide +kernel)), Or.inr ⟨am_t6 73 rfl, Or.inr (am_t6 74 rfl)⟩, ⟨by decide +kernel, by decide +kernel⟩, fun k => ⟨fun h => (Option.some.inj h).symm, fun h => h ▸ rfl⟩⟩
theorem am_pp83 : am_PP 83 := ⟨rfl, by decide +kernel, am_t6 95 rfl, am_t1 10 rfl, Nat.le_of_ble_eq_true rfl, (fun h => absurd h (by decide +kernel)), Or.inr ⟨am_t6 93 rfl, Or.inr (am_t6 94 rfl)⟩, ⟨by decide +kernel, by decide +kernel⟩, fun k => ⟨fun h => (Option.some.inj h).symm, fun h => h ▸ rfl⟩⟩
theorem am_pp84 : am_PP 84 := ⟨rfl, by decide +kernel, am_t6 107 rfl, am_t1 10 rfl, Nat.le_of_ble_eq_true rfl, (fun h => absurd h (by decide +kernel)), Or.inr ⟨am_t6 105 rfl, Or.inr (am_t6 106 rfl)⟩, ⟨by decide +kernel, by decide +kernel⟩, fun k => ⟨fun h => (Option.some.inj h).symm, fun h => h ▸ rfl⟩⟩
theorem am_pp85 : am_PP 85 := ⟨rfl, by decide +kernel, am_t6 115 rfl, am_t1 10 rfl, Nat.le_of_ble_eq_true rfl, (fun h => absurd h (by decide +kernel)), Or.inr ⟨am_t6 113 rfl, Or.inr (am_t6 114 rfl)⟩, ⟨by decide +kernel, by decide +kernel⟩, fun k => ⟨fun h => (Option.some.inj h).symm, fun h => h ▸ rfl⟩⟩
theorem am_pp86 : am_PP 86 := ⟨rfl, by decide +kernel, am_t6 123 rfl, am_t1 10 rfl, Nat.le_of_ble_eq_true rfl, (fun h => absurd h (by decide +kernel)), Or.inr ⟨am_t6 121 rfl, Or.inr (am_t6 122 rfl)⟩, ⟨by decide +kernel, by decide +kernel⟩, fun k => ⟨fun h => (Option.some.inj h).symm, fun h => h ▸ rfl⟩⟩
theorem am_pp87 : am_PP 87 := ⟨rfl, by decide +kernel, am_t1 106 rfl, am_t1 3 rfl, Nat.le_of_ble_eq_true rfl, fun _ => rfl, Or.inr ⟨am_t1 105 rfl, Or.inl rfl⟩, ⟨by decide +kernel, by decide +kernel⟩, fun k => ⟨fun h => (Option.some.inj h).symm, fun h => h ▸ rfl⟩⟩
theorem am_pp88 : am_PP 88 := ⟨rfl, by decide +kernel, am_t3 191 rfl, am_t1 3 rfl, Nat.le_of_ble_eq_true rfl, (fun h => absurd h (by decide +kernel)), Or.inr ⟨am_t3 189 rfl, Or.inr (am_t3 190 rfl)⟩, ⟨by decide +kernel, by decide +kernel⟩, fun k => ⟨fun h => (Option.some.inj h).symm, fun h => h ▸ rfl⟩⟩
theorem am_pp89 : am_PP 89 := ⟨rfl, by decide +kernel, am_t4 148 rfl, am_t1 3 rfl, Nat.le_of_ble_eq_true rfl, (fun h => absurd h (by decide +kernel)), Or.inr ⟨am_t4 146 rfl, Or.inr (am_t4 147 rfl)⟩, ⟨by decide +kernel, by decide +kernel⟩, fun k => ⟨fun h => (Option.some.inj h).symm, fun h => h ▸ rfl⟩⟩
theorem am_pp90 : am_PP 90 := ⟨rfl, by decide +kernel, am_t5 9 rfl, am_t1 3 rfl, Nat.le_of_ble_eq_true rfl, (fun h => absurd h (by decide +kernel)), Or.inr ⟨am_t5 7 rfl, Or.inr (am_t5 8 rfl)⟩, ⟨by decide +kernel, by decide +kernel⟩, fun k => ⟨fun h => (Option.some.inj h).symm, fun h => h ▸ rfl⟩⟩
theorem am_pp91 : am_PP 91 := ⟨rfl, by decide +kernel, am_t5 34 rfl, am_t1 3 rfl, Nat.le_of_ble_eq_true rfl, (fun h => absurd h (by decide +kernel)), Or.inr ⟨am_t5 32 rfl, Or.inr (am_t5 33 rfl)⟩, ⟨by decide +kernel, by decide +kernel⟩, fun k => ⟨fun h => (Option.some.inj h).symm, fun h => h ▸ rfl⟩⟩
theorem am_pp92 : am_PP 92 := ⟨rfl, by decide +kernel, am_t5 42 rfl, am_t1 3 rfl, Nat.le_of_ble_eq_true rfl, (fun h => absurd h (by decide +kernel)), Or.inr ⟨am_t5 40 rfl, Or.inr (am_t5 41 rfl)⟩, ⟨by decide +kernel, by decide +kernel⟩, fun k => ⟨fun h => (Option.some.inj h).symm, fun h => h ▸ rfl⟩⟩
theorem am_pp93 : am_PP 93 := ⟨rfl, by decide +kernel, am_t5 50 rfl, am_t1 3 rfl, Nat.le_of_ble_eq_true rfl, (fun h => absurd h (by decide +kernel)), Or.inr ⟨am_t5 48 rfl, Or.inr (am_t5 49 rfl)⟩, ⟨by decide +kernel, by decide +kernel⟩, fun k => ⟨fun h => (Option.some.inj h).symm, fun h => h ▸ rfl⟩⟩
theorem am_pp94 : am_PP 94 := ⟨rfl, by decide +kernel, am_t4 67 rfl, am_t1 3 rfl, Nat.le_of_ble_eq_true rfl, (fun h => absurd h (by decide +kernel)), Or.inr ⟨am_t4 65 rfl, Or.inr (am_t4 66 rfl)⟩, ⟨by decide +kernel, by decide +kernel⟩, fun k => ⟨fun h => (Option.some.inj h).symm, fun h => h ▸ rfl⟩⟩
theorem am_pp95 : am_PP 95 := ⟨rfl, by decide +kernel, am_t4 71 rfl, am_t1 3 rfl, Nat.le_of_ble_eq_true rfl, (fun h => absurd h (by decide +kernel)), Or.inr ⟨am_t4 69 rfl, Or.inr (am_t4 70 rfl)⟩, ⟨by decide +kernel, by decide +kernel⟩, fun k => ⟨fun h => (Option.some.inj h).symm, fun h => h ▸ rfl⟩⟩
theorem am_pp96 : am_PP 96 := ⟨rfl, by decide +kernel, am_t4 75 rfl, am_t1 3 rfl, Nat.le_of_ble_eq_true rfl, (fun h => absurd h (by decide +kernel)), Or.inr ⟨am_t4 73 rfl, Or.inr (am_t4 74 rfl)⟩, ⟨by decide +kernel, by decide +kernel⟩, fun k => ⟨fun h => (Option.some.inj h).symm, fun h => h ▸ rfl⟩⟩
theorem am_pp97 : am_PP 97 := ⟨rfl, by decide +kernel, am_t4 79 rfl, am_t1 3 rfl, Nat.le_of_ble_eq_true rfl, (fun h => absurd h (by decide +kernel)), Or.inr ⟨am_t4 78 rfl, Or.inr (am_t0 17 rfl)⟩, ⟨by decide +kernel, by decide +kernel⟩, fun k => ⟨fun h => (Option.some.inj h).symm, fun h => h ▸ rfl⟩⟩
theorem am_pp98 : am_PP 98 := ⟨rfl, by decide +kernel, am_t4 63 rfl, am_t1 3 rfl, Nat.le_of_ble_eq_true rfl, (fun h => absurd h (by decide +kernel)), Or.inr ⟨am_t4 61 rfl, Or.inr (am_t4 62 rfl)⟩, ⟨by decide +kernel, by decide +kernel⟩, fun k => ⟨fun h => (Option.some.inj h).symm, fun h => h ▸ rfl⟩⟩
theorem am_pp99 : am_PP 99 := ⟨rfl, by decide +kernel, am_t5 1 rfl, am_t1 3 rfl, Nat.le_of_ble_eq_true rfl, (fun h => absurd h (by decide +kernel)), Or.inr ⟨am_t4 239 rfl, Or.inr (am_t5 0 rfl)⟩, ⟨by decide +kernel, by decide +kernel⟩, fun k => ⟨fun h => (Option.some.inj h).symm, fun h => h ▸ rfl⟩⟩
theorem am_pp100 : am_PP 100 := ⟨rfl, by decide +kernel, am_t4 237 rfl, am_t1 3 rfl, Nat.le_of_ble_eq_true rfl, (fun h => absurd h (by decide +kernel)), Or.inr ⟨am_t4 235 rfl, Or.inr (am_t4 236 rfl)⟩, ⟨by decide +kernel, by decide +kernel⟩, fun k => ⟨fun h => (Option.some.inj h).symm, fun h => h ▸ rfl⟩⟩
theorem am_pp101 : am_PP 101 := ⟨rfl, by decide +kernel, am_t5 211 rfl, am_t1 3 rfl, Nat.le_of_ble_eq_true rfl, (fun h => absurd h (by decide +kernel)), Or.inr ⟨am_t5 209 rfl, Or.inr (am_t5 210 rfl)⟩, ⟨by decide +kernel, by decide +kernel⟩, fun k => ⟨fun h => (Option.some.inj h).symm, fun h => h ▸ rfl⟩⟩
theorem am_pp102 : am_PP 102 := ⟨rfl, by decide +kernel, am_t5 181 rfl, am_t1 3 rfl, Nat.le_of_ble_eq_true rfl, (fun h => absurd h (by decide +kernel)), Or.inr ⟨am_t5 179 rfl, Or.inr (am_t5 180 rfl)⟩, ⟨by decide +kernel, by decide +kernel⟩, fun k => ⟨fun h => (Option.some.inj h).symm, fun h => h ▸ rfl⟩⟩
theorem am_pp103 : am_PP 103 := ⟨rfl, by decide +kernel, am_t5 106 rfl, am_t1 3 rfl, Nat.le_of_ble_eq_true rfl, (fun h => absurd h (by decide +kernel)), Or.inr ⟨am_t5 105 rfl, Or.inr (am_t0 34 rfl)⟩, ⟨by decide +kernel, by decide +kernel⟩, fun k => ⟨fun h => (Option.some.inj h).symm, fun h => h ▸ rfl⟩⟩
theorem am_pp104 : am_PP 104 := ⟨rfl, by decide +kernel, am_t5 220 rfl, am_t1 3 rfl, Nat.le_of_ble_eq_true rfl, (fun h => absurd h (by decide +kernel)), Or.inr ⟨am_t5 218 rfl, Or.inr (am_t5 219 rfl)⟩, ⟨by decide +kernel, by decide +kernel⟩, fun k => ⟨fun h => (Option.some.inj h).symm, fun h => h ▸ rfl⟩⟩
theorem am_pp105 : am_PP 105 := ⟨rfl, by decide +kernel, am_t5 110 rfl, am_t1 3 rfl, Nat.le_of_ble_eq_true rfl, (fun h => absurd h (by decide +kernel)), Or.inr ⟨am_t5 109 rfl, Or.inr (am_t0 35 rfl)⟩, ⟨by decide +kernel, by decide +kernel⟩, fun k => ⟨fun h => (Option.some.inj h).symm, fun h => h ▸ rfl⟩⟩
theorem am_pp106 : am_PP 106 := ⟨rfl, by decide +kernel, am_t5 114 rfl, am_t1 3 rfl, Nat.le_of_ble_eq_true rfl, (fun h => absurd h (by decide +kernel)), Or.inr ⟨am_t5 113 rfl, Or.inr (am_t0 36 rfl)⟩, ⟨by decide +kernel, by decide +kernel⟩, fun k => ⟨fun h => (Option.some.inj h).symm, fun h => h ▸ rfl⟩⟩
theorem am_pp107 : am_PP 107 := ⟨rfl, by decide +kernel, am_t5 102 rfl, am_t1 3 rfl, Nat.le_of_ble_eq_true rfl, (fun h => absurd h (by decide +kernel)), Or.inr ⟨am_t5 100 rfl, Or.inr (am_t5 101 rfl)⟩, ⟨by decide +kernel, by decide +kernel⟩, fun k => ⟨fun h => (Option.some.inj h).symm, fun h => h ▸ rfl⟩⟩
theorem am_pp108 : am_PP 108 := ⟨rfl, by decide +kernel, am_t5 118 rfl, am_t1 3 rfl, Nat.le_of_ble_eq_true rfl, (fun h => absurd h (by decide +kernel)), Or.inr ⟨am_t5 117 rfl, Or.inr (am_t0 37 rfl)⟩, ⟨by decide +kernel, by decide +kernel⟩, fun k => ⟨fun h => (Option.some.inj h).symm, fun h => h ▸ rfl⟩⟩
theorem am_pp109 : am_PP 109 := ⟨rfl, by decide +kernel, am_t5 79 rfl, am_t1 3 rfl, Nat.le_of_ble_eq_true rfl, (fun h => absurd h (by decide +kernel)), Or.inr ⟨am_t5 77 rfl, Or.inr (am_t5 78 rfl)⟩, ⟨by decide +kernel, by decide +kernel⟩, fun k => ⟨fun h => (Option.some.inj h).symm, fun h => h ▸ rfl⟩⟩
theorem am_pp110 : am_PP 110 := ⟨rfl, by decide +kernel, am_t5 85 rfl, am_t1 3 rfl, Nat.le_of_ble_eq_true rfl, (fun h => absurd h (by decide +kernel)), Or.inr ⟨am_t5 83 rfl, Or.inr (am_t5 84 rfl)⟩, ⟨by decide +kernel, by decide +kernel⟩, fun k => ⟨fun h => (Option.some.inj h).symm, fun h => h ▸ rfl⟩⟩
theorem am_pp111 : am_PP 111 := ⟨rfl, by decide +kernel, am_t5 156 rfl, am_t1 3 rfl, Nat.le_of_ble_eq_true rfl, (fun h => absurd h (by decide +kernel)), Or.inr ⟨am_t5 154 rfl, Or.inr (am_t5 155 rfl)⟩, ⟨by decide +kernel, by decide +kernel⟩, fun k => ⟨fun h => (Option.some.inj h).symm, fun h => h ▸ rfl⟩⟩
theorem am_pp112 : am_PP 112 := ⟨rfl, by decide +kernel, am_t5 93 rfl, am_t1 3 rfl, Nat.le_of_ble_eq_true rfl, (fun h => absurd h (by decide +kernel)), Or.inr ⟨am_t5 91 rfl, Or.inr (am_t5 92 rfl)⟩, ⟨by decide +kernel, by decide +kernel⟩, fun k => ⟨fun h => (Option.some.inj h).symm, fun h => h ▸ rfl⟩⟩
theorem am_pp113 : am_PP 113 := ⟨rfl, by decide +kernel, am_t5 139 rfl, am_t1 3 rfl, Nat.le_of_ble_eq_true rfl, (fun h => absurd h (by decide +kernel)), Or.inr ⟨am_t5 137 rfl, Or.inr (am_t5 138 rfl)⟩, ⟨by decide +kernel, by decide +kernel⟩, fun k => ⟨fun h => (Option.some.inj h).symm, fun h => h ▸ rfl⟩⟩
theorem am_pp114 : am_PP 114 := ⟨rfl, by decide +kernel, am_t5 237 rfl, am_t1 3 rfl, Nat.le_of_ble_eq_true rfl, (fun h => absurd h (by decide +kernel)), Or.inr ⟨am_t5 235 rfl, Or.inr (am_t5 236 rfl)⟩, ⟨by decide +kernel, by decide +kernel⟩, fun k => ⟨fun h => (Option.some.inj h).symm, fun h => h ▸ rfl⟩⟩
theorem am_pp115 : am_PP 115 := ⟨rfl, by decide +kernel, am_t5 203 rfl, am_t1 3 rfl, Nat.le_of_ble_eq_true rfl, (fun h => absurd h (by decide +kernel)), Or.inr ⟨am_t5 201 rfl, Or.inr (am_t5 202 rfl)⟩, ⟨by decide +kernel, by decide +kernel⟩, fun k => ⟨fun h => (Option.some.inj h).symm, fun h => h ▸ rfl⟩⟩
theorem am_pp116 : am_PP 116 := ⟨rfl, by decide +kernel, am_t5 199 rfl, am_t1 3 rfl, Nat.le_of_ble_eq_true rfl, (fun h => absurd h (by decide +kernel)), Or.inr ⟨am_t5 197 rfl, Or.inr (am_t5 198 rfl)⟩, ⟨by decide +kernel, by decide +kernel⟩, fun k => ⟨fun h => (Option.some.inj h).symm, fun h => h ▸ rfl⟩⟩
theorem am_pp117 : am_PP 117 := ⟨rfl, by decide +kernel, am_t2 122 rfl, am_t1 8 rfl, Nat.le_of_ble_eq_true rfl, fun _ => rfl, Or.inr ⟨am_t2 121 rfl, Or.inl rfl⟩, ⟨by decide +kernel, by decide +kernel⟩, fun k => ⟨fun h => (Option.some.inj h).symm, fun h => h ▸ rfl⟩⟩
theorem am_pp118 : am_PP 118 := ⟨rfl, by decide +kernel, am_t3 187 rfl, am_t1 8 rfl, Nat.le_of_ble_eq_true rfl, (fun h => absurd h (by decide +kernel)), Or.inr ⟨am_t3 185 rfl, Or.inr (am_t3 186 rfl)⟩, ⟨by decide +kernel, by decide +kernel⟩, fun k => ⟨fun h => (Option.some.inj h).symm, fun h => h ▸ rfl⟩⟩
theorem am_pp119 : am_PP 119 := ⟨rfl, by decide +kernel, am_t4 46 rfl, am_t1 8 rfl, Nat.le_of_ble_eq_true rfl, (fun h => absurd h (by decide +kernel)), Or.inr ⟨am_t4 45 rfl, Or.inr (am_t0 14 rfl)⟩, ⟨by decide +kernel, by decide +kernel⟩, fun k => ⟨fun h => (Option.some.inj h).symm, fun h => h ▸ rfl⟩⟩
theorem am_pp120 : am_PP 120 := ⟨rfl, by decide +kernel, am_t4 54 rfl, am_t1 8 rfl, Nat.le_of_ble_eq_true rfl, (fun h => absurd h (by decide +kernel)), Or.inr ⟨am_t4 53 rfl, Or.inr (am_t0 16 rfl)⟩, ⟨by decide +kernel, by decide +kernel⟩, fun k => ⟨fun h => (Option.some.inj h).symm, fun h => h ▸ rfl⟩⟩
theorem am_pp121 : am_PP 121 := ⟨rfl, by decide +kernel, am_t4 50 rfl, am_t1 8 rfl, Nat.le_of_ble_eq_true rfl, (fun h => absurd h (by decide +kernel)), Or.inr ⟨am_t4 49 rfl, Or.inr (am_t0 15 rfl)⟩, ⟨by decide +kernel, by decide +kernel⟩, fun k => ⟨fun h => (Option.some.inj h).symm, fun h => h ▸ rfl⟩⟩
theorem am_pp122 : am_PP 122 := ⟨rfl, by decide +kernel, am_t4 104 rfl, am_t1 8 rfl, Nat.le_of_ble_eq_true rfl, (fun h => absurd h (by decide +kernel)), Or.inr ⟨am_t4 103 rfl, Or.inr (am_t0 18 rfl)⟩, ⟨by decide +kernel, by decide +kernel⟩, fun k => ⟨fun h => (Option.some.inj h).symm, fun h => h ▸ rfl⟩⟩
theorem am_pp123 : am_PP 123 := ⟨rfl, by decide +kernel, am_t4 113 rfl, am_t1 8 rfl, Nat.le_of_ble_eq_true rfl, (fun h => absurd h (by decide +kernel)), Or.inr ⟨am_t4 112 rfl, Or.inr (am_t0 19 rfl)⟩, ⟨by decide +kernel, by decide +kernel⟩, fun k => ⟨fun h => (Option.some.inj h).symm, fun h => h ▸ rfl⟩⟩
theorem am_pp124 : am_PP 124 := ⟨rfl, by decide +kernel, am_t4 127 rfl, am_t1 8 rfl, Nat.le_of_ble_eq_true rfl, (fun h => absurd h (by decide +kernel)), Or.inr ⟨am_t4 126 rfl, Or.inr (am_t0 21 rfl)⟩, ⟨by decide +kernel, by decide +kernel⟩, fun k => ⟨fun h => (Option.some.inj h).symm, fun h => h ▸ rfl⟩⟩
theorem am_pp125 : am_PP 125 := ⟨rfl, by decide +kernel, am_t4 122 rfl, am_t1 8 rfl, Nat.le_of_ble_eq_true rfl, (fun h => absurd h (by decide +kernel)), Or.inr ⟨am_t4 121 rfl, Or.inr (am_t0 20 rfl)⟩, ⟨by decide +kernel, by decide +kernel⟩, fun k => ⟨fun h => (Option.some.inj h).symm, fun h => h ▸ rfl⟩⟩
theorem am_pp126 : am_PP 126 := ⟨rfl, by decide +kernel, am_t4 136 rfl, am_t1 8 rfl, Nat.le_of_ble_eq_true rfl, (fun h => absurd h (by decide +kernel)), Or.inr ⟨am_t4 135 rfl, Or.inr (am_t0 22 rfl)⟩, ⟨by decide +kernel, by decide +kernel⟩, fun k => ⟨fun h => (Option.some.inj h).symm, fun h => h ▸ rfl⟩⟩
theorem am_pp127 : am_PP 127 := ⟨rfl, by decide +kernel, am_t4 140 rfl, am_t1 8 rfl, Nat.le_of_ble_eq_true rfl, (fun h => absurd h (by decide +kernel)), Or.inr ⟨am_t4 139 rfl, Or.inr (am_t0 23 rfl)⟩, ⟨by decide +kernel, by decide +kernel⟩, fun k => ⟨fun h => (Option.some.inj h).symm, fun h => h ▸ rfl⟩⟩
theorem am_pp128 : am_PP 128 := ⟨rfl, by decide +kernel, am_t1 25 rfl, am_t1 1 rfl, Nat.le_of_ble_eq_true rfl, fun _ => rfl, Or.inr ⟨am_t1 24 rfl, Or.inl rfl⟩, ⟨by decide +kernel, by decide +kernel⟩, fun k => ⟨fun h => (Option.some.inj h).symm, fun h => h ▸ rfl⟩⟩
theorem am_pp129 : am_PP 129 := ⟨rfl, by decide +kernel, am_t4 169 rfl, am_t1 1 rfl, Nat.le_of_ble_eq_true rfl, (fun h => absurd h (by decide +kernel)), Or.inr ⟨am_t4 168 rfl, Or.inr (am_t0 24 rfl)⟩, ⟨by decide +kernel, by decide +kernel⟩, fun k => ⟨fun h => (Option.some.inj h).symm, fun h => h ▸ rfl⟩⟩
theorem am_pp130 : am_PP 130 := ⟨rfl, by decide +kernel, am_t3 146 rfl, am_t1 1 rfl, Nat.le_of_ble_eq_true rfl, (fun h => absurd h (by decide +kernel)), Or.inr ⟨am_t3 145 rfl, Or.inr (am_t0 5 rfl)⟩, ⟨by decide +kernel, by decide +kernel⟩, fun k => ⟨fun h => (Option.some.inj h).symm, fun h => h ▸ rfl⟩⟩
theorem am_pp131 : am_PP 131 := ⟨rfl, by decide +kernel, am_t3 117 rfl, am_t1 1 rfl, Nat.le_of_ble_eq_true rfl, (fun h => absurd h (by decide +kernel)), Or.inr ⟨am_t3 116 rfl, Or.inr (am_t0 3 rfl)⟩, ⟨by decide +kernel, by decide +kernel⟩, fun k => ⟨fun h => (Option.some.inj h).symm, fun h => h ▸ rfl⟩⟩
theorem am_pp132 : am_PP 132 := ⟨rfl, by decide +kernel, am_t3 106 rfl, am_t1 1 rfl, Nat.le_of_ble_eq_true rfl, (fun h => absurd h (by decide +kernel)), Or.inr ⟨am_t3 105 rfl, Or.inr (am_t0 2 rfl)⟩, ⟨by decide +kernel, by decide +kernel⟩, fun k => ⟨fun h => (Option.some.inj h).symm, fun h => h ▸ rfl⟩⟩
theorem am_pp133 : am_PP 133 := ⟨rfl, by decide +kernel, am_t3 98 rfl, am_t1 1 rfl, Nat.le_of_ble_eq_true rfl, (fun h => absurd h (by decide +kernel)), Or.inr ⟨am_t3 97 rfl, Or.inr (am_t0 0 rfl)⟩, ⟨by decide +kernel, by decide +kernel⟩, fun k => ⟨fun h => (Option.some.inj h).symm, fun h => h ▸ rfl⟩⟩
theorem am_pp134 : am_PP 134 := ⟨rfl, by decide +kernel, am_t3 102 rfl, am_t1 1 rfl, Nat.le_of_ble_eq_true rfl, (fun h => absurd h (by decide +kernel)), Or.inr ⟨am_t3 101 rfl, Or.inr (am_t0 1 rfl)⟩, ⟨by decide +kernel, by decide +kernel⟩, fun k => ⟨fun h => (Option.some.inj h).symm, fun h => h ▸ rfl⟩⟩
theorem am_pp135 : am_PP 135 := ⟨rfl, by decide +kernel, am_t5 67 rfl, am_t1 1 rfl, Nat.le_of_ble_eq_true rfl, (fun h => absurd h (by decide +kernel)), Or.inr ⟨am_t5 66 rfl, Or.inr (am_t0 33 rfl)⟩, ⟨by decide +kernel, by decide +kernel⟩, fun k => ⟨fun h => (Option.some.inj h).symm, fun h => h ▸ rfl⟩⟩
theorem am_pp136 : am_PP 136 := ⟨rfl, by decide +kernel, am_t3 82 rfl, am_t1 1 rfl, Nat.le_of_ble_eq_true rfl, (fun h => absurd h (by decide +kernel)), Or.inr ⟨am_t3 80 rfl, Or.inr (am_t3 81 rfl)⟩, ⟨by decide +kernel, by decide +kernel⟩, fun k => ⟨fun h => (Option.some.inj h).symm, fun h => h ▸ rfl⟩⟩
theorem am_pp137 : am_PP 137 := ⟨rfl, by decide +kernel, am_t3 86 rfl, am_t1 1 rfl, Nat.le_of_ble_eq_true rfl, (fun h => absurd h (by decide +kernel)), Or.inr ⟨am_t3 84 rfl, Or.inr (am_t3 85 rfl)⟩, ⟨by decide +kernel, by decide +kernel⟩, fun k => ⟨fun h => (Option.some.inj h).symm, fun h => h ▸ rfl⟩⟩
theorem am_pp138 : am_PP 138 := ⟨rfl, by decide +kernel, am_t3 90 rfl, am_t1 1 rfl, Nat.le_of_ble_eq_true rfl, (fun h => absurd h (by decide +kernel)), Or.inr ⟨am_t3 88 rfl, Or.inr (am_t3 89 rfl)⟩, ⟨by decide +kernel, by decide +kernel⟩, fun k => ⟨fun h => (Option.some.inj h).symm, fun h => h ▸ rfl⟩⟩
theorem am_pp139 : am_PP 139 := ⟨rfl, by decide +kernel, am_t3 94 rfl, am_t1 1 rfl, Nat.le_of_ble_eq_true rfl, (fun h => absurd h (by decide +kernel)), Or.inr ⟨am_t3 92 rfl, Or.inr (am_t3 93 rfl)⟩, ⟨by decide +kernel, by decide +kernel⟩, fun k => ⟨fun h => (Option.some.inj h).symm, fun h => h ▸ rfl⟩⟩
theorem am_pp140 : am_PP 140 := ⟨rfl, by decide +kernel, am_t3 125 rfl, am_t1 1 rfl, Nat.le_of_ble_eq_true rfl, (fun h => absurd h (by decide +kernel)), Or.inr ⟨am_t3 124 rfl, Or.inr (am_t0 4 rfl)⟩, ⟨by decide +kernel, by decide +kernel⟩, fun k => ⟨fun h => (Option.some.inj h).symm, fun h => h ▸ rfl⟩⟩
theorem am_pp141 : am_PP 141 := ⟨rfl, by decide +kernel, am_t3 121 rfl, am_t1 1 rfl, Nat.le_of_ble_eq_true rfl, (fun h => absurd h (by decide +kernel)), Or.inr ⟨am_t3 119 rfl, Or.inr (am_t3 120 rfl)⟩, ⟨by decide +kernel, by decide +kernel⟩, fun k => ⟨fun h => (Option.some.inj h).symm, fun h => h ▸ rfl⟩⟩
theorem am_pp142 : am_PP 142 := ⟨rfl, by decide +kernel, am_t3 142 rfl, am_t1 1 rfl, Nat.le_of_ble_eq_true rfl, (fun h => absurd h (by decide +kernel)), Or.inr ⟨am_t3 140 rfl, Or.inr (am_t3 141 rfl)⟩, ⟨by decide +kernel, by decide +kernel⟩, fun k => ⟨fun h => (Option.some.inj h).symm, fun h => h ▸ rfl⟩⟩
theorem am_pp143 : am_PP 143 := ⟨rfl, by decide +kernel, am_t3 155 rfl, am_t1 1 rfl, Nat.le_of_ble_eq_true rfl, (fun h => absurd h (by decide +kernel)), Or.inr ⟨am_t3 153 rfl, Or.inr (am_t3 154 rfl)⟩, ⟨by decide +kernel, by decide +kernel⟩, fun k => ⟨fun h => (Option.some.inj h).symm, fun h => h ▸ rfl⟩⟩
theorem am_pp144 : am_PP 144 := ⟨rfl, by decide +kernel, am_t3 171 rfl, am_t1 1 rfl, Nat.le_of_ble_eq_true rfl, (fun h => absurd h (by decide +kernel)), Or.inr ⟨am_t3 169 rfl, Or.inr (am_t3 170 rfl)⟩, ⟨by decide +kernel, by decide +kernel⟩, fun k => ⟨fun h => (Option.some.inj h).symm, fun h => h ▸ rfl⟩⟩
theorem am_pp145 : am_PP 145 := ⟨rfl, by decide +kernel, am_t3 183 rfl, am_t1 1 rfl, Nat.le_of_ble_eq_true rfl, (fun h => absurd h (by decide +kernel)), Or.inr ⟨am_t3 181 rfl, Or.inr (am_t3 182 rfl)⟩, ⟨by decide +kernel, by decide +kernel⟩, fun k => ⟨fun h => (Option.some.inj h).symm, fun h => h ▸ rfl⟩⟩
theorem am_pp146 : am_PP 146 := ⟨rfl, by decide +kernel, am_t4 173 rfl, am_t1 1 rfl, Nat.le_of_ble_eq_true rfl, (fun h => absurd h (by decide +kernel)), Or.inr ⟨am_t4 171 rfl, Or.inr (am_t4 172 rfl)⟩, ⟨by decide +kernel, by decide +kernel⟩, fun k => ⟨fun h => (Option.some.inj h).symm, fun h => h ▸ rfl⟩⟩
theorem am_pp147 : am_PP 147 := ⟨rfl, by decide +kernel, am_t4 229 rfl, am_t1 1 rfl, Nat.le_of_ble_eq_true rfl, (fun h => absurd h (by decide +kernel)), Or.inr ⟨am_t4 227 rfl, Or.inr (am_t4 228 rfl)⟩, ⟨by decide +kernel, by decide +kernel⟩, fun k => ⟨fun h => (Option.some.inj h).symm, fun h => h ▸ rfl⟩⟩
theorem am_pp148 : am_PP 148 := ⟨rfl, by decide +kernel, am_t4 233 rfl, am_t1 1 rfl, Nat.le_of_ble_eq_true rfl, (fun h => absurd h (by decide +kernel)), Or.inr ⟨am_t4 231 rfl, Or.inr (am_t4 232 rfl)⟩, ⟨by decide +kernel, by decide +kernel⟩, fun k => ⟨fun h => (Option.some.inj h).symm, fun h => h ▸ rfl⟩⟩
theorem am_pp149 : am_PP 149 := ⟨rfl, by decide +kernel, am_t5 5 rfl, am_t1 1 rfl, Nat.le_of_ble_eq_true rfl, (fun h => absurd h (by decide +kernel)), Or.inr ⟨am_t5 3 rfl, Or.inr (am_t5 4 rfl)⟩, ⟨by decide +kernel, by decide +kernel⟩, fun k => ⟨fun h => (Option.some.inj h).symm, fun h => h ▸ rfl⟩⟩
theorem am_pp150 : am_PP 150 := ⟨rfl, by decide +kernel, am_t5 21 rfl, am_t1 1 rfl, Nat.le_of_ble_eq_true rfl, (fun h => absurd h (by decide +kernel)), Or.inr ⟨am_t5 19 rfl, Or.inr (am_t5 20 rfl)⟩, ⟨by decide +kernel, by decide +kernel⟩, fun k => ⟨fun h => (Option.some.inj h).symm, fun h => h ▸ rfl⟩⟩
theorem am_pp151 : am_PP 151 := ⟨rfl, by decide +kernel, am_t5 30 rfl, am_t1 1 rfl, Nat.le_of_ble_eq_true rfl, (fun h => absurd h (by decide +kernel)), Or.inr ⟨am_t5 28 rfl, Or.inr (am_t5 29 rfl)⟩, ⟨by decide +kernel, by decide +kernel⟩, fun k => ⟨fun h => (Option.some.inj h).symm, fun h => h ▸ rfl⟩⟩
theorem am_pp152 : am_PP 152 := ⟨rfl, by decide +kernel, am_t5 38 rfl, am_t1 1 rfl, Nat.le_of_ble_eq_true rfl, (fun h => absurd h (by decide +kernel)), Or.inr ⟨am_t5 36 rfl, Or.inr (am_t5 37 rfl)⟩, ⟨by decide +kernel, by decide +kernel⟩, fun k => ⟨fun h => (Option.some.inj h).symm, fun h => h ▸ rfl⟩⟩
theorem am_pp153 : am_PP 153 := ⟨rfl, by decide +kernel, am_t5 46 rfl, am_t1 1 rfl, Nat.le_of_ble_eq_true rfl, (fun h => absurd h (by decide +kernel)), Or.inr ⟨am_t5 44 rfl, Or.inr (am_t5 45 rfl)⟩, ⟨by decide +kernel, by decide +kernel⟩, fun k => ⟨fun h => (Option.some.inj h).symm, fun h => h ▸ rfl⟩⟩
theorem am_pp154 : am_PP 154 := ⟨rfl, by decide +kernel, am_t5 54 rfl, am_t1 1 rfl, Nat.le_of_ble_eq_true rfl, (fun h => absurd h (by decide +kernel)), Or.inr ⟨am_t5 52 rfl, Or.inr (am_t5 53 rfl)⟩, ⟨by decide +kernel, by decide +kernel⟩, fun k => ⟨fun h => (Option.some.inj h).symm, fun h => h ▸ rfl⟩⟩
theorem am_pp155 : am_PP 155 := ⟨rfl, by decide +kernel, am_t5 58 rfl, am_t1 1 rfl, Nat.le_of_ble_eq_true rfl, (fun h => absurd h (by decide +kernel)), Or.inr ⟨am_t5 56 rfl, Or.inr (am_t5 57 rfl)⟩, ⟨by decide +kernel, by decide +kernel⟩, fun k => ⟨fun h => (Option.some.inj h).symm, fun h => h ▸ rfl⟩⟩
theorem am_pp156 : am_PP 156 := ⟨rfl, by decide +kernel, am_t5 63 rfl, am_t1 1 rfl, Nat.le_of_ble_eq_true rfl, (fun h => absurd h (by decide +kernel)), Or.inr ⟨am_t5 61 rfl, Or.inr (am_t5 62 rfl)⟩, ⟨by decide +kernel, by decide +kernel⟩, fun k => ⟨fun h => (Option.some.inj h).symm, fun h => h ▸ rfl⟩⟩
theorem am_pp157 : am_PP 157 := ⟨rfl, by decide +kernel, am_t5 71 rfl, am_t1 1 rfl, Nat.le_of_ble_eq_true rfl, (fun h => absurd h (by decide +kernel)), Or.inr ⟨am_t5 69 rfl, Or.inr (am_t5 70 rfl)⟩, ⟨by decide +kernel, by decide +kernel⟩, fun k => ⟨fun h => (Option.some.inj h).symm, fun h => h ▸ rfl⟩⟩
theorem am_pp158 : am_PP 158 := ⟨rfl, by decide +kernel, am_t5 75 rfl, am_t1 1 rfl, Nat.le_of_ble_eq_true rfl, (fun h => absurd h (by decide +kernel)), Or.inr ⟨am_t5 73 rfl, Or.inr (am_t5 74 rfl)⟩, ⟨by decide +kernel, by decide +kernel⟩, fun k => ⟨fun h => (Option.some.inj h).symm, fun h => h ▸ rfl⟩⟩
theorem am_pp159 : am_PP 159 := ⟨rfl, by decide +kernel, am_t5 89 rfl, am_t1 1 rfl, Nat.le_of_ble_eq_true rfl, (fun h => absurd h (by decide +kernel)), Or.inr ⟨am_t5 87 rfl, Or.inr (am_t5 88 rfl)⟩, ⟨by decide +kernel, by decide +kernel⟩, fun k => ⟨fun h => (Option.some.inj h).symm, fun h => h ▸ rfl⟩⟩
theorem am_pp160 : am_PP 160 := ⟨rfl, by decide +kernel, am_t5 135 rfl, am_t1 1 rfl, Nat.le_of_ble_eq_true rfl, (fun h => absurd h (by decide +kernel)), Or.inr ⟨am_t5 133 rfl, Or.inr (am_t5 134 rfl)⟩, ⟨by decide +kernel, by decide +kernel⟩, fun k => ⟨fun h => (Option.some.inj h).symm, fun h => h ▸ rfl⟩⟩
theorem am_pp161 : am_PP 161 := ⟨rfl, by decide +kernel, am_t5 152 rfl, am_t1 1 rfl, Nat.le_of_ble_eq_true rfl, (fun h => absurd h (by decide +kernel)), Or.inr ⟨am_t5 151 rfl, Or.inr (am_t0 38 rfl)⟩, ⟨by decide +kernel, by decide +kernel⟩, fun k => ⟨fun h => (Option.some.inj h).symm, fun h => h ▸ rfl⟩⟩
theorem am_pp162 : am_PP 162 := ⟨rfl, by decide +kernel, am_t5 148 rfl, am_t1 1 rfl, Nat.le_of_ble_eq_true rfl, (fun h => absurd h (by decide +kernel)), Or.inr ⟨am_t5 146 rfl, Or.inr (am_t5 147 rfl)⟩, ⟨by decide +kernel, by decide +kernel⟩, fun k => ⟨fun h => (Option.some.inj h).symm, fun h => h ▸ rfl⟩⟩
theorem am_pp163 : am_PP 163 := ⟨rfl, by decide +kernel, am_t5 161 rfl, am_t1 1 rfl, Nat.le_of_ble_eq_true rfl, (fun h => absurd h (by decide +kernel)), Or.inr ⟨am_t5 159 rfl, Or.inr (am_t5 160 rfl)⟩, ⟨by decide +kernel, by decide +kernel⟩, fun k => ⟨fun h => (Option.some.inj h).symm, fun h => h ▸ rfl⟩⟩
theorem am_pp164 : am_PP 164 := ⟨rfl, by decide +kernel, am_t5 165 rfl, am_t1 1 rfl, Nat.le_of_ble_eq_true rfl, (fun h => absurd h (by decide +kernel)), Or.inr ⟨am_t5 163 rfl, Or.inr (am_t5 164 rfl)⟩, ⟨by decide +kernel, by decide +kernel⟩, fun k => ⟨fun h => (Option.some.inj h).symm, fun h => h ▸ rfl⟩⟩
theorem am_pp165 : am_PP 165 := ⟨rfl, by decide +kernel, am_t5 169 rfl, am_t1 1 rfl, Nat.le_of_ble_eq_true rfl, (fun h => absurd h (by decide +kernel)), Or.inr ⟨am_t5 167 rfl, Or.inr (am_t5 168 rfl)⟩, ⟨by decide +kernel, by decide +kernel⟩, fun k => ⟨fun h => (Option.some.inj h).symm, fun h => h ▸ rfl⟩⟩
theorem am_pp166 : am_PP 166 := ⟨rfl, by decide +kernel, am_t5 173 rfl, am_t1 1 rfl, Nat.le_of_ble_eq_true rfl, (fun h => absurd h (by decide +kernel)), Or.inr ⟨am_t5 171 rfl, Or.inr (am_t5 172 rfl)⟩, ⟨by decide +kernel, by decide +kernel⟩, fun k => ⟨fun h => (Option.some.inj h).symm, fun h => h ▸ rfl⟩⟩
theorem am_pp167 : am_PP 167 := ⟨rfl, by decide +kernel, am_t5 177 rfl, am_t1 1 rfl, Nat.le_of_ble_eq_true rfl, (fun h => absurd h (by decide +kernel)), Or.inr ⟨am_t5 175 rfl, Or.inr (am_t5 176 rfl)⟩, ⟨by decide +kernel, by decide +kernel⟩, fun k => ⟨fun h => (Option.some.inj h).symm, fun h => h ▸ rfl⟩⟩
theorem am_pp168 : am_PP 168 := ⟨rfl, by decide +kernel, am_t5 195 rfl, am_t1 1 rfl, Nat.le_of_ble_eq_true rfl, (fun h => absurd h (by decide +kernel)), Or.inr ⟨am_t5 193 rfl, Or.inr (am_t5 194 rfl)⟩, ⟨by decide +kernel, by decide +kernel⟩, fun k => ⟨fun h => (Option.some.inj h).symm, fun h => h ▸ rfl⟩⟩
theorem am_pp169 : am_PP 169 := ⟨rfl, by decide +kernel, am_t5 216 rfl, am_t1 1 rfl, Nat.le_of_ble_eq_true rfl, (fun h => absurd h (by decide +kernel)), Or.inr ⟨am_t5 214 rfl, Or.inr (am_t5 215 rfl)⟩, ⟨by decide +kernel, by decide +kernel⟩, fun k => ⟨fun h => (Option.some.inj h).symm, fun h => h ▸ rfl⟩⟩
theorem am_pp170 : am_PP 170 := ⟨rfl, by decide +kernel, am_t5 224 rfl, am_t1 1 rfl, Nat.le_of_ble_eq_true rfl, (fun h => absurd h (by decide +kernel)), Or.inr ⟨am_t5 222 rfl, Or.inr (am_t5 223 rfl)⟩, ⟨by decide +kernel, by decide +kernel⟩, fun k => ⟨fun h => (Option.some.inj h).symm, fun h => h ▸ rfl⟩⟩
theorem am_pp171 : am_PP 171 := ⟨rfl, by decide +kernel, am_t5 233 rfl, am_t1 1 rfl, Nat.le_of_ble_eq_true rfl, (fun h => absurd h (by decide +kernel)), Or.inr ⟨am_t5 232 rfl, Or.inr (am_t0 39 rfl)⟩, ⟨by decide +kernel, by decide +kernel⟩, fun k => ⟨fun h => (Option.some.inj h).symm, fun h => h ▸ rfl⟩⟩
theorem am_pp172 : am_PP 172 := ⟨rfl, by decide +kernel, am_t5 229 rfl, am_t1 1 rfl, Nat.le_of_ble_eq_true rfl, (fun h => absurd h (by decide +kernel)), Or.inr ⟨am_t5 227 rfl, Or.inr (am_t5 228 rfl)⟩, ⟨by decide +kernel, by decide +kernel⟩, fun k => ⟨fun h => (Option.some.inj h).symm, fun h => h ▸ rfl⟩⟩
theorem am_pp173 : am_PP 173 := ⟨rfl, by decide +kernel, am_t6 3 rfl, am_t1 1 rfl, Nat.le_of_ble_eq_true rfl, (fun h => absurd h (by decide +kernel)), Or.inr ⟨am_t6 1 rfl, Or.inr (am_t6 2 rfl)⟩, ⟨by decide +kernel, by decide +kernel⟩, fun k => ⟨fun h => (Option.some.inj h).symm, fun h => h ▸ rfl⟩⟩
theorem am_pp174 : am_PP 174 := ⟨rfl, by decide +kernel, am_t6 14 rfl, am_t1 1 rfl, Nat.le_of_ble_eq_true rfl, (fun h => absurd h (by decide +kernel)), Or.inr ⟨am_t6 12 rfl, Or.inr (am_t6 13 rfl)⟩, ⟨by decide +kernel, by decide +kernel⟩, fun k => ⟨fun h => (Option.some.inj h).symm, fun h => h ▸ rfl⟩⟩
theorem am_pp175 : am_PP 175 := ⟨rfl, by decide +kernel, am_t6 18 rfl, am_t1 1 rfl, Nat.le_of_ble_eq_true rfl, (fun h => absurd h (by decide +kernel)), Or.inr ⟨am_t6 16 rfl, Or.inr (am_t6 17 rfl)⟩, ⟨by decide +kernel, by decide +kernel⟩, fun k => ⟨fun h => (Option.some.inj h).symm, fun h => h ▸ rfl⟩⟩
theorem am_pp176 : am_PP 176 := ⟨rfl, by decide +kernel, am_t6 35 rfl, am_t1 1 rfl, Nat.le_of_ble_eq_true rfl, (fun h => absurd h (by decide +kernel)), Or.inr ⟨am_t6 33 rfl, Or.inr (am_t6 34 rfl)⟩, ⟨by decide +kernel, by decide +kernel⟩, fun k => ⟨fun h => (Option.some.inj h).symm, fun h => h ▸ rfl⟩⟩
theorem am_pp177 : am_PP 177 := ⟨rfl, by decide +kernel, am_t6 39 rfl, am_t1 1 rfl, Nat.le_of_ble_eq_true rfl, (fun h => absurd h (by decide +kernel)), Or.inr ⟨am_t6 37 rfl, Or.inr (am_t6 38 rfl)⟩, ⟨by decide +kernel, by decide +kernel⟩, fun k => ⟨fun h => (Option.some.inj h).symm, fun h => h ▸ rfl⟩⟩
theorem am_pp178 : am_PP 178 := ⟨rfl, by decide +kernel, am_t6 59 rfl, am_t1 1 rfl, Nat.le_of_ble_eq_true rfl, (fun h => absurd h (by decide +kernel)), Or.inr ⟨am_t6 57 rfl, Or.inr (am_t6 58 rfl)⟩, ⟨by decide +kernel, by decide +kernel⟩, fun k => ⟨fun h => (Option.some.inj h).symm, fun h => h ▸ rfl⟩⟩
theorem am_pp179 : am_PP 179 := ⟨rfl, by decide +kernel, am_t6 63 rfl, am_t1 1 rfl, Nat.le_of_ble_eq_true rfl, (fun h => absurd h (by decide +kernel)), Or.inr ⟨am_t6 61 rfl, Or.inr (am_t6 62 rfl)⟩, ⟨by decide +kernel, by decide +kernel⟩, fun k => ⟨fun h => (Option.some.inj h).symm, fun h => h ▸ rfl⟩⟩
theorem am_pp180 : am_PP 180 := ⟨rfl, by decide +kernel, am_t6 71 rfl, am_t1 1 rfl, Nat.le_of_ble_eq_true rfl, (fun h => absurd h (by decide +kernel)), Or.inr ⟨am_t6 69 rfl, Or.inr (am_t6 70 rfl)⟩, ⟨by decide +kernel, by decide +kernel⟩, fun k => ⟨fun h => (Option.some.inj h).symm, fun h => h ▸ rfl⟩⟩
theorem am_pp181 : am_PP 181 := ⟨rfl, by decide +kernel, am_t6 79 rfl, am_t1 1 rfl, Nat.le_of_ble_eq_true rfl, (fun h => absurd h (by decide +kernel)), Or.inr ⟨am_t6 77 rfl, Or.inr (am_t6 78 rfl)⟩, ⟨by decide +kernel, by decide +kernel⟩, fun k => ⟨fun h => (Option.some.inj h).symm, fun h => h ▸ rfl⟩⟩
theorem am_pp182 : am_PP 182 := ⟨rfl, by decide +kernel, am_t6 83 rfl, am_t1 1 rfl, Nat.le_of_ble_eq_true rfl, (fun h => absurd h (by decide +kernel)), Or.inr ⟨am_t6 81 rfl, Or.inr (am_t6 82 rfl)⟩, ⟨by decide +kernel, by decide +kernel⟩, fun k => ⟨fun h => (Option.some.inj h).symm, fun h => h ▸ rfl⟩⟩
theorem am_pp183 : am_PP 183 := ⟨rfl, by decide +kernel, am_t6 91 rfl, am_t1 1 rfl, Nat.le_of_ble_eq_true rfl, (fun h => absurd h (by decide +kernel)), Or.inr ⟨am_t6 90 rfl, Or.inr (am_t0 43 rfl)⟩, ⟨by decide +kernel, by decide +kernel⟩, fun k => ⟨fun h => (Option.some.inj h).symm, fun h => h ▸ rfl⟩⟩
theorem am_pp184 : am_PP 184 := ⟨rfl, by decide +kernel, am_t6 87 rfl, am_t1 1 rfl, Nat.le_of_ble_eq_true rfl, (fun h => absurd h (by decide +kernel)), Or.inr ⟨am_t6 85 rfl, Or.inr (am_t6 86 rfl)⟩, ⟨by decide +kernel, by decide +kernel⟩, fun k => ⟨fun h => (Option.some.inj h).symm, fun h => h ▸ rfl⟩⟩
theorem am_pp185 : am_PP 185 := ⟨rfl, by decide +kernel, am_t6 103 rfl, am_t1 1 rfl, Nat.le_of_ble_eq_true rfl, (fun h => absurd h (by decide +kernel)), Or.inr ⟨am_t6 101 rfl, Or.inr (am_t6 102 rfl)⟩, ⟨by decide +kernel, by decide +kernel⟩, fun k => ⟨fun h => (Option.some.inj h).symm, fun h => h ▸ rfl⟩⟩
theorem am_pp186 : am_PP 186 := ⟨rfl, by decide +kernel, am_t6 111 rfl, am_t1 1 rfl, Nat.le_of_ble_eq_true rfl, (fun h => absurd h (by decide +kernel)), Or.inr ⟨am_t6 109 rfl, Or.inr (am_t6 110 rfl)⟩, ⟨by decide +kernel, by decide +kernel⟩, fun k => ⟨fun h => (Option.some.inj h).symm, fun h => h ▸ rfl⟩⟩
theorem am_pp187 : am_PP 187 := ⟨rfl, by decide +kernel, am_t6 119 rfl, am_t1 1 rfl, Nat.le_of_ble_eq_true rfl, (fun h => absurd h (by decide +kernel)), Or.inr ⟨am_t6 117 rfl, Or.inr (am_t6 118 rfl)⟩, ⟨by decide +kernel, by decide +kernel⟩, fun k => ⟨fun h => (Option.some.inj h).symm, fun h => h ▸ rfl⟩⟩
theorem am_pp188 : am_PP 188 := ⟨rfl, by decide +kernel, am_t6 127 rfl, am_t1 1 rfl, Nat.le_of_ble_eq_true rfl, (fun h => absurd h (by decide +kernel)), Or.inr ⟨am_t6 125 rfl, Or.inr (am_t6 126 rfl)⟩, ⟨by decide +kernel, by decide +kernel⟩, fun k => ⟨fun h => (Option.some.inj h).symm, fun h => h ▸ rfl⟩⟩
theorem am_pp189 : am_PP 189 := ⟨rfl, by decide +kernel, am_t6 135 rfl, am_t1 1 rfl, Nat.le_of_ble_eq_true rfl, (fun h => absurd h (by decide +kernel)), Or.inr ⟨am_t6 134 rfl, Or.inr (am_t0 44 rfl)⟩, ⟨by decide +kernel, by decide +kernel⟩, fun k => ⟨fun h => (Option.some.inj h).symm, fun h => h ▸ rfl⟩⟩
theorem am_pp190 : am_PP 190 := ⟨rfl, by decide +kernel, am_t6 131 rfl, am_t1 1 rfl, Nat.le_of_ble_eq_true rfl, (fun h => absurd h (by decide +kernel)), Or.inr ⟨am_t6 129 rfl, Or.inr (am_t6 130 rfl)⟩, ⟨by decide +kernel, by decide +kernel⟩, fun k => ⟨fun h => (Option.some.inj h).symm, fun h => h ▸ rfl⟩⟩
theorem am_pp191 : am_PP 191 := ⟨rfl, by decide +kernel, am_t6 146 rfl, am_t1 1 rfl, Nat.le_of_ble_eq_true rfl, (fun h => absurd h (by decide +kernel)), Or.inr ⟨am_t6 144 rfl, Or.inr (am_t6 145 rfl)⟩, ⟨by decide +kernel, by decide +kernel⟩, fun k => ⟨fun h => (Option.some.inj h).symm, fun h => h ▸ rfl⟩⟩
theorem am_pp192 : am_PP 192 := ⟨rfl, by decide +kernel, am_t6 206 rfl, am_t1 1 rfl, Nat.le_of_ble_eq_true rfl, (fun h => absurd h (by decide +kernel)), Or.inr ⟨am_t6 204 rfl, Or.inr (am_t6 205 rfl)⟩, ⟨by decide +kernel, by decide +kernel⟩, fun k => ⟨fun h => (Option.some.inj h).symm, fun h => h ▸ rfl⟩⟩
theorem am_pp193 : am_PP 193 := ⟨rfl, by decide +kernel, am_t6 210 rfl, am_t1 1 rfl, Nat.le_of_ble_eq_true rfl, (fun h => absurd h (by decide +kernel)), Or.inr ⟨am_t6 208 rfl, Or.inr (am_t6 209 rfl)⟩, ⟨by decide +kernel, by decide +kernel⟩, fun k => ⟨fun h => (Option.some.inj h).symm, fun h => h ▸ rfl⟩⟩
theorem am_pp194 : am_PP 194 := ⟨rfl, by decide +kernel, am_t6 214 rfl, am_t1 1 rfl, Nat.le_of_ble_eq_true rfl, (fun h => absurd h (by decide +kernel)), Or.inr ⟨am_t6 212 rfl, Or.inr (am_t6 213 rfl)⟩, ⟨by decide +kernel, by decide +kernel⟩, fun k => ⟨fun h => (Option.some.inj h).symm, fun h => h ▸ rfl⟩⟩
theorem am_pp195 : am_PP 195 := ⟨rfl, by decide +kernel, am_t6 218 rfl, am_t1 1 rfl, Nat.le_of_ble_eq_true rfl, (fun h => absurd h (by decide +kernel)), Or.inr ⟨am_t6 216 rfl, Or.inr (am_t6 217 rfl)⟩, ⟨by decide +kernel, by decide +kernel⟩, fun k => ⟨fun h => (Option.some.inj h).symm, fun h => h ▸ rfl⟩⟩
theorem am_pp196 : am_PP 196 := ⟨rfl, by decide +kernel, am_t6 223 rfl, am_t1 13 rfl, Nat.le_of_ble_eq_true rfl, fun _ => rfl, Or.inr ⟨am_t6 222 rfl, Or.inl rfl⟩, ⟨by decide +kernel, by decide +kernel⟩, fun k => ⟨fun h => (Option.some.inj h).symm, fun h => h ▸ rfl⟩⟩
theorem am_pp197 : am_PP 197 := ⟨rfl, by decide +kernel, am_t7 133 rfl, am_t1 13 rfl, Nat.le_of_ble_eq_true rfl, (fun h => absurd h (by decide +kernel)), Or.inr ⟨am_t7 131 rfl, Or.inr (am_t7 132 rfl)⟩, ⟨by decide +kernel, by decide +kernel⟩, fun k => ⟨fun h => (Option.some.inj h).symm, fun h => h ▸ rfl⟩⟩
theorem am_pp198 : am_PP 198 := ⟨rfl, by decide +kernel, am_t7 137 rfl, am_t1 13 rfl, Nat.le_of_ble_eq_true rfl, (fun h => absurd h (by decide +kernel)), Or.inr ⟨am_t7 135 rfl, Or.inr (am_t7 136 rfl)⟩, ⟨by decide +kernel, by decide +kernel⟩, fun k => ⟨fun h => (Option.some.inj h).symm, fun h => h ▸ rfl⟩⟩
theorem am_pp199 : am_PP 199 := ⟨rfl, by decide +kernel, am_t7 141 rfl, am_t1 13 rfl, Nat.le_of_ble_eq_true rfl, (fun h => absurd h (by decide +kernel)), Or.inr ⟨am_t7 139 rfl, Or.inr (am_t7 140 rfl)⟩, ⟨by decide +kernel, by decide +kernel⟩, fun k => ⟨fun h => (Option.some.inj h).symm, fun h => h ▸ rfl⟩⟩
theorem am_pp200 : am_PP 200 := ⟨rfl, by decide +kernel, am_t8 160 rfl, am_t1 13 rfl, Nat.le_of_ble_eq_true rfl, (fun h => absurd h (by decide +kernel)), Or.inr ⟨am_t8 159 rfl, Or.inr (am_t0 103 rfl)⟩, ⟨by decide +kernel, by decide +kernel⟩, fun k => ⟨fun h => (Option.some.inj h).symm, fun h => h ▸ rfl⟩⟩
theorem am_pp201 : am_PP 201 := ⟨rfl, by decide +kernel, am_t7 149 rfl, am_t1 13 rfl, Nat.le_of_ble_eq_true rfl, (fun h => absurd h (by decide +kernel)), Or.inr ⟨am_t7 148 rfl, Or.inr (am_t0 55 rfl)⟩, ⟨by decide +kernel, by decide +kernel⟩, fun k => ⟨fun h => (Option.some.inj h).symm, fun h => h ▸ rfl⟩⟩
theorem am_pp202 : am_PP 202 := ⟨rfl, by decide +kernel, am_t8 96 rfl, am_t1 13 rfl, Nat.le_of_ble_eq_true rfl, (fun h => absurd h (by decide +kernel)), Or.inl (am_t8 95 rfl), ⟨by decide +kernel, by decide +kernel⟩, fun k => ⟨fun h => (Option.some.inj h).symm, fun h => h ▸ rfl⟩⟩
theorem am_pp203 : am_PP 203 := ⟨rfl, by decide +kernel, am_t8 230 rfl, am_t1 13 rfl, Nat.le_of_ble_eq_true rfl, (fun h => absurd h (by decide +kernel)), Or.inr ⟨am_t8 229 rfl, Or.inr (am_t0 112 rfl)⟩, ⟨by decide +kernel, by decide +kernel⟩, fun k => ⟨fun h => (Option.some.inj h).symm, fun h => h ▸ rfl⟩⟩
theorem am_pp204 : am_PP 204 := ⟨rfl, by decide +kernel, am_t7 164 rfl, am_t1 13 rfl, Nat.le_of_ble_eq_true rfl, (fun h => absurd h (by decide +kernel)), Or.inl (am_t7 163 rfl), ⟨by decide +kernel, by decide +kernel⟩, fun k => ⟨fun h => (Option.some.inj h).symm, fun h => h ▸ rfl⟩⟩
theorem am_pp205 : am_PP 205 := ⟨rfl, by decide +kernel, am_t7 145 rfl, am_t1 13 rfl, Nat.le_of_ble_eq_true rfl, (fun h => absurd h (by decide +kernel)), Or.inr ⟨am_t7 143 rfl, Or.inr (am_t7 144 rfl)⟩, ⟨by decide +kernel, by decide +kernel⟩, fun k => ⟨fun h => (Option.some.inj h).symm, fun h => h ▸ rfl⟩⟩
theorem am_pp206 : am_PP 206 := ⟨rfl, by decide +kernel, am_t7 161 rfl, am_t1 13 rfl, Nat.le_of_ble_eq_true rfl, (fun h => absurd h (by decide +kernel)), Or.inr ⟨am_t7 160 rfl, Or.inr (am_t0 57 rfl)⟩, ⟨by decide +kernel, by decide +kernel⟩, fun k => ⟨fun h => (Option.some.inj h).symm, fun h => h ▸ rfl⟩⟩
theorem am_pp207 : am_PP 207 := ⟨rfl, by decide +kernel, am_t7 157 rfl, am_t1 13 rfl, Nat.le_of_ble_eq_true rfl, (fun h => absurd h (by decide +kernel)), Or.inr ⟨am_t7 156 rfl, Or.inr (am_t0 56 rfl)⟩, ⟨by decide +kernel, by decide +kernel⟩, fun k => ⟨fun h => (Option.some.inj h).symm, fun h => h ▸ rfl⟩⟩
theorem am_pp208 : am_PP 208 := ⟨rfl, by decide +kernel, am_t7 153 rfl, am_t1 13 rfl, Nat.le_of_ble_eq_true rfl, (fun h => absurd h (by decide +kernel)), Or.inr ⟨am_t7 151 rfl, Or.inr (am_t7 152 rfl)⟩, ⟨by decide +kernel, by decide +kernel⟩, fun k => ⟨fun h => (Option.some.inj h).symm, fun h => h ▸ rfl⟩⟩
theorem am_pp209 : am_PP 209 := ⟨rfl, by decide +kernel, am_t7 168 rfl, am_t1 13 rfl, Nat.le_of_ble_eq_true rfl, (fun h => absurd h (by decide +kernel)), Or.inr ⟨am_t7 166 rfl, Or.inr (am_t7 167 rfl)⟩, ⟨by decide +kernel, by decide +kernel⟩, fun k => ⟨fun h => (Option.some.inj h).symm, fun h => h ▸ rfl⟩⟩
theorem am_pp210 : am_PP 210 := ⟨rfl, by decide +kernel, am_t7 173 rfl, am_t1 13 rfl, Nat.le_of_ble_eq_true rfl, (fun h => absurd h (by decide +kernel)), Or.inr ⟨am_t7 171 rfl, Or.inr (am_t7 172 rfl)⟩, ⟨by decide +kernel, by decide +kernel⟩, fun k => ⟨fun h => (Option.some.inj h).symm, fun h => h ▸ rfl⟩⟩
theorem am_pp211 : am_PP 211 := ⟨rfl, by decide +kernel, am_t9 229 rfl, am_t1 13 rfl, Nat.le_of_ble_eq_true rfl, (fun h => absurd h (by decide +kernel)), Or.inr ⟨am_t9 228 rfl, Or.inr (am_t0 139 rfl)⟩, ⟨by decide +kernel, by decide +kernel⟩, fun k => ⟨fun h => (Option.some.inj h).symm, fun h => h ▸ rfl⟩⟩
theorem am_pp212 : am_PP 212 := ⟨rfl, by decide +kernel, am_t9 1 rfl, am_t1 13 rfl, Nat.le_of_ble_eq_true rfl, (fun h => absurd h (by decide +kernel)), Or.inr ⟨am_t9 0 rfl, Or.inr (am_t0 113 rfl)⟩, ⟨by decide +kernel, by decide +kernel⟩, fun k => ⟨fun h => (Option.some.inj h).symm, fun h => h ▸ rfl⟩⟩
theorem am_pp213 : am_PP 213 := ⟨rfl, by decide +kernel, am_t8 123 rfl, am_t1 13 rfl, Nat.le_of_ble_eq_true rfl, (fun h => absurd h (by decide +kernel)), Or.inl (am_t8 122 rfl), ⟨by decide +kernel, by decide +kernel⟩, fun k => ⟨fun h => (Option.some.inj h).symm, fun h => h ▸ rfl⟩⟩
theorem am_pp214 : am_PP 214 := ⟨rfl, by decide +kernel, am_t9 95 rfl, am_t1 13 rfl, Nat.le_of_ble_eq_true rfl, (fun h => absurd h (by decide +kernel)), Or.inl (am_t9 94 rfl), ⟨by decide +kernel, by decide +kernel⟩, fun k => ⟨fun h => (Option.some.inj h).symm, fun h => h ▸ rfl⟩⟩
theorem am_pp215 : am_PP 215 := ⟨rfl, by decide +kernel, am_t7 201 rfl, am_t1 13 rfl, Nat.le_of_ble_eq_true rfl, (fun h => absurd h (by decide +kernel)), Or.inr ⟨am_t7 200 rfl, Or.inr (am_t0 61 rfl)⟩, ⟨by decide +kernel, by decide +kernel⟩, fun k => ⟨fun h => (Option.some.inj h).symm, fun h => h ▸ rfl⟩⟩
theorem am_pp216 : am_PP 216 := ⟨rfl, by decide +kernel, am_t7 204 rfl, am_t1 13 rfl, Nat.le_of_ble_eq_true rfl, (fun h => absurd h (by decide +kernel)), Or.inl (am_t7 203 rfl), ⟨by decide +kernel, by decide +kernel⟩, fun k => ⟨fun h => (Option.some.inj h).symm, fun h => h ▸ rfl⟩⟩
theorem am_pp217 : am_PP 217 := ⟨rfl, by decide +kernel, am_t7 209 rfl, am_t1 13 rfl, Nat.le_of_ble_eq_true rfl, (fun h => absurd h (by decide +kernel)), Or.inl (am_t7 208 rfl), ⟨by decide +kernel, by decide +kernel⟩, fun k => ⟨fun h => (Option.some.inj h).symm, fun h => h ▸ rfl⟩⟩
theorem am_pp218 : am_PP 218 := ⟨rfl, by decide +kernel, am_t7 213 rfl, am_t1 13 rfl, Nat.le_of_ble_eq_true rfl, (fun h => absurd h (by decide +kernel)), Or.inr ⟨am_t7 212 rfl, Or.inr (am_t0 62 rfl)⟩, ⟨by decide +kernel, by decide +kernel⟩, fun k => ⟨fun h => (Option.some.inj h).symm, fun h => h ▸ rfl⟩⟩
theorem am_pp219 : am_PP 219 := ⟨rfl, by decide +kernel, am_t7 197 rfl, am_t1 13 rfl, Nat.le_of_ble_eq_true rfl, (fun h => absurd h (by decide +kernel)), Or.inr ⟨am_t7 196 rfl, Or.inr (am_t0 60 rfl)⟩, ⟨by decide +kernel, by decide +kernel⟩, fun k => ⟨fun h => (Option.some.inj h).symm, fun h => h ▸ rfl⟩⟩
theorem am_pp220 : am_PP 220 := ⟨rfl, by decide +kernel, am_t8 127 rfl, am_t1 13 rfl, Nat.le_of_ble_eq_true rfl, (fun h => absurd h (by decide +kernel)), Or.inr ⟨am_t8 126 rfl, Or.inr (am_t0 97 rfl)⟩, ⟨by decide +kernel, by decide +kernel⟩, fun k => ⟨fun h => (Option.some.inj h).symm, fun h => h ▸ rfl⟩⟩
theorem am_pp221 : am_PP 221 := ⟨rfl, by decide +kernel, am_t7 220 rfl, am_t1 13 rfl, Nat.le_of_ble_eq_true rfl, (fun h => absurd h (by decide +kernel)), Or.inl (am_t7 219 rfl), ⟨by decide +kernel, by decide +kernel⟩, fun k => ⟨fun h => (Option.some.inj h).symm, fun h => h ▸ rfl⟩⟩
theorem am_pp222 : am_PP 222 := ⟨rfl, by decide +kernel, am_t7 224 rfl, am_t1 13 rfl, Nat.le_of_ble_eq_true rfl, (fun h => absurd h (by decide +kernel)), Or.inr ⟨am_t7 223 rfl, Or.inr (am_t0 64 rfl)⟩, ⟨by decide +kernel, by decide +kernel⟩, fun k => ⟨fun h => (Option.some.inj h).symm, fun h => h ▸ rfl⟩⟩
theorem am_pp223 : am_PP 223 := ⟨rfl, by decide +kernel, am_t7 217 rfl, am_t1 13 rfl, Nat.le_of_ble_eq_true rfl, (fun h => absurd h (by decide +kernel)), Or.inr ⟨am_t7 216 rfl, Or.inr (am_t0 63 rfl)⟩, ⟨by decide +kernel, by decide +kernel⟩, fun k => ⟨fun h => (Option.some.inj h).symm, fun h => h ▸ rfl⟩⟩
theorem am_pp224 : am_PP 224 := ⟨rfl, by decide +kernel, am_t8 8 rfl, am_t1 13 rfl, Nat.le_of_ble_eq_true rfl, (fun h => absurd h (by decide +kernel)), Or.inr ⟨am_t8 7 rfl, Or.inr (am_t0 70 rfl)⟩, ⟨by decide +kernel, by decide +kernel⟩, fun k => ⟨fun h => (Option.some.inj h).symm, fun h => h ▸ rfl⟩⟩
theorem am_pp225 : am_PP 225 := ⟨rfl, by decide +kernel, am_t8 12 rfl, am_t1 13 rfl, Nat.le_of_ble_eq_true rfl, (fun h => absurd h (by decide +kernel)), Or.inr ⟨am_t8 11 rfl, Or.inr (am_t0 71 rfl)⟩, ⟨by decide +kernel, by decide +kernel⟩, fun k => ⟨fun h => (Option.some.inj h).symm, fun h => h ▸ rfl⟩⟩
theorem am_pp226 : am_PP 226 := ⟨rfl, by decide +kernel, am_t8 16 rfl, am_t1 13 rfl, Nat.le_of_ble_eq_true rfl, (fun h => absurd h (by decide +kernel)), Or.inr ⟨am_t8 15 rfl, Or.inr (am_t0 72 rfl)⟩, ⟨by decide +kernel, by decide +kernel⟩, fun k => ⟨fun h => (Option.some.inj h).symm, fun h => h ▸ rfl⟩⟩
theorem am_pp227 : am_PP 227 := ⟨rfl, by decide +kernel, am_t8 20 rfl, am_t1 13 rfl, Nat.le_of_ble_eq_true rfl, (fun h => absurd h (by decide +kernel)), Or.inr ⟨am_t8 19 rfl, Or.inr (am_t0 73 rfl)⟩, ⟨by decide +kernel, by decide +kernel⟩, fun k => ⟨fun h => (Option.some.inj h).symm, fun h => h ▸ rfl⟩⟩
theorem am_pp228 : am_PP 228 := ⟨rfl, by decide +kernel, am_t8 24 rfl, am_t1 13 rfl, Nat.le_of_ble_eq_true rfl, (fun h => absurd h (by decide +kernel)), Or.inr ⟨am_t8 23 rfl, Or.inr (am_t0 74 rfl)⟩, ⟨by decide +kernel, by decide +kernel⟩, fun k => ⟨fun h => (Option.some.inj h).symm, fun h => h ▸ rfl⟩⟩
theorem am_pp229 : am_PP 229 := ⟨rfl, by decide +kernel, am_t8 65 rfl, am_t1 13 rfl, Nat.le_of_ble_eq_true rfl, (fun h => absurd h (by decide +kernel)), Or.inr ⟨am_t8 64 rfl, Or.inr (am_t0 84 rfl)⟩, ⟨by decide +kernel, by decide +kernel⟩, fun k => ⟨fun h => (Option.some.inj h).symm, fun h => h ▸ rfl⟩⟩
theorem am_pp230 : am_PP 230 := ⟨rfl, by decide +kernel, am_t8 28 rfl, am_t1 13 rfl, Nat.le_of_ble_eq_true rfl, (fun h => absurd h (by decide +kernel)), Or.inr ⟨am_t8 27 rfl, Or.inr (am_t0 75 rfl)⟩, ⟨by decide +kernel, by decide +kernel⟩, fun k => ⟨fun h => (Option.some.inj h).symm, fun h => h ▸ rfl⟩⟩
theorem am_pp231 : am_PP 231 := ⟨rfl, by decide +kernel, am_t8 32 rfl, am_t1 13 rfl, Nat.le_of_ble_eq_true rfl, (fun h => absurd h (by decide +kernel)), Or.inr ⟨am_t8 31 rfl, Or.inr (am_t0 76 rfl)⟩, ⟨by decide +kernel, by decide +kernel⟩, fun k => ⟨fun h => (Option.some.inj h).symm, fun h => h ▸ rfl⟩⟩
theorem am_pp232 : am_PP 232 := ⟨rfl, by decide +kernel, am_t8 36 rfl, am_t1 13 rfl, Nat.le_of_ble_eq_true rfl, (fun h => absurd h (by decide +kernel)), Or.inr ⟨am_t8 35 rfl, Or.inr (am_t0 77 rfl)⟩, ⟨by decide +kernel, by decide +kernel⟩, fun k => ⟨fun h => (Option.some.inj h).symm, fun h => h ▸ rfl⟩⟩
theorem am_pp233 : am_PP 233 := ⟨rfl, by decide +kernel, am_t8 40 rfl, am_t1 13 rfl, Nat.le_of_ble_eq_true rfl, (fun h => absurd h (by decide +kernel)), Or.inr ⟨am_t8 39 rfl, Or.inr (am_t0 78 rfl)⟩, ⟨by decide +kernel, by decide +kernel⟩, fun k => ⟨fun h => (Option.some.inj h).symm, fun h => h ▸ rfl⟩⟩
theorem am_pp234 : am_PP 234 := ⟨rfl, by decide +kernel, am_t8 45 rfl, am_t1 13 rfl, Nat.le_of_ble_eq_true rfl, (fun h => absurd h (by decide +kernel)), Or.inr ⟨am_t8 44 rfl, Or.inr (am_t0 79 rfl)⟩, ⟨by decide +kernel, by decide +kernel⟩, fun k => ⟨fun h => (Option.some.inj h).symm, fun h => h ▸ rfl⟩⟩
theorem am_pp235 : am_PP 235 := ⟨rfl, by decide +kernel, am_t8 49 rfl, am_t1 13 rfl, Nat.le_of_ble_eq_true rfl, (fun h => absurd h (by decide +kernel)), Or.inr ⟨am_t8 48 rfl, Or.inr (am_t0 80 rfl)⟩, ⟨by decide +kernel, by decide +kernel⟩, fun k => ⟨fun h => (Option.some.inj h).symm, fun h => h ▸ rfl⟩⟩
theorem am_pp236 : am_PP 236 := ⟨rfl, by decide +kernel, am_t8 53 rfl, am_t1 13 rfl, Nat.le_of_ble_eq_true rfl, (fun h => absurd h (by decide +kernel)), Or.inr ⟨am_t8 52 rfl, Or.inr (am_t0 81 rfl)⟩, ⟨by decide +kernel, by decide +kernel⟩, fun k => ⟨fun h => (Option.some.inj h).symm, fun h => h ▸ rfl⟩⟩
theorem am_pp237 : am_PP 237 := ⟨rfl, by decide +kernel, am_t8 57 rfl, am_t1 13 rfl, Nat.le_of_ble_eq_true rfl, (fun h => absurd h (by decide +kernel)), Or.inr ⟨am_t8 56 rfl, Or.inr (am_t0 82 rfl)⟩, ⟨by decide +kernel, by decide +kernel⟩, fun k => ⟨fun h => (Option.some.inj h).symm, fun h => h ▸ rfl⟩⟩
theorem am_pp238 : am_PP 238 := ⟨rfl, by decide +kernel, am_t8 61 rfl, am_t1 13 rfl, Nat.le_of_ble_eq_true rfl, (fun h => absurd h (by decide +kernel)), Or.inr ⟨am_t8 60 rfl, Or.inr (am_t0 83 rfl)⟩, ⟨by decide +kernel, by decide +kernel⟩, fun k => ⟨fun h => (Option.some.inj h).symm, fun h => h ▸ rfl⟩⟩
theorem am_pp239 : am_PP 239 := ⟨rfl, by decide +kernel, am_t8 69 rfl, am_t1 13 rfl, Nat.le_of_ble_eq_true rfl, (fun h => absurd h (by decide +kernel)), Or.inr ⟨am_t8 68 rfl, Or.inr (am_t0 85 rfl)⟩, ⟨by decide +kernel, by decide +kernel⟩, fun k => ⟨fun h => (Option.some.inj h).symm, fun h => h ▸ rfl⟩⟩
theorem am_pp240 : am_PP 240 := ⟨rfl, by decide +kernel, am_t8 73 rfl, am_t1 13 rfl, Nat.le_of_ble_eq_true rfl, (fun h => absurd h (by decide +kernel)), Or.inr ⟨am_t8 72 rfl, Or.inr (am_t0 86 rfl)⟩, ⟨by decide +kernel, by decide +kernel⟩, fun k => ⟨fun h => (Option.some.inj h).symm, fun h => h ▸ rfl⟩⟩
theorem am_pp241 : am_PP 241 := ⟨rfl, by decide +kernel, am_t8 4 rfl, am_t1 13 rfl, Nat.le_of_ble_eq_true rfl, (fun h => absurd h (by decide +kernel)), Or.inr ⟨am_t8 3 rfl, Or.inr (am_t0 69 rfl)⟩, ⟨by decide +kernel, by decide +kernel⟩, fun k => ⟨fun h => (Option.some.inj h).symm, fun h => h ▸ rfl⟩⟩
theorem am_pp242 : am_PP 242 := ⟨rfl, by decide +kernel, am_t8 0 rfl, am_t1 13 rfl, Nat.le_of_ble_eq_true rfl, (fun h => absurd h (by decide +kernel)), Or.inr ⟨am_t7 239 rfl, Or.inr (am_t0 68 rfl)⟩, ⟨by decide +kernel, by decide +kernel⟩, fun k => ⟨fun h => (Option.some.inj h).symm, fun h => h ▸ rfl⟩⟩
theorem am_pp243 : am_PP 243 := ⟨rfl, by decide +kernel, am_t7 236 rfl, am_t1 13 rfl, Nat.le_of_ble_eq_true rfl, (fun h => absurd h (by decide +kernel)), Or.inr ⟨am_t7 235 rfl, Or.inr (am_t0 67 rfl)⟩, ⟨by decide +kernel, by decide +kernel⟩, fun k => ⟨fun h => (Option.some.inj h).symm, fun h => h ▸ rfl⟩⟩
theorem am_pp244 : am_PP 244 := ⟨rfl, by decide +kernel, am_t8 77 rfl, am_t1 13 rfl, Nat.le_of_ble_eq_true rfl, (fun h => absurd h (by decide +kernel)), Or.inr ⟨am_t8 76 rfl, Or.inr (am_t0 87 rfl)⟩, ⟨by decide +kernel, by decide +kernel⟩, fun k => ⟨fun h => (Option.some.inj h).symm, fun h => h ▸ rfl⟩⟩
theorem am_pp245 : am_PP 245 := ⟨rfl, by decide +kernel, am_t8 89 rfl, am_t1 13 rfl, Nat.le_of_ble_eq_true rfl, (fun h => absurd h (by decide +kernel)), Or.inr ⟨am_t8 88 rfl, Or.inr (am_t0 90 rfl)⟩, ⟨by decide +kernel, by decide +kernel⟩, fun k => ⟨fun h => (Option.some.inj h).symm, fun h => h ▸ rfl⟩⟩
theorem am_pp246 : am_PP 246 := ⟨rfl, by decide +kernel, am_t8 93 rfl, am_t1 13 rfl, Nat.le_of_ble_eq_true rfl, (fun h => absurd h (by decide +kernel)), Or.inr ⟨am_t8 92 rfl, Or.inr (am_t0 91 rfl)⟩, ⟨by decide +kernel, by decide +kernel⟩, fun k => ⟨fun h => (Option.some.inj h).symm, fun h => h ▸ rfl⟩⟩
theorem am_pp247 : am_PP 247 := ⟨rfl, by decide +kernel, am_t8 85 rfl, am_t1 13 rfl, Nat.le_of_ble_eq_true rfl, (fun h => absurd h (by decide +kernel)), Or.inr ⟨am_t8 84 rfl, Or.inr (am_t0 89 rfl)⟩, ⟨by decide +kernel, by decide +kernel⟩, fun k => ⟨fun h => (Option.some.inj h).symm, fun h => h ▸ rfl⟩⟩
theorem am_pp248 : am_PP 248 := ⟨rfl, by decide +kernel, am_t7 177 rfl, am_t1 13 rfl, Nat.le_of_ble_eq_true rfl, (fun h => absurd h (by decide +kernel)), Or.inr ⟨am_t7 175 rfl, Or.inr (am_t7 176 rfl)⟩, ⟨by decide +kernel, by decide +kernel⟩, fun k => ⟨fun h => (Option.some.inj h).symm, fun h => h ▸ rfl⟩⟩
theorem am_pp249 : am_PP 249 := ⟨rfl, by decide +kernel, am_t7 181 rfl, am_t1 13 rfl, Nat.le_of_ble_eq_true rfl, (fun h => absurd h (by decide +kernel)), Or.inr ⟨am_t7 180 rfl, Or.inr (am_t0 58 rfl)⟩, ⟨by decide +kernel, by decide +kernel⟩, fun k => ⟨fun h => (Option.some.inj h).symm, fun h => h ▸ rfl⟩⟩
theorem am_pp250 : am_PP 250 := ⟨rfl, by decide +kernel, am_t7 193 rfl, am_t1 13 rfl, Nat.le_of_ble_eq_true rfl, (fun h => absurd h (by decide +kernel)), Or.inr ⟨am_t7 192 rfl, Or.inr (am_t0 59 rfl)⟩, ⟨by decide +kernel, by decide +kernel⟩, fun k => ⟨fun h => (Option.some.inj h).symm, fun h => h ▸ rfl⟩⟩
theorem am_pp251 : am_PP 251 := ⟨rfl, by decide +kernel, am_t8 131 rfl, am_t1 13 rfl, Nat.le_of_ble_eq_true rfl, (fun h => absurd h (by decide +kernel)), Or.inr ⟨am_t8 130 rfl, Or.inr (am_t0 98 rfl)⟩, ⟨by decide +kernel, by decide +kernel⟩, fun k => ⟨fun h => (Option.some.inj h).symm, fun h => h ▸ rfl⟩⟩
theorem am_pp252 : am_PP 252 := ⟨rfl, by decide +kernel, am_t7 185 rfl, am_t1 13 rfl, Nat.le_of_ble_eq_true rfl, (fun h => absurd h (by decide +kernel)), Or.inr ⟨am_t7 183 rfl, Or.inr (am_t7 184 rfl)⟩, ⟨by decide +kernel, by decide +kernel⟩, fun k => ⟨fun h => (Option.some.inj h).symm, fun h => h ▸ rfl⟩⟩
theorem am_pp253 : am_PP 253 := ⟨rfl, by decide +kernel, am_t8 81 rfl, am_t1 13 rfl, Nat.le_of_ble_eq_true rfl, (fun h => absurd h (by decide +kernel)), Or.inr ⟨am_t8 80 rfl, Or.inr (am_t0 88 rfl)⟩, ⟨by decide +kernel, by decide +kernel⟩, fun k => ⟨fun h => (Option.some.inj h).symm, fun h => h ▸ rfl⟩⟩
theorem am_pp254 : am_PP 254 := ⟨rfl, by decide +kernel, am_t7 232 rfl, am_t1 13 rfl, Nat.le_of_ble_eq_true rfl, (fun h => absurd h (by decide +kernel)), Or.inr ⟨am_t7 231 rfl, Or.inr (am_t0 66 rfl)⟩, ⟨by decide +kernel, by decide +kernel⟩, fun k => ⟨fun h => (Option.some.inj h).symm, fun h => h ▸ rfl⟩⟩
theorem am_pp255 : am_PP 255 := ⟨rfl, by decide +kernel, am_t8 105 rfl, am_t1 13 rfl, Nat.le_of_ble_eq_true rfl, (fun h => absurd h (by decide +kernel)), Or.inr ⟨am_t8 104 rfl, Or.inr (am_t0 93 rfl)⟩, ⟨by decide +kernel, by decide +kernel⟩, fun k => ⟨fun h => (Option.some.inj h).symm, fun h => h ▸ rfl⟩⟩
theorem am_pp256 : am_PP 256 := ⟨rfl, by decide +kernel, am_t7 228 rfl, am_t1 13 rfl, Nat.le_of_ble_eq_true rfl, (fun h => absurd h (by decide +kernel)), Or.inr ⟨am_t7 227 rfl, Or.inr (am_t0 65 rfl)⟩, ⟨by decide +kernel, by decide +kernel⟩, fun k => ⟨fun h => (Option.some.inj h).symm, fun h => h ▸ rfl⟩⟩
theorem am_pp257 : am_PP 257 := ⟨rfl, by decide +kernel, am_t8 101 rfl, am_t1 13 rfl, Nat.le_of_ble_eq_true rfl, (fun h => absurd h (by decide +kernel)), Or.inr ⟨am_t8 100 rfl, Or.inr (am_t0 92 rfl)⟩, ⟨by decide +kernel, by decide +kernel⟩, fun k => ⟨fun h => (Option.some.inj h).symm, fun h => h ▸ rfl⟩⟩
theorem am_pp258 : am_PP 258 := ⟨rfl, by decide +kernel, am_t8 112 rfl, am_t1 13 rfl, Nat.le_of_ble_eq_true rfl, (fun h => absurd h (by decide +kernel)), Or.inr ⟨am_t8 111 rfl, Or.inr (am_t0 94 rfl)⟩, ⟨by decide +kernel, by decide +kernel⟩, fun k => ⟨fun h => (Option.some.inj h).symm, fun h => h ▸ rfl⟩⟩
theorem am_pp259 : am_PP 259 := ⟨rfl, by decide +kernel, am_t8 116 rfl, am_t1 13 rfl, Nat.le_of_ble_eq_true rfl, (fun h => absurd h (by decide +kernel)), Or.inr ⟨am_t8 115 rfl, Or.inr (am_t0 95 rfl)⟩, ⟨by decide +kernel, by decide +kernel⟩, fun k => ⟨fun h => (Option.some.inj h).symm, fun h => h ▸ rfl⟩⟩
theorem am_pp260 : am_PP 260 := ⟨rfl, by decide +kernel, am_t8 120 rfl, am_t1 13 rfl, Nat.le_of_ble_eq_true rfl, (fun h => absurd h (by decide +kernel)), Or.inr ⟨am_t8 119 rfl, Or.inr (am_t0 96 rfl)⟩, ⟨by decide +kernel, by decide +kernel⟩, fun k => ⟨fun h => (Option.some.inj h).symm, fun h => h ▸ rfl⟩⟩
theorem am_pp261 : am_PP 261 := ⟨rfl, by decide +kernel, am_t7 189 rfl, am_t1 13 rfl, Nat.le_of_ble_eq_true rfl, (fun h => absurd h (by decide +kernel)), Or.inr ⟨am_t7 187 rfl, Or.inr (am_t7 188 rfl)⟩, ⟨by decide +kernel, by decide +kernel⟩, fun k => ⟨fun h => (Option.some.inj h).symm, fun h => h ▸ rfl⟩⟩
theorem am_pp262 : am_PP 262 := ⟨rfl, by decide +kernel, am_t8 151 rfl, am_t1 13 rfl, Nat.le_of_ble_eq_true rfl, (fun h => absurd h (by decide +kernel)), Or.inr ⟨am_t8 150 rfl, Or.inr (am_t0 102 rfl)⟩, ⟨by decide +kernel, by decide +kernel⟩, fun k => ⟨fun h => (Option.some.inj h).symm, fun h => h ▸ rfl⟩⟩
theorem am_pp263 : am_PP 263 := ⟨rfl, by decide +kernel, am_t8 147 rfl, am_t1 13 rfl, Nat.le_of_ble_eq_true rfl, (fun h => absurd h (by decide +kernel)), Or.inr ⟨am_t8 146 rfl, Or.inr (am_t0 101 rfl)⟩, ⟨by decide +kernel, by decide +kernel⟩, fun k => ⟨fun h => (Option.some.inj h).symm, fun h => h ▸ rfl⟩⟩
theorem am_pp264 : am_PP 264 := ⟨rfl, by decide +kernel, am_t8 143 rfl, am_t1 13 rfl, Nat.le_of_ble_eq_true rfl, (fun h => absurd h (by decide +kernel)), Or.inr ⟨am_t8 142 rfl, Or.inr (am_t0 100 rfl)⟩, ⟨by decide +kernel, by decide +kernel⟩, fun k => ⟨fun h => (Option.some.inj h).symm, fun h => h ▸ rfl⟩⟩
theorem am_pp265 : am_PP 265 := ⟨rfl, by decide +kernel, am_t8 139 rfl, am_t1 13 rfl, Nat.le_of_ble_eq_true rfl, (fun h => absurd h (by decide +kernel)), Or.inr ⟨am_t8 137 rfl, Or.inr (am_t8 138 rfl)⟩, ⟨by decide +kernel, by decide +kernel⟩, fun k => ⟨fun h => (Option.some.inj h).symm, fun h => h ▸ rfl⟩⟩
theorem am_pp266 : am_PP 266 := ⟨rfl, by decide +kernel, am_t8 176 rfl, am_t1 13 rfl, Nat.le_of_ble_eq_true rfl, (fun h => absurd h (by decide +kernel)), Or.inr ⟨am_t8 175 rfl, Or.inr (am_t0 106 rfl)⟩, ⟨by decide +kernel, by decide +kernel⟩, fun k => ⟨fun h => (Option.some.inj h).symm, fun h => h ▸ rfl⟩⟩
theorem am_pp267 : am_PP 267 := ⟨rfl, by decide +kernel, am_t8 197 rfl, am_t1 13 rfl, Nat.le_of_ble_eq_true rfl, (fun h => absurd h (by decide +kernel)), Or.inr ⟨am_t8 196 rfl, Or.inr (am_t0 109 rfl)⟩, ⟨by decide +kernel, by decide +kernel⟩, fun k => ⟨fun h => (Option.some.inj h).symm, fun h => h ▸ rfl⟩⟩
theorem am_pp268 : am_PP 268 := ⟨rfl, by decide +kernel, am_t8 205 rfl, am_t1 13 rfl, Nat.le_of_ble_eq_true rfl, (fun h => absurd h (by decide +kernel)), Or.inr ⟨am_t8 204 rfl, Or.inr (am_t0 110 rfl)⟩, ⟨by decide +kernel, by decide +kernel⟩, fun k => ⟨fun h => (Option.some.inj h).symm, fun h => h ▸ rfl⟩⟩
theorem am_pp269 : am_PP 269 := ⟨rfl, by decide +kernel, am_t8 213 rfl, am_t1 13 rfl, Nat.le_of_ble_eq_true rfl, (fun h => absurd h (by decide +kernel)), Or.inr ⟨am_t8 212 rfl, Or.inr (am_t0 111 rfl)⟩, ⟨by decide +kernel, by decide +kernel⟩, fun k => ⟨fun h => (Option.some.inj h).symm, fun h => h ▸ rfl⟩⟩
theorem am_pp270 : am_PP 270 := ⟨rfl, by decide +kernel, am_t8 185 rfl, am_t1 13 rfl, Nat.le_of_ble_eq_true rfl, (fun h => absurd h (by decide +kernel)), Or.inr ⟨am_t8 184 rfl, Or.inr (am_t0 108 rfl)⟩, ⟨by decide +kernel, by decide +kernel⟩, fun k => ⟨fun h => (Option.some.inj h).symm, fun h => h ▸ rfl⟩⟩
theorem am_pp271 : am_PP 271 := ⟨rfl, by decide +kernel, am_t8 181 rfl, am_t1 13 rfl, Nat.le_of_ble_eq_true rfl, (fun h => absurd h (by decide +kernel)), Or.inr ⟨am_t8 180 rfl, Or.inr (am_t0 107 rfl)⟩, ⟨by decide +kernel, by decide +kernel⟩, fun k => ⟨fun h => (Option.some.inj h).symm, fun h => h ▸ rfl⟩⟩
theorem am_pp272 : am_PP 272 := ⟨rfl, by decide +kernel, am_t8 168 rfl, am_t1 13 rfl, Nat.le_of_ble_eq_true rfl, (fun h => absurd h (by decide +kernel)), Or.inr ⟨am_t8 167 rfl, Or.inr (am_t0 105 rfl)⟩, ⟨by decide +kernel, by decide +kernel⟩, fun k => ⟨fun h => (Option.some.inj h).symm, fun h => h ▸ rfl⟩⟩
theorem am_pp273 : am_PP 273 := ⟨rfl, by decide +kernel, am_t8 164 rfl, am_t1 13 rfl, Nat.le_of_ble_eq_true rfl, (fun h => absurd h (by decide +kernel)), Or.inr ⟨am_t8 163 rfl, Or.inr (am_t0 104 rfl)⟩, ⟨by decide +kernel, by decide +kernel⟩, fun k => ⟨fun h => (Option.some.inj h).symm, fun h => h ▸ rfl⟩⟩
theorem am_pp274 : am_PP 274 := ⟨rfl, by decide +kernel, am_t8 155 rfl, am_t1 13 rfl, Nat.le_of_ble_eq_true rfl, (fun h => absurd h (by decide +kernel)), Or.inr ⟨am_t8 153 rfl, Or.inr (am_t8 154 rfl)⟩, ⟨by decide +kernel, by decide +kernel⟩, fun k => ⟨fun h => (Option.some.inj h).symm, fun h => h ▸ rfl⟩⟩
theorem am_pp275 : am_PP 275 := ⟨rfl, by decide +kernel, am_t8 172 rfl, am_t1 13 rfl, Nat.le_of_ble_eq_true rfl, (fun h => absurd h (by decide +kernel)), Or.inr ⟨am_t8 170 rfl, Or.inr (am_t8 171 rfl)⟩, ⟨by decide +kernel, by decide +kernel⟩, fun k => ⟨fun h => (Option.some.inj h).symm, fun h => h ▸ rfl⟩⟩
theorem am_pp276 : am_PP 276 := ⟨rfl, by decide +kernel, am_t8 189 rfl, am_t1 13 rfl, Nat.le_of_ble_eq_true rfl, (fun h => absurd h (by decide +kernel)), Or.inr ⟨am_t8 187 rfl, Or.inr (am_t8 188 rfl)⟩, ⟨by decide +kernel, by decide +kernel⟩, fun k => ⟨fun h => (Option.some.inj h).symm, fun h => h ▸ rfl⟩⟩
theorem am_pp277 : am_PP 277 := ⟨rfl, by decide +kernel, am_t8 193 rfl, am_t1 13 rfl, Nat.le_of_ble_eq_true rfl, (fun h => absurd h (by decide +kernel)), Or.inr ⟨am_t8 191 rfl, Or.inr (am_t8 192 rfl)⟩, ⟨by decide +kernel, by decide +kernel⟩, fun k => ⟨fun h => (Option.some.inj h).symm, fun h => h ▸ rfl⟩⟩
theorem am_pp278 : am_PP 278 := ⟨rfl, by decide +kernel, am_t8 201 rfl, am_t1 13 rfl, Nat.le_of_ble_eq_true rfl, (fun h => absurd h (by decide +kernel)), Or.inr ⟨am_t8 199 rfl, Or.inr (am_t8 200 rfl)⟩, ⟨by decide +kernel, by decide +kernel⟩, fun k => ⟨fun h => (Option.some.inj h).symm, fun h => h ▸ rfl⟩⟩
theorem am_pp279 : am_PP 279 := ⟨rfl, by decide +kernel, am_t8 209 rfl, am_t1 13 rfl, Nat.le_of_ble_eq_true rfl, (fun h => absurd h (by decide +kernel)), Or.inr ⟨am_t8 207 rfl, Or.inr (am_t8 208 rfl)⟩, ⟨by decide +kernel, by decide +kernel⟩, fun k => ⟨fun h => (Option.some.inj h).symm, fun h => h ▸ rfl⟩⟩
theorem am_pp280 : am_PP 280 := ⟨rfl, by decide +kernel, am_t8 218 rfl, am_t1 13 rfl, Nat.le_of_ble_eq_true rfl, (fun h => absurd h (by decide +kernel)), Or.inr ⟨am_t8 216 rfl, Or.inr (am_t8 217 rfl)⟩, ⟨by decide +kernel, by decide +kernel⟩, fun k => ⟨fun h => (Option.some.inj h).symm, fun h => h ▸ rfl⟩⟩
theorem am_pp281 : am_PP 281 := ⟨rfl, by decide +kernel, am_t8 222 rfl, am_t1 13 rfl, Nat.le_of_ble_eq_true rfl, (fun h => absurd h (by decide +kernel)), Or.inr ⟨am_t8 220 rfl, Or.inr (am_t8 221 rfl)⟩, ⟨by decide +kernel, by decide +kernel⟩, fun k => ⟨fun h => (Option.some.inj h).symm, fun h => h ▸ rfl⟩⟩
theorem am_pp282 : am_PP 282 := ⟨rfl, by decide +kernel, am_t8 226 rfl, am_t1 13 rfl, Nat.le_of_ble_eq_true rfl, (fun h => absurd h (by decide +kernel)), Or.inr ⟨am_t8 224 rfl, Or.inr (am_t8 225 rfl)⟩, ⟨by decide +kernel, by decide +kernel⟩, fun k => ⟨fun h => (Option.some.inj h).symm, fun h => h ▸ rfl⟩⟩
theorem am_pp283 : am_PP 283 := ⟨rfl, by decide +kernel, am_t8 237 rfl, am_t1 13 rfl, Nat.le_of_ble_eq_true rfl, (fun h => absurd h (by decide +kernel)), Or.inr ⟨am_t8 235 rfl, Or.inr (am_t8 236 rfl)⟩, ⟨by decide +kernel, by decide +kernel⟩, fun k => ⟨fun h => (Option.some.inj h).symm, fun h => h ▸ rfl⟩⟩
theorem am_pp284 : am_PP 284 := ⟨rfl, by decide +kernel, am_t9 22 rfl, am_t1 13 rfl, Nat.le_of_ble_eq_true rfl, (fun h => absurd h (by decide +kernel)), Or.inr ⟨am_t9 21 rfl, Or.inr (am_t0 116 rfl)⟩, ⟨by decide +kernel, by decide +kernel⟩, fun k => ⟨fun h => (Option.some.inj h).symm, fun h => h ▸ rfl⟩⟩
theorem am_pp285 : am_PP 285 := ⟨rfl, by decide +kernel, am_t9 26 rfl, am_t1 13 rfl, Nat.le_of_ble_eq_true rfl, (fun h => absurd h (by decide +kernel)), Or.inr ⟨am_t9 25 rfl, Or.inr (am_t0 117 rfl)⟩, ⟨by decide +kernel, by decide +kernel⟩, fun k => ⟨fun h => (Option.some.inj h).symm, fun h => h ▸ rfl⟩⟩
theorem am_pp286 : am_PP 286 := ⟨rfl, by decide +kernel, am_t9 34 rfl, am_t1 13 rfl, Nat.le_of_ble_eq_true rfl, (fun h => absurd h (by decide +kernel)), Or.inr ⟨am_t9 33 rfl, Or.inr (am_t0 119 rfl)⟩, ⟨by decide +kernel, by decide +kernel⟩, fun k => ⟨fun h => (Option.some.inj h).symm, fun h => h ▸ rfl⟩⟩
theorem am_pp287 : am_PP 287 := ⟨rfl, by decide +kernel, am_t9 30 rfl, am_t1 13 rfl, Nat.le_of_ble_eq_true rfl, (fun h => absurd h (by decide +kernel)), Or.inr ⟨am_t9 29 rfl, Or.inr (am_t0 118 rfl)⟩, ⟨by decide +kernel, by decide +kernel⟩, fun k => ⟨fun h => (Option.some.inj h).symm, fun h => h ▸ rfl⟩⟩
theorem am_pp288 : am_PP 288 := ⟨rfl, by decide +kernel, am_t9 42 rfl, am_t1 13 rfl, Nat.le_of_ble_eq_true rfl, (fun h => absurd h (by decide +kernel)), Or.inr ⟨am_t9 41 rfl, Or.inr (am_t0 121 rfl)⟩, ⟨by decide +kernel, by decide +kernel⟩, fun k => ⟨fun h => (Option.some.inj h).symm, fun h => h ▸ rfl⟩⟩
theorem am_pp289 : am_PP 289 := ⟨rfl, by decide +kernel, am_t9 46 rfl, am_t1 13 rfl, Nat.le_of_ble_eq_true rfl, (fun h => absurd h (by decide +kernel)), Or.inr ⟨am_t9 45 rfl, Or.inr (am_t0 122 rfl)⟩, ⟨by decide +kernel, by decide +kernel⟩, fun k => ⟨fun h => (Option.some.inj h).symm, fun h => h ▸ rfl⟩⟩
theorem am_pp290 : am_PP 290 := ⟨rfl, by decide +kernel, am_t9 38 rfl, am_t1 13 rfl, Nat.le_of_ble_eq_true rfl, (fun h => absurd h (by decide +kernel)), Or.inr ⟨am_t9 37 rfl, Or.inr (am_t0 120 rfl)⟩, ⟨by decide +kernel, by decide +kernel⟩, fun k => ⟨fun h => (Option.some.inj h).symm, fun h => h ▸ rfl⟩⟩
theorem am_pp291 : am_PP 291 := ⟨rfl, by decide +kernel, am_t9 18 rfl, am_t1 13 rfl, Nat.le_of_ble_eq_true rfl, (fun h => absurd h (by decide +kernel)), Or.inr ⟨am_t9 17 rfl, Or.inr (am_t0 115 rfl)⟩, ⟨by decide +kernel, by decide +kernel⟩, fun k => ⟨fun h => (Option.some.inj h).symm, fun h => h ▸ rfl⟩⟩
theorem am_pp292 : am_PP 292 := ⟨rfl, by decide +kernel, am_t9 13 rfl, am_t1 13 rfl, Nat.le_of_ble_eq_true rfl, (fun h => absurd h (by decide +kernel)), Or.inr ⟨am_t9 12 rfl, Or.inr (am_t0 114 rfl)⟩, ⟨by decide +kernel, by decide +kernel⟩, fun k => ⟨fun h => (Option.some.inj h).symm, fun h => h ▸ rfl⟩⟩
theorem am_pp293 : am_PP 293 := ⟨rfl, by decide +kernel, am_t9 55 rfl, am_t1 13 rfl, Nat.le_of_ble_eq_true rfl, (fun h => absurd h (by decide +kernel)), Or.inr ⟨am_t9 54 rfl, Or.inr (am_t0 123 rfl)⟩, ⟨by decide +kernel, by decide +kernel⟩, fun k => ⟨fun h => (Option.some.inj h).symm, fun h => h ▸ rfl⟩⟩
theorem am_pp294 : am_PP 294 := ⟨rfl, by decide +kernel, am_t9 5 rfl, am_t1 13 rfl, Nat.le_of_ble_eq_true rfl, (fun h => absurd h (by decide +kernel)), Or.inr ⟨am_t9 3 rfl, Or.inr (am_t9 4 rfl)⟩, ⟨by decide +kernel, by decide +kernel⟩, fun k => ⟨fun h => (Option.some.inj h).symm, fun h => h ▸ rfl⟩⟩
theorem am_pp295 : am_PP 295 := ⟨rfl, by decide +kernel, am_t9 9 rfl, am_t1 13 rfl, Nat.le_of_ble_eq_true rfl, (fun h => absurd h (by decide +kernel)), Or.inr ⟨am_t9 7 rfl, Or.inr (am_t9 8 rfl)⟩, ⟨by decide +kernel, by decide +kernel⟩, fun k => ⟨fun h => (Option.some.inj h).symm, fun h => h ▸ rfl⟩⟩
theorem am_pp296 : am_PP 296 := ⟨rfl, by decide +kernel, am_t9 50 rfl, am_t1 13 rfl, Nat.le_of_ble_eq_true rfl, (fun h => absurd h (by decide +kernel)), Or.inr ⟨am_t9 48 rfl, Or.inr (am_t9 49 rfl)⟩, ⟨by decide +kernel, by decide +kernel⟩, fun k => ⟨fun h => (Option.some.inj h).symm, fun h => h ▸ rfl⟩⟩
theorem am_pp297 : am_PP 297 := ⟨rfl, by decide +kernel, am_t9 63 rfl, am_t1 13 rfl, Nat.le_of_ble_eq_true rfl, (fun h => absurd h (by decide +kernel)), Or.inr ⟨am_t9 62 rfl, Or.inr (am_t0 124 rfl)⟩, ⟨by decide +kernel, by decide +kernel⟩, fun k => ⟨fun h => (Option.some.inj h).symm, fun h => h ▸ rfl⟩⟩
theorem am_pp298 : am_PP 298 := ⟨rfl, by decide +kernel, am_t9 59 rfl, am_t1 13 rfl, Nat.le_of_ble_eq_true rfl, (fun h => absurd h (by decide +kernel)), Or.inr ⟨am_t9 57 rfl, Or.inr (am_t9 58 rfl)⟩, ⟨by decide +kernel, by decide +kernel⟩, fun k => ⟨fun h => (Option.some.inj h).symm, fun h => h ▸ rfl⟩⟩
theorem am_pp299 : am_PP 299 := ⟨rfl, by decide +kernel, am_t9 67 rfl, am_t1 13 rfl, Nat.le_of_ble_eq_true rfl, (fun h => absurd h (by decide +kernel)), Or.inr ⟨am_t9 65 rfl, Or.inr (am_t9 66 rfl)⟩, ⟨by decide +kernel, by decide +kernel⟩, fun k => ⟨fun h => (Option.some.inj h).symm, fun h => h ▸ rfl⟩⟩
theorem am_pp300 : am_PP 300 := ⟨rfl, by decide +kernel, am_t9 71 rfl, am_t1 13 rfl, Nat.le_of_ble_eq_true rfl, (fun h => absurd h (by decide +kernel)), Or.inr ⟨am_t9 69 rfl, Or.inr (am_t9 70 rfl)⟩, ⟨by decide +kernel, by decide +kernel⟩, fun k => ⟨fun h => (Option.some.inj h).symm, fun h => h ▸ rfl⟩⟩
theorem am_pp301 : am_PP 301 := ⟨rfl, by decide +kernel, am_t9 75 rfl, am_t1 13 rfl, Nat.le_of_ble_eq_true rfl, (fun h => absurd h (by decide +kernel)), Or.inr ⟨am_t9 73 rfl, Or.inr (am_t9 74 rfl)⟩, ⟨by decide +kernel, by decide +kernel⟩, fun k => ⟨fun h => (Option.some.inj h).symm, fun h => h ▸ rfl⟩⟩
theorem am_pp302 : am_PP 302 := ⟨rfl, by decide +kernel, am_t9 79 rfl, am_t1 13 rfl, Nat.le_of_ble_eq_true rfl, (fun h => absurd h (by decide +kernel)), Or.inr ⟨am_t9 77 rfl, Or.inr (am_t9 78 rfl)⟩, ⟨by decide +kernel, by decide +kernel⟩, fun k => ⟨fun h => (Option.some.inj h).symm, fun h => h ▸ rfl⟩⟩
theorem am_pp303 : am_PP 303 := ⟨rfl, by decide +kernel, am_t9 92 rfl, am_t1 13 rfl, Nat.le_of_ble_eq_true rfl, (fun h => absurd h (by decide +kernel)), Or.inr ⟨am_t9 91 rfl, Or.inr (am_t0 126 rfl)⟩, ⟨by decide +kernel, by decide +kernel⟩, fun k => ⟨fun h => (Option.some.inj h).symm, fun h => h ▸ rfl⟩⟩
theorem am_pp304 : am_PP 304 := ⟨rfl, by decide +kernel, am_t9 88 rfl, am_t1 13 rfl, Nat.le_of_ble_eq_true rfl, (fun h => absurd h (by decide +kernel)), Or.inr ⟨am_t9 87 rfl, Or.inr (am_t0 125 rfl)⟩, ⟨by decide +kernel, by decide +kernel⟩, fun k => ⟨fun h => (Option.some.inj h).symm, fun h => h ▸ rfl⟩⟩
theorem am_pp305 : am_PP 305 := ⟨rfl, by decide +kernel, am_t9 84 rfl, am_t1 13 rfl, Nat.le_of_ble_eq_true rfl, (fun h => absurd h (by decide +kernel)), Or.inr ⟨am_t9 82 rfl, Or.inr (am_t9 83 rfl)⟩, ⟨by decide +kernel, by decide +kernel⟩, fun k => ⟨fun h => (Option.some.inj h).symm, fun h => h ▸ rfl⟩⟩
theorem am_pp306 : am_PP 306 := ⟨rfl, by decide +kernel, am_t9 107 rfl, am_t1 13 rfl, Nat.le_of_ble_eq_true rfl, (fun h => absurd h (by decide +kernel)), Or.inr ⟨am_t9 106 rfl, Or.inr (am_t0 128 rfl)⟩, ⟨by decide +kernel, by decide +kernel⟩, fun k => ⟨fun h => (Option.some.inj h).symm, fun h => h ▸ rfl⟩⟩
theorem am_pp307 : am_PP 307 := ⟨rfl, by decide +kernel, am_t9 103 rfl, am_t1 13 rfl, Nat.le_of_ble_eq_true rfl, (fun h => absurd h (by decide +kernel)), Or.inr ⟨am_t9 102 rfl, Or.inr (am_t0 127 rfl)⟩, ⟨by decide +kernel, by decide +kernel⟩, fun k => ⟨fun h => (Option.some.inj h).symm, fun h => h ▸ rfl⟩⟩
theorem am_pp308 : am_PP 308 := ⟨rfl, by decide +kernel, am_t9 99 rfl, am_t1 13 rfl, Nat.le_of_ble_eq_true rfl, (fun h => absurd h (by decide +kernel)), Or.inr ⟨am_t9 97 rfl, Or.inr (am_t9 98 rfl)⟩, ⟨by decide +kernel, by decide +kernel⟩, fun k => ⟨fun h => (Option.some.inj h).symm, fun h => h ▸ rfl⟩⟩
theorem am_pp309 : am_PP 309 := ⟨rfl, by decide +kernel, am_t9 121 rfl, am_t1 13 rfl, Nat.le_of_ble_eq_true rfl, (fun h => absurd h (by decide +kernel)), Or.inr ⟨am_t9 120 rfl, Or.inr (am_t0 129 rfl)⟩, ⟨by decide +kernel, by decide +kernel⟩, fun k => ⟨fun h => (Option.some.inj h).symm, fun h => h ▸ rfl⟩⟩
theorem am_pp310 : am_PP 310 := ⟨rfl, by decide +kernel, am_t9 125 rfl, am_t1 13 rfl, Nat.le_of_ble_eq_true rfl, (fun h => absurd h (by decide +kernel)), Or.inr ⟨am_t9 124 rfl, Or.inr (am_t0 130 rfl)⟩, ⟨by decide +kernel, by decide +kernel⟩, fun k => ⟨fun h => (Option.some.inj h).symm, fun h => h ▸ rfl⟩⟩
theorem am_pp311 : am_PP 311 := ⟨rfl, by decide +kernel, am_t9 111 rfl, am_t1 13 rfl, Nat.le_of_ble_eq_true rfl, (fun h => absurd h (by decide +kernel)), Or.inr ⟨am_t9 109 rfl, Or.inr (am_t9 110 rfl)⟩, ⟨by decide +kernel, by decide +kernel⟩, fun k => ⟨fun h => (Option.some.inj h).symm, fun h => h ▸ rfl⟩⟩
theorem am_pp312 : am_PP 312 := ⟨rfl, by decide +kernel, am_t9 116 rfl, am_t1 13 rfl, Nat.le_of_ble_eq_true rfl, (fun h => absurd h (by decide +kernel)), Or.inr ⟨am_t9 114 rfl, Or.inr (am_t9 115 rfl)⟩, ⟨by decide +kernel, by decide +kernel⟩, fun k => ⟨fun h => (Option.some.inj h).symm, fun h => h ▸ rfl⟩⟩
theorem am_pp313 : am_PP 313 := ⟨rfl, by decide +kernel, am_t9 141 rfl, am_t1 13 rfl, Nat.le_of_ble_eq_true rfl, (fun h => absurd h (by decide +kernel)), Or.inr ⟨am_t9 140 rfl, Or.inr (am_t0 133 rfl)⟩, ⟨by decide +kernel, by decide +kernel⟩, fun k => ⟨fun h => (Option.some.inj h).symm, fun h => h ▸ rfl⟩⟩
theorem am_pp314 : am_PP 314 := ⟨rfl, by decide +kernel, am_t9 137 rfl, am_t1 13 rfl, Nat.le_of_ble_eq_true rfl, (fun h => absurd h (by decide +kernel)), Or.inr ⟨am_t9 136 rfl, Or.inr (am_t0 132 rfl)⟩, ⟨by decide +kernel, by decide +kernel⟩, fun k => ⟨fun h => (Option.some.inj h).symm, fun h => h ▸ rfl⟩⟩
theorem am_pp315 : am_PP 315 := ⟨rfl, by decide +kernel, am_t9 133 rfl, am_t1 13 rfl, Nat.le_of_ble_eq_true rfl, (fun h => absurd h (by decide +kernel)), Or.inr ⟨am_t9 132 rfl, Or.inr (am_t0 131 rfl)⟩, ⟨by decide +kernel, by decide +kernel⟩, fun k => ⟨fun h => (Option.some.inj h).symm, fun h => h ▸ rfl⟩⟩
theorem am_pp316 : am_PP 316 := ⟨rfl, by decide +kernel, am_t9 129 rfl, am_t1 13 rfl, Nat.le_of_ble_eq_true rfl, (fun h => absurd h (by decide +kernel)), Or.inr ⟨am_t9 127 rfl, Or.inr (am_t9 128 rfl)⟩, ⟨by decide +kernel, by decide +kernel⟩, fun k => ⟨fun h => (Option.some.inj h).symm, fun h => h ▸ rfl⟩⟩
theorem am_pp317 : am_PP 317 := ⟨rfl, by decide +kernel, am_t9 145 rfl, am_t1 13 rfl, Nat.le_of_ble_eq_true rfl, (fun h => absurd h (by decide +kernel)), Or.inr ⟨am_t9 143 rfl, Or.inr (am_t9 144 rfl)⟩, ⟨by decide +kernel, by decide +kernel⟩, fun k => ⟨fun h => (Option.some.inj h).symm, fun h => h ▸ rfl⟩⟩
theorem am_pp318 : am_PP 318 := ⟨rfl, by decide +kernel, am_t9 149 rfl, am_t1 13 rfl, Nat.le_of_ble_eq_true rfl, (fun h => absurd h (by decide +kernel)), Or.inr ⟨am_t9 147 rfl, Or.inr (am_t9 148 rfl)⟩, ⟨by decide +kernel, by decide +kernel⟩, fun k => ⟨fun h => (Option.some.inj h).symm, fun h => h ▸ rfl⟩⟩
theorem am_pp319 : am_PP 319 := ⟨rfl, by decide +kernel, am_t9 153 rfl, am_t1 13 rfl, Nat.le_of_ble_eq_true rfl, (fun h => absurd h (by decide +kernel)), Or.inr ⟨am_t9 151 rfl, Or.inr (am_t9 152 rfl)⟩, ⟨by decide +kernel, by decide +kernel⟩, fun k => ⟨fun h => (Option.some.inj h).symm, fun h => h ▸ rfl⟩⟩
theorem am_pp320 : am_PP 320 := ⟨rfl, by decide +kernel, am_t9 157 rfl, am_t1 13 rfl, Nat.le_of_ble_eq_true rfl, (fun h => absurd h (by decide +kernel)), Or.inr ⟨am_t9 156 rfl, Or.inr (am_t0 134 rfl)⟩, ⟨by decide +kernel, by decide +kernel⟩, fun k => ⟨fun h => (Option.some.inj h).symm, fun h => h ▸ rfl⟩⟩
theorem am_pp321 : am_PP 321 := ⟨rfl, by decide +kernel, am_t9 161 rfl, am_t1 13 rfl, Nat.le_of_ble_eq_true rfl, (fun h => absurd h (by decide +kernel)), Or.inr ⟨am_t9 159 rfl, Or.inr (am_t9 160 rfl)⟩, ⟨by decide +kernel, by decide +kernel⟩, fun k => ⟨fun h => (Option.some.inj h).symm, fun h => h ▸ rfl⟩⟩
theorem am_pp322 : am_PP 322 := ⟨rfl, by decide +kernel, am_t9 169 rfl, am_t1 13 rfl, Nat.le_of_ble_eq_true rfl, (fun h => absurd h (by decide +kernel)), Or.inr ⟨am_t9 168 rfl, Or.inr (am_t0 135 rfl)⟩, ⟨by decide +kernel, by decide +kernel⟩, fun k => ⟨fun h => (Option.some.inj h).symm, fun h => h ▸ rfl⟩⟩
theorem am_pp323 : am_PP 323 := ⟨rfl, by decide +kernel, am_t9 165 rfl, am_t1 13 rfl, Nat.le_of_ble_eq_true rfl, (fun h => absurd h (by decide +kernel)), Or.inr ⟨am_t9 163 rfl, Or.inr (am_t9 164 rfl)⟩, ⟨by decide +kernel, by decide +kernel⟩, fun k => ⟨fun h => (Option.some.inj h).symm, fun h => h ▸ rfl⟩⟩
theorem am_pp324 : am_PP 324 := ⟨rfl, by decide +kernel, am_t9 173 rfl, am_t1 13 rfl, Nat.le_of_ble_eq_true rfl, (fun h => absurd h (by decide +kernel)), Or.inr ⟨am_t9 171 rfl, Or.inr (am_t9 172 rfl)⟩, ⟨by decide +kernel, by decide +kernel⟩, fun k => ⟨fun h => (Option.some.inj h).symm, fun h => h ▸ rfl⟩⟩
theorem am_pp325 : am_PP 325 := ⟨rfl, by decide +kernel, am_t9 177 rfl, am_t1 13 rfl, Nat.le_of_ble_eq_true rfl, (fun h => absurd h (by decide +kernel)), Or.inr ⟨am_t9 175 rfl, Or.inr (am_t9 176 rfl)⟩, ⟨by decide +kernel, by decide +kernel⟩, fun k => ⟨fun h => (Option.some.inj h).symm, fun h => h ▸ rfl⟩⟩
theorem am_pp326 : am_PP 326 := ⟨rfl, by decide +kernel, am_t9 181 rfl, am_t1 13 rfl, Nat.le_of_ble_eq_true rfl, (fun h => absurd h (by decide +kernel)), Or.inr ⟨am_t9 179 rfl, Or.inr (am_t9 180 rfl)⟩, ⟨by decide +kernel, by decide +kernel⟩, fun k => ⟨fun h => (Option.some.inj h).symm, fun h => h ▸ rfl⟩⟩
theorem am_pp327 : am_PP 327 := ⟨rfl, by decide +kernel, am_t9 185 rfl, am_t1 13 rfl, Nat.le_of_ble_eq_true rfl, (fun h => absurd h (by decide +kernel)), Or.inr ⟨am_t9 183 rfl, Or.inr (am_t9 184 rfl)⟩, ⟨by decide +kernel, by decide +kernel⟩, fun k => ⟨fun h => (Option.some.inj h).symm, fun h => h ▸ rfl⟩⟩
theorem am_pp328 : am_PP 328 := ⟨rfl, by decide +kernel, am_t9 189 rfl, am_t1 13 rfl, Nat.le_of_ble_eq_true rfl, (fun h => absurd h (by decide +kernel)), Or.inr ⟨am_t9 187 rfl, Or.inr (am_t9 188 rfl)⟩, ⟨by decide +kernel, by decide +kernel⟩, fun k => ⟨fun h => (Option.some.inj h).symm, fun h => h ▸ rfl⟩⟩
theorem am_pp329 : am_PP 329 := ⟨rfl, by decide +kernel, am_t9 197 rfl, am_t1 13 rfl, Nat.le_of_ble_eq_true rfl, (fun h => absurd h (by decide +kernel)), Or.inr ⟨am_t9 196 rfl, Or.inr (am_t0 136 rfl)⟩, ⟨by decide +kernel, by decide +kernel⟩, fun k => ⟨fun h => (Option.some.inj h).symm, fun h => h ▸ rfl⟩⟩
theorem am_pp330 : am_PP 330 := ⟨rfl, by decide +kernel, am_t9 201 rfl, am_t1 13 rfl, Nat.le_of_ble_eq_true rfl, (fun h => absurd h (by decide +kernel)), Or.inr ⟨am_t9 200 rfl, Or.inr (am_t0 137 rfl)⟩, ⟨by decide +kernel, by decide +kernel⟩, fun k => ⟨fun h => (Option.some.inj h).symm, fun h => h ▸ rfl⟩⟩
theorem am_pp331 : am_PP 331 := ⟨rfl, by decide +kernel, am_t9 205 rfl, am_t1 13 rfl, Nat.le_of_ble_eq_true rfl, (fun h => absurd h (by decide +kernel)), Or.inr ⟨am_t9 204 rfl, Or.inr (am_t0 138 rfl)⟩, ⟨by decide +kernel, by decide +kernel⟩, fun k => ⟨fun h => (Option.some.inj h).symm, fun h => h ▸ rfl⟩⟩
theorem am_pp332 : am_PP 332 := ⟨rfl, by decide +kernel, am_t9 193 rfl, am_t1 13 rfl, Nat.le_of_ble_eq_true rfl, (fun h => absurd h (by decide +kernel)), Or.inr ⟨am_t9 191 rfl, Or.inr (am_t9 192 rfl)⟩, ⟨by decide +kernel, by decide +kernel⟩, fun k => ⟨fun h => (Option.some.inj h).symm, fun h => h ▸ rfl⟩⟩
theorem am_pp333 : am_PP 333 := ⟨rfl, by decide +kernel, am_t9 209 rfl, am_t1 13 rfl, Nat.le_of_ble_eq_true rfl, (fun h => absurd h (by decide +kernel)), Or.inr ⟨am_t9 207 rfl, Or.inr (am_t9 208 rfl)⟩, ⟨by decide +kernel, by decide +kernel⟩, fun k => ⟨fun h => (Option.some.inj h).symm, fun h => h ▸ rfl⟩⟩
theorem am_pp334 : am_PP 334 := ⟨rfl, by decide +kernel, am_t9 213 rfl, am_t1 13 rfl, Nat.le_of_ble_eq_true rfl, (fun h => absurd h (by decide +kernel)), Or.inr ⟨am_t9 211 rfl, Or.inr (am_t9 212 rfl)⟩, ⟨by decide +kernel, by decide +kernel⟩, fun k => ⟨fun h => (Option.some.inj h).symm, fun h => h ▸ rfl⟩⟩
theorem am_pp335 : am_PP 335 := ⟨rfl, by decide +kernel, am_t9 217 rfl, am_t1 13 rfl, Nat.le_of_ble_eq_true rfl, (fun h => absurd h (by decide +kernel)), Or.inr ⟨am_t9 215 rfl, Or.inr (am_t9 216 rfl)⟩, ⟨by decide +kernel, by decide +kernel⟩, fun k => ⟨fun h => (Option.some.inj h).symm, fun h => h ▸ rfl⟩⟩
theorem am_pp336 : am_PP 336 := ⟨rfl, by decide +kernel, am_t9 221 rfl, am_t1 13 rfl, Nat.le_of_ble_eq_true rfl, (fun h => absurd h (by decide +kernel)), Or.inr ⟨am_t9 219 rfl, Or.inr (am_t9 220 rfl)⟩, ⟨by decide +kernel, by decide +kernel⟩, fun k => ⟨fun h => (Option.some.inj h).symm, fun h => h ▸ rfl⟩⟩
theorem am_pp337 : am_PP 337 := ⟨rfl, by decide +kernel, am_t9 233 rfl, am_t1 13 rfl, Nat.le_of_ble_eq_true rfl, (fun h => absurd h (by decide +kernel)), Or.inr ⟨am_t9 232 rfl, Or.inr (am_t0 140 rfl)⟩, ⟨by decide +kernel, by decide +kernel⟩, fun k => ⟨fun h => (Option.some.inj h).symm, fun h => h ▸ rfl⟩⟩
theorem am_pp338 : am_PP 338 := ⟨rfl, by decide +kernel, am_t9 225 rfl, am_t1 13 rfl, Nat.le_of_ble_eq_true rfl, (fun h => absurd h (by decide +kernel)), Or.inr ⟨am_t9 223 rfl, Or.inr (am_t9 224 rfl)⟩, ⟨by decide +kernel, by decide +kernel⟩, fun k => ⟨fun h => (Option.some.inj h).symm, fun h => h ▸ rfl⟩⟩
theorem am_pp339 : am_PP 339 := ⟨rfl, by decide +kernel, am_t10 25 rfl, am_t1 13 rfl, Nat.le_of_ble_eq_true rfl, (fun h => absurd h (by decide +kernel)), Or.inr ⟨am_t10 24 rfl, Or.inr (am_t0 147 rfl)⟩, ⟨by decide +kernel, by decide +kernel⟩, fun k => ⟨fun h => (Option.some.inj h).symm, fun h => h ▸ rfl⟩⟩
theorem am_pp340 : am_PP 340 := ⟨rfl, by decide +kernel, am_t10 21 rfl, am_t1 13 rfl, Nat.le_of_ble_eq_true rfl, (fun h => absurd h (by decide +kernel)), Or.inr ⟨am_t10 20 rfl, Or.inr (am_t0 146 rfl)⟩, ⟨by decide +kernel, by decide +kernel⟩, fun k => ⟨fun h => (Option.some.inj h).symm, fun h => h ▸ rfl⟩⟩
theorem am_pp341 : am_PP 341 := ⟨rfl, by decide +kernel, am_t10 17 rfl, am_t1 13 rfl, Nat.le_of_ble_eq_true rfl, (fun h => absurd h (by decide +kernel)), Or.inr ⟨am_t10 16 rfl, Or.inr (am_t0 145 rfl)⟩, ⟨by decide +kernel, by decide +kernel⟩, fun k => ⟨fun h => (Option.some.inj h).symm, fun h => h ▸ rfl⟩⟩
theorem am_pp342 : am_PP 342 := ⟨rfl, by decide +kernel, am_t10 13 rfl, am_t1 13 rfl, Nat.le_of_ble_eq_true rfl, (fun h => absurd h (by decide +kernel)), Or.inr ⟨am_t10 12 rfl, Or.inr (am_t0 144 rfl)⟩, ⟨by decide +kernel, by decide +kernel⟩, fun k => ⟨fun h => (Option.some.inj h).symm, fun h => h ▸ rfl⟩⟩
theorem am_pp343 : am_PP 343 := ⟨rfl, by decide +kernel, am_t10 30 rfl, am_t1 13 rfl, Nat.le_of_ble_eq_true rfl, (fun h => absurd h (by decide +kernel)), Or.inr ⟨am_t10 29 rfl, Or.inr (am_t0 148 rfl)⟩, ⟨by decide +kernel, by decide +kernel⟩, fun k => ⟨fun h => (Option.some.inj h).symm, fun h => h ▸ rfl⟩⟩
theorem am_pp344 : am_PP 344 := ⟨rfl, by decide +kernel, am_t10 9 rfl, am_t1 13 rfl, Nat.le_of_ble_eq_true rfl, (fun h => absurd h (by decide +kernel)), Or.inr ⟨am_t10 8 rfl, Or.inr (am_t0 143 rfl)⟩, ⟨by decide +kernel, by decide +kernel⟩, fun k => ⟨fun h => (Option.some.inj h).symm, fun h => h ▸ rfl⟩⟩
theorem am_pp345 : am_PP 345 := ⟨rfl, by decide +kernel, am_t10 5 rfl, am_t1 13 rfl, Nat.le_of_ble_eq_true rfl, (fun h => absurd h (by decide +kernel)), Or.inr ⟨am_t10 4 rfl, Or.inr (am_t0 142 rfl)⟩, ⟨by decide +kernel, by decide +kernel⟩, fun k => ⟨fun h => (Option.some.inj h).symm, fun h => h ▸ rfl⟩⟩
theorem am_pp346 : am_PP 346 := ⟨rfl, by decide +kernel, am_t10 1 rfl, am_t1 13 rfl, Nat.le_of_ble_eq_true rfl, (fun h => absurd h (by decide +kernel)), Or.inr ⟨am_t10 0 rfl, Or.inr (am_t0 141 rfl)⟩, ⟨by decide +kernel, by decide +kernel⟩, fun k => ⟨fun h => (Option.some.inj h).symm, fun h => h ▸ rfl⟩⟩
theorem am_pp347 : am_PP 347 := ⟨rfl, by decide +kernel, am_t9 237 rfl, am_t1 13 rfl, Nat.le_of_ble_eq_true rfl, (fun h => absurd h (by decide +kernel)), Or.inr ⟨am_t9 235 rfl, Or.inr (am_t9 236 rfl)⟩, ⟨by decide +kernel, by decide +kernel⟩, fun k => ⟨fun h => (Option.some.inj h).symm, fun h => h ▸ rfl⟩⟩
theorem am_pp348 : am_PP 348 := ⟨rfl, by decide +kernel, am_t10 34 rfl, am_t1 13 rfl, Nat.le_of_ble_eq_true rfl, (fun h => absurd h (by decide +kernel)), Or.inr ⟨am_t10 32 rfl, Or.inr (am_t10 33 rfl)⟩, ⟨by decide +kernel, by decide +kernel⟩, fun k => ⟨fun h => (Option.some.inj h).symm, fun h => h ▸ rfl⟩⟩
theorem am_pp349 : am_PP 349 := ⟨rfl, by decide +kernel, am_t10 39 rfl, am_t1 13 rfl, Nat.le_of_ble_eq_true rfl, (fun h => absurd h (by decide +kernel)), Or.inr ⟨am_t10 37 rfl, Or.inr (am_t10 38 rfl)⟩, ⟨by decide +kernel, by decide +kernel⟩, fun k => ⟨fun h => (Option.some.inj h).symm, fun h => h ▸ rfl⟩⟩
theorem am_pp350 : am_PP 350 := ⟨rfl, by decide +kernel, am_t8 135 rfl, am_t1 13 rfl, Nat.le_of_ble_eq_true rfl, (fun h => absurd h (by decide +kernel)), Or.inr ⟨am_t8 134 rfl, Or.inr (am_t0 99 rfl)⟩, ⟨by decide +kernel, by decide +kernel⟩, fun k => ⟨fun h => (Option.some.inj h).symm, fun h => h ▸ rfl⟩⟩
theorem am_pp351 : am_PP 351 := ⟨rfl, by decide +kernel, am_t10 43 rfl, am_t1 13 rfl, Nat.le_of_ble_eq_true rfl, (fun h => absurd h (by decide +kernel)), Or.inr ⟨am_t10 41 rfl, Or.inr (am_t10 42 rfl)⟩, ⟨by decide +kernel, by decide +kernel⟩, fun k => ⟨fun h => (Option.some.inj h).symm, fun h => h ▸ rfl⟩⟩
theorem am_pp352 : am_PP 352 := ⟨rfl, by decide +kernel, am_t10 47 rfl, am_t1 13 rfl, Nat.le_of_ble_eq_true rfl, (fun h => absurd h (by decide +kernel)), Or.inr ⟨am_t10 45 rfl, Or.inr (am_t10 46 rfl)⟩, ⟨by decide +kernel, by decide +kernel⟩, fun k => ⟨fun h => (Option.some.inj h).symm, fun h => h ▸ rfl⟩⟩
theorem am_pp353 : am_PP 353 := ⟨rfl, by decide +kernel, am_t5 188 rfl, am_t1 20 rfl, Nat.le_of_ble_eq_true rfl, (fun h => absurd h (by decide +kernel)), Or.inl (am_t5 187 rfl), ⟨by decide +kernel, by decide +kernel⟩, fun k => ⟨fun h => (Option.some.inj h).symm, fun h => h ▸ rfl⟩⟩
def am_PPn (y : Nat) : Prop := y = am_law ∨ am_PP y
theorem am_P_ok0 : ∀ e ∈ ([0, 1, 2, 3, 4, 5, 6, 7, 8, 9, 10, 11, 12, 13, 14, 15, 16, 17, 18, 19, 20, 21, 22, 23, 24, 25, 26, 27, 28, 29, 30, 31, 32, 33, 34, 35, 36, 37, 38, 39] : List Nat), am_PPn e := fm_c (Or.inr am_pp0) <| fm_c (Or.inr am_pp1) <| fm_c (Or.inr am_pp2) <| fm_c (Or.inr am_pp3) <| fm_c (Or.inr am_pp4) <| fm_c (Or.inr am_pp5) <| fm_c (Or.inr am_pp6) <| fm_c (Or.inr am_pp7) <| fm_c (Or.inr am_pp8) <| fm_c (Or.inr am_pp9) <| fm_c (Or.inr am_pp10) <| fm_c (Or.inr am_pp11) <| fm_c (Or.inr am_pp12) <| fm_c (Or.inr am_pp13) <| fm_c (Or.inr am_pp14) <| fm_c (Or.inr am_pp15) <| fm_c (Or.inr am_pp16) <| fm_c (Or.inr am_pp17) <| fm_c (Or.inr am_pp18) <| fm_c (Or.inr am_pp19) <| fm_c (Or.inr am_pp20) <| fm_c (Or.inr am_pp21) <| fm_c (Or.inr am_pp22) <| fm_c (Or.inr am_pp23) <| fm_c (Or.inr am_pp24) <| fm_c (Or.inr am_pp25) <| fm_c (Or.inr am_pp26) <| fm_c (Or.inr am_pp27) <| fm_c (Or.inr am_pp28) <| fm_c (Or.inr am_pp29) <| fm_c (Or.inr am_pp30) <| fm_c (Or.inr am_pp31) <| fm_c (Or.inr am_pp32) <| fm_c (Or.inr am_pp33) <| fm_c (Or.inr am_pp34) <| fm_c (Or.inr am_pp35) <| fm_c (Or.inr am_pp36) <| fm_c (Or.inr am_pp37) <| fm_c (Or.inr am_pp38) <| fm_c (Or.inr am_pp39) <| fm_n
theorem am_P_ok40 : ∀ e ∈ ([40, 41, 42, 43, 44, 45, 46, 47, 48, 49, 50, 51, 52, 53, 54, 55, 56, 57, 58, 59, 60, 61, 62, 63, 64, 65, 66, 67, 68, 69, 70, 71, 72, 73, 74, 75, 76, 77, 78, 79] : List Nat), am_PPn e := fm_c (Or.inr am_pp40) <| fm_c (Or.inr am_pp41) <| fm_c (Or.inr am_pp42) <| fm_c (Or.inr am_pp43) <| fm_c (Or.inr am_pp44) <| fm_c (Or.inr am_pp45) <| fm_c (Or.inr am_pp46) <| fm_c (Or.inr am_pp47) <| fm_c (Or.inr am_pp48) <| fm_c (Or.inr am_pp49) <| fm_c (Or.inr am_pp50) <| fm_c (Or.inr am_pp51) <| fm_c (Or.inr am_pp52) <| fm_c (Or.inr am_pp53) <| fm_c (Or.inr am_pp54) <| fm_c (Or.inr am_pp55) <| fm_c (Or.inr am_pp56) <| fm_c (Or.inr am_pp57) <| fm_c (Or.inr am_pp58) <| fm_c (Or.inr am_pp59) <| fm_c (Or.inr am_pp60) <| fm_c (Or.inr am_pp61) <| fm_c (Or.inr am_pp62) <| fm_c (Or.inr am_pp63) <| fm_c (Or.inr am_pp64) <| fm_c (Or.inr am_pp65) <| fm_c (Or.inr am_pp66) <| fm_c (Or.inr am_pp67) <| fm_c (Or.inr am_pp68) <| fm_c (Or.inr am_pp69) <| fm_c (Or.inr am_pp70) <| fm_c (Or.inr am_pp71) <| fm_c (Or.inr am_pp72) <| fm_c (Or.inr am_pp73) <| fm_c (Or.inr am_pp74) <| fm_c (Or.inr am_pp75) <| fm_c (Or.inr am_pp76) <| fm_c (Or.inr am_pp77) <| fm_c (Or.inr am_pp78) <| fm_c (Or.inr am_pp79) <| fm_n
theorem am_P_ok80 : ∀ e ∈ ([80, 81, 82, 83, 84, 85, 86, 87, 88, 89, 90, 91, 92, 93, 94, 95, 96, 97, 98, 99, 100, 101, 102, 103, 104, 105, 106, 107, 108, 109, 110, 111, 112, 113, 114, 115, 116, 117, 118, 119] : List Nat), am_PPn e := fm_c (Or.inr am_pp80) <| fm_c (Or.inr am_pp81) <| fm_c (Or.inr am_pp82) <| fm_c (Or.inr am_pp83) <| fm_c (Or.inr am_pp84) <| fm_c (Or.inr am_pp85) <| fm_c (Or.inr am_pp86) <| fm_c (Or.inr am_pp87) <| fm_c (Or.inr am_pp88) <| fm_c (Or.inr am_pp89) <| fm_c (Or.inr am_pp90) <| fm_c (Or.inr am_pp91) <| fm_c (Or.inr am_pp92) <| fm_c (Or.inr am_pp93) <| fm_c (Or.inr am_pp94) <| fm_c (Or.inr am_pp95) <| fm_c (Or.inr am_pp96) <| fm_c (Or.inr am_pp97) <| fm_c (Or.inr am_pp98) <| fm_c (Or.inr am_pp99) <| fm_c (Or.inr am_pp100) <| fm_c (Or.inr am_pp101) <| fm_c (Or.inr am_pp102) <| fm_c (Or.inr am_pp103) <| fm_c (Or.inr am_pp104) <| fm_c (Or.inr am_pp105) <| fm_c (Or.inr am_pp106) <| fm_c (Or.inr am_pp107) <| fm_c (Or.inr am_pp108) <| fm_c (Or.inr am_pp109) <| fm_c (Or.inr am_pp110) <| fm_c (Or.inr am_pp111) <| fm_c (Or.inr am_pp112) <| fm_c (Or.inr am_pp113) <| fm_c (Or.inr am_pp114) <| fm_c (Or.inr am_pp115) <| fm_c (Or.inr am_pp116) <| fm_c (Or.inr am_pp117) <| fm_c (Or.inr am_pp118) <| fm_c (Or.inr am_pp119) <| fm_n
theorem am_P_ok120 : ∀ e ∈ ([120, 121, 122, 123, 124, 125, 126, 127, 128, 129, 130, 131, 132, 133, 134, 135, 136, 137, 138, 139, 140, 141, 142, 143, 144, 145, 146, 147, 148, 149, 150, 151, 152, 153, 154, 155, 156, 157, 158, 159] : List Nat), am_PPn e := fm_c (Or.inr am_pp120) <| fm_c (Or.inr am_pp121) <| fm_c (Or.inr am_pp122) <| fm_c (Or.inr am_pp123) <| fm_c (Or.inr am_pp124) <| fm_c (Or.inr am_pp125) <| fm_c (Or.inr am_pp126) <| fm_c (Or.inr am_pp127) <| fm_c (Or.inr am_pp128) <| fm_c (Or.inr am_pp129) <| fm_c (Or.inr am_pp130) <| fm_c (Or.inr am_pp131) <| fm_c (Or.inr am_pp132) <| fm_c (Or.inr am_pp133) <| fm_c (Or.inr am_pp134) <| fm_c (Or.inr am_pp135) <| fm_c (Or.inr am_pp136) <| fm_c (Or.inr am_pp137) <| fm_c (Or.inr am_pp138) <| fm_c (Or.inr am_pp139) <| fm_c (Or.inr am_pp140) <| fm_c (Or.inr am_pp141) <| fm_c (Or.inr am_pp142) <| fm_c (Or.inr am_pp143) <| fm_c (Or.inr am_pp144) <| fm_c (Or.inr am_pp145) <| fm_c (Or.inr am_pp146) <| fm_c (Or.inr am_pp147) <| fm_c (Or.inr am_pp148) <| fm_c (Or.inr am_pp149) <| fm_c (Or.inr am_pp150) <| fm_c (Or.inr am_pp151) <| fm_c (Or.inr am_pp152) <| fm_c (Or.inr am_pp153) <| fm_c (Or.inr am_pp154) <| fm_c (Or.inr am_pp155) <| fm_c (Or.inr am_pp156) <| fm_c (Or.inr am_pp157) <| fm_c (Or.inr am_pp158) <| fm_c (Or.inr am_pp159) <| fm_n
theorem am_P_ok160 : ∀ e ∈ ([160, 161, 162, 163, 164, 165, 166, 167, 168, 169, 170, 171, 172, 173, 174, 175, 176, 177, 178, 179, 180, 181, 182, 183, 184, 185, 186, 187, 188, 189, 190, 191, 192, 193, 194, 195, 196, 197, 198, 199] : List Nat), am_PPn e := fm_c (Or.inr am_pp160) <| fm_c (Or.inr am_pp161) <| fm_c (Or.inr am_pp162) <| fm_c (Or.inr am_pp163) <| fm_c (Or.inr am_pp164) <| fm_c (Or.inr am_pp165) <| fm_c (Or.inr am_pp166) <| fm_c (Or.inr am_pp167) <| fm_c (Or.inr am_pp168) <| fm_c (Or.inr am_pp169) <| fm_c (Or.inr am_pp170) <| fm_c (Or.inr am_pp171) <| fm_c (Or.inr am_pp172) <| fm_c (Or.inr am_pp173) <| fm_c (Or.inr am_pp174) <| fm_c (Or.inr am_pp175) <| fm_c (Or.inr am_pp176) <| fm_c (Or.inr am_pp177) <| fm_c (Or.inr am_pp178) <| fm_c (Or.inr am_pp179) <| fm_c (Or.inr am_pp180) <| fm_c (Or.inr am_pp181) <| fm_c (Or.inr am_pp182) <| fm_c (Or.inr am_pp183) <| fm_c (Or.inr am_pp184) <| fm_c (Or.inr am_pp185) <| fm_c (Or.inr am_pp186) <| fm_c (Or.inr am_pp187) <| fm_c (Or.inr am_pp188) <| fm_c (Or.inr am_pp189) <| fm_c (Or.inr am_pp190) <| fm_c (Or.inr am_pp191) <| fm_c (Or.inr am_pp192) <| fm_c (Or.inr am_pp193) <| fm_c (Or.inr am_pp194) <| fm_c (Or.inr am_pp195) <| fm_c (Or.inr am_pp196) <| fm_c (Or.inr am_pp197) <| fm_c (Or.inr am_pp198) <| fm_c (Or.inr am_pp199) <| fm_n
theorem am_P_ok200 : ∀ e ∈ ([200, 201, 202, 203, 204, 205, 206, 207, 208, 209, 210, 211, 212, 213, 214, 215, 216, 217, 218, 219, 220, 221, 222, 223, 224, 225, 226, 227, 228, 229, 230, 231, 232, 233, 234, 235, 236, 237, 238, 239] : List Nat), am_PPn e := fm_c (Or.inr am_pp200) <| fm_c (Or.inr am_pp201) <| fm_c (Or.inr am_pp202) <| fm_c (Or.inr am_pp203) <| fm_c (Or.inr am_pp204) <| fm_c (Or.inr am_pp205) <| fm_c (Or.inr am_pp206) <| fm_c (Or.inr am_pp207) <| fm_c (Or.inr am_pp208) <| fm_c (Or.inr am_pp209) <| fm_c (Or.inr am_pp210) <| fm_c (Or.inr am_pp211) <| fm_c (Or.inr am_pp212) <| fm_c (Or.inr am_pp213) <| fm_c (Or.inr am_pp214) <| fm_c (Or.inr am_pp215) <| fm_c (Or.inr am_pp216) <| fm_c (Or.inr am_pp217) <| fm_c (Or.inr am_pp218) <| fm_c (Or.inr am_pp219) <| fm_c (Or.inr am_pp220) <| fm_c (Or.inr am_pp221) <| fm_c (Or.inr am_pp222) <| fm_c (Or.inr am_pp223) <| fm_c (Or.inr am_pp224) <| fm_c (Or.inr am_pp225) <| fm_c (Or.inr am_pp226) <| fm_c (Or.inr am_pp227) <| fm_c (Or.inr am_pp228) <| fm_c (Or.inr am_pp229) <| fm_c (Or.inr am_pp230) <| fm_c (Or.inr am_pp231) <| fm_c (Or.inr am_pp232) <| fm_c (Or.inr am_pp233) <| fm_c (Or.inr am_pp234) <| fm_c (Or.inr am_pp235) <| fm_c (Or.inr am_pp236) <| fm_c (Or.inr am_pp237) <| fm_c (Or.inr am_pp238) <| fm_c (Or.inr am_pp239) <| fm_n
theorem am_P_ok240 : ∀ e ∈ ([240, 241, 242, 243, 244, 245, 246, 247, 248, 249, 250, 251, 252, 253, 254, 255, 256, 257, 258, 259, 260, 261, 262, 263, 264, 265, 266, 267, 268, 269, 270, 271, 272, 273, 274, 275, 276, 277, 278, 279] : List Nat), am_PPn e := fm_c (Or.inr am_pp240) <| fm_c (Or.inr am_pp241) <| fm_c (Or.inr am_pp242) <| fm_c (Or.inr am_pp243) <| fm_c (Or.inr am_pp244) <| fm_c (Or.inr am_pp245) <| fm_c (Or.inr am_pp246) <| fm_c (Or.inr am_pp247) <| fm_c (Or.inr am_pp248) <| fm_c (Or.inr am_pp249) <| fm_c (Or.inr am_pp250) <| fm_c (Or.inr am_pp251) <| fm_c (Or.inr am_pp252) <| fm_c (Or.inr am_pp253) <| fm_c (Or.inr am_pp254) <| fm_c (Or.inr am_pp255) <| fm_c (Or.inr am_pp256) <| fm_c (Or.inr am_pp257) <| fm_c (Or.inr am_pp258) <| fm_c (Or.inr am_pp259) <| fm_c (Or.inr am_pp260) <| fm_c (Or.inr am_pp261) <| fm_c (Or.inr am_pp262) <| fm_c (Or.inr am_pp263) <| fm_c (Or.inr am_pp264) <| fm_c (Or.inr am_pp265) <| fm_c (Or.inr am_pp266) <| fm_c (Or.inr am_pp267) <| fm_c (Or.inr am_pp268) <| fm_c (Or.inr am_pp269) <| fm_c (Or.inr am_pp270) <| fm_c (Or.inr am_pp271) <| fm_c (Or.inr am_pp272) <| fm_c (Or.inr am_pp273) <| fm_c (Or.inr am_pp274) <| fm_c (Or.inr am_pp275) <| fm_c (Or.inr am_pp276) <| fm_c (Or.inr am_pp277) <| fm_c (Or.inr am_pp278) <| fm_c (Or.inr am_pp279) <| fm_n
theorem am_P_ok280 : ∀ e ∈ ([280, 281, 282, 283, 284, 285, 286, 287, 288, 289, 290, 291, 292, 293, 294, 295, 296, 297, 298, 299, 300, 301, 302, 303, 304, 305, 306, 307, 308, 309, 310, 311, 312, 313, 314, 315, 316, 317, 318, 319] : List Nat), am_PPn e := fm_c (Or.inr am_pp280) <| fm_c (Or.inr am_pp281) <| fm_c (Or.inr am_pp282) <| fm_c (Or.inr am_pp283) <| fm_c (Or.inr am_pp284) <| fm_c (Or.inr am_pp285) <| fm_c (Or.inr am_pp286) <| fm_c (Or.inr am_pp287) <| fm_c (Or.inr am_pp288) <| fm_c (Or.inr am_pp289) <| fm_c (Or.inr am_pp290) <| fm_c (Or.inr am_pp291) <| fm_c (Or.inr am_pp292) <| fm_c (Or.inr am_pp293) <| fm_c (Or.inr am_pp294) <| fm_c (Or.inr am_pp295) <| fm_c (Or.inr am_pp296) <| fm_c (Or.inr am_pp297) <| fm_c (Or.inr am_pp298) <| fm_c (Or.inr am_pp299) <| fm_c (Or.inr am_pp300) <| fm_c (Or.inr am_pp301) <| fm_c (Or.inr am_pp302) <| fm_c (Or.inr am_pp303) <| fm_c (Or.inr am_pp304) <| fm_c (Or.inr am_pp305) <| fm_c (Or.inr am_pp306) <| fm_c (Or.inr am_pp307) <| fm_c (Or.inr am_pp308) <| fm_c (Or.inr am_pp309) <| fm_c (Or.inr am_pp310) <| fm_c (Or.inr am_pp311) <| fm_c (Or.inr am_pp312) <| fm_c (Or.inr am_pp313) <| fm_c (Or.inr am_pp314) <| fm_c (Or.inr am_pp315) <| fm_c (Or.inr am_pp316) <| fm_c (Or.inr am_pp317) <| fm_c (Or.inr am_pp318) <| fm_c (Or.inr am_pp319) <| fm_n
theorem am_P_ok320 : ∀ e ∈ ([320, 321, 322, 323, 324, 325, 326, 327, 328, 329, 330, 331, 332, 333, 334, 335, 336, 337, 338, 339, 340, 341, 342, 343, 344, 345, 346, 347, 348, 349, 350, 351, 352, 353, 354] : List Nat), am_PPn e := fm_c (Or.inr am_pp320) <| fm_c (Or.inr am_pp321) <| fm_c (Or.inr am_pp322) <| fm_c (Or.inr am_pp323) <| fm_c (Or.inr am_pp324) <| fm_c (Or.inr am_pp325) <| fm_c (Or.inr am_pp326) <| fm_c (Or.inr am_pp327) <| fm_c (Or.inr am_pp328) <| fm_c (Or.inr am_pp329) <| fm_c (Or.inr am_pp330) <| fm_c (Or.inr am_pp331) <| fm_c (Or.inr am_pp332) <| fm_c (Or.inr am_pp333) <| fm_c (Or.inr am_pp334) <| fm_c (Or.inr am_pp335) <| fm_c (Or.inr am_pp336) <| fm_c (Or.inr am_pp337) <| fm_c (Or.inr am_pp338) <| fm_c (Or.inr am_pp339) <| fm_c (Or.inr am_pp340) <| fm_c (Or.inr am_pp341) <| fm_c (Or.inr am_pp342) <| fm_c (Or.inr am_pp343) <| fm_c (Or.inr am_pp344) <| fm_c (Or.inr am_pp345) <| fm_c (Or.inr am_pp346) <| fm_c (Or.inr am_pp347) <| fm_c (Or.inr am_pp348) <| fm_c (Or.inr am_pp349) <| fm_c (Or.inr am_pp350) <| fm_c (Or.inr am_pp351) <| fm_c (Or.inr am_pp352) <| fm_c (Or.inr am_pp353) <| fm_c (Or.inl rfl) <| fm_n
theorem am_P_ok {y : Nat} (h : y < am_nM) : am_PPn y := by
  unfold am_nM at h
  rcases Nat.lt_or_ge y 40 with q | q
  · exact am_P_ok0 y (by have h1 : y ∈ (List.range 40).map (0 + ·) := List.mem_map.mpr ⟨y - 0, List.mem_range.mpr (by omega), by omega⟩; exact h1)
  rcases Nat.lt_or_ge y 80 with q | q
  · exact am_P_ok40 y (by have h1 : y ∈ (List.range 40).map (40 + ·) := List.mem_map.mpr ⟨y - 40, List.mem_range.mpr (by omega), by omega⟩; exact h1)
  rcases Nat.lt_or_ge y 120 with q | q
  · exact am_P_ok80 y (by have h1 : y ∈ (List.range 40).map (80 + ·) := List.mem_map.mpr ⟨y - 80, List.mem_range.mpr (by omega), by omega⟩; exact h1)
  rcases Nat.lt_or_ge y 160 with q | q
  · exact am_P_ok120 y (by have h1 : y ∈ (List.range 40).map (120 + ·) := List.mem_map.mpr ⟨y - 120, List.mem_range.mpr (by omega), by omega⟩; exact h1)
  rcases Nat.lt_or_ge y 200 with q | q
  · exact am_P_ok160 y (by have h1 : y ∈ (List.range 40).map (160 + ·) := List.mem_map.mpr ⟨y - 160, List.mem_range.mpr (by omega), by omega⟩; exact h1)
  rcases Nat.lt_or_ge y 240 with q | q
  · exact am_P_ok200 y (by have h1 : y ∈ (List.range 40).map (200 + ·) := List.mem_map.mpr ⟨y - 200, List.mem_range.mpr (by omega), by omega⟩; exact h1)
  rcases Nat.lt_or_ge y 280 with q | q
  · exact am_P_ok240 y (by have h1 : y ∈ (List.range 40).map (240 + ·) := List.mem_map.mpr ⟨y - 240, List.mem_range.mpr (by omega), by omega⟩; exact h1)
  rcases Nat.lt_or_ge y 320 with q | q
  · exact am_P_ok280 y (by have h1 : y ∈ (List.range 40).map (280 + ·) := List.mem_map.mpr ⟨y - 280, List.mem_range.mpr (by omega), by omega⟩; exact h1)
  exact am_P_ok320 y (by have h1 : y ∈ (List.range 35).map (320 + ·) := List.mem_map.mpr ⟨y - 320, List.mem_range.mpr (by omega), by omega⟩; exact h1)
theorem am_w_oi : Cond.instanceMethod objectInit ∈ lw_tbl := am_t1 27 rfl
theorem am_w_oc : Cond.code objectInit ⟨#[0xb1]⟩ 1 none ∈ lw_tbl := am_t1 28 rfl
theorem am_w_mins : Cond.static Lib.Math.min.name ∈ lw_tbl := am_t3 112 rfl
theorem am_w_minc : Cond.code Lib.Math.min.name Lib.Math.min.code 2 (some .int) ∈ lw_tbl := am_t3 113 rfl
theorem am_w_maxs : Cond.static Lib.Math.max.name ∈ lw_tbl := am_t8 107 rfl
theorem am_w_maxc : Cond.code Lib.Math.max.name Lib.Math.max.code 2 (some .int) ∈ lw_tbl := am_t8 108 rfl
theorem am_w_abss : Cond.static Lib.MathLoose.abs_long.x ∈ lw_tbl := am_t8 232 rfl
theorem am_w_absc : Cond.code Lib.MathLoose.abs_long.x Lib.MathLoose.abs_long.code 2 (some .long) ∈ lw_tbl := am_t8 233 rfl
theorem am_w_acs : Cond.static arraycopyName ∈ lw_tbl := am_t3 166 rfl
theorem am_w_acn : Cond.native arraycopyName ∈ lw_tbl := am_t3 167 rfl
theorem am_w_im : Cond.initialized "java/lang/Math" ∈ lw_tbl := am_t1 14 rfl
theorem am_w_is : Cond.initialized "java/lang/System" ∈ lw_tbl := am_t1 15 rfl
theorem am_w_aint : Cond.arrayClass .int ∈ lw_tbl := am_t1 100 rfl
theorem am_w_abyte : Cond.arrayClass .byte ∈ lw_tbl := am_t1 99 rfl
theorem am_w_along : Cond.arrayClass .long ∈ lw_tbl := am_t1 101 rfl
theorem am_w_ao3 : Cond.arrayOver (.object (am_cn (am_tq 3))) ∈ lw_tbl := am_t1 30 rfl
theorem am_w_ao4 : Cond.arrayOver (.object (am_cn (am_tq 4))) ∈ lw_tbl := am_t3 14 rfl
theorem am_w_ao5 : Cond.arrayOver (.object (am_cn (am_tq 5))) ∈ lw_tbl := am_t3 15 rfl
theorem am_w_ao6 : Cond.arrayOver (.object (am_cn (am_tq 6))) ∈ lw_tbl := am_t1 109 rfl
theorem am_w_ao7 : Cond.arrayOver (.object (am_cn (am_tq 7))) ∈ lw_tbl := am_t1 111 rfl
theorem am_w_ao8 : Cond.arrayOver (.object (am_cn (am_tq 8))) ∈ lw_tbl := am_t1 113 rfl
theorem am_w_ins0 : Cond.instantiable (am_cn 0) (am_N 0) ∈ lw_tbl := am_t1 177 rfl
theorem am_w_ini0 : Cond.initialized (am_cn 0) ∈ lw_tbl := am_t1 6 rfl
theorem am_w_ins1 : Cond.instantiable (am_cn 1) (am_N 1) ∈ lw_tbl := am_t2 76 rfl
theorem am_w_ini1 : Cond.initialized (am_cn 1) ∈ lw_tbl := am_t1 7 rfl
theorem am_w_ins2 : Cond.instantiable (am_cn 2) (am_N 2) ∈ lw_tbl := am_t2 138 rfl
theorem am_w_ini2 : Cond.initialized (am_cn 2) ∈ lw_tbl := am_t1 9 rfl
theorem am_w_ins3 : Cond.instantiable (am_cn 3) (am_N 3) ∈ lw_tbl := am_t2 208 rfl
theorem am_w_ini3 : Cond.initialized (am_cn 3) ∈ lw_tbl := am_t1 11 rfl
theorem am_w_ins4 : Cond.instantiable (am_cn 4) (am_N 4) ∈ lw_tbl := am_t1 114 rfl
theorem am_w_ini4 : Cond.initialized (am_cn 4) ∈ lw_tbl := am_t1 4 rfl
theorem am_w_ins5 : Cond.instantiable (am_cn 5) (am_N 5) ∈ lw_tbl := am_t1 143 rfl
theorem am_w_ini5 : Cond.initialized (am_cn 5) ∈ lw_tbl := am_t1 5 rfl
theorem am_w_ins6 : Cond.instantiable (am_cn 6) (am_N 6) ∈ lw_tbl := am_t1 32 rfl
theorem am_w_ini6 : Cond.initialized (am_cn 6) ∈ lw_tbl := am_t1 2 rfl
theorem am_w_ins7 : Cond.instantiable (am_cn 7) (am_N 7) ∈ lw_tbl := am_t3 16 rfl
theorem am_w_ini7 : Cond.initialized (am_cn 7) ∈ lw_tbl := am_t1 12 rfl
theorem am_w_ins8 : Cond.instantiable (am_cn 8) (am_N 8) ∈ lw_tbl := am_t2 163 rfl
theorem am_w_ini8 : Cond.initialized (am_cn 8) ∈ lw_tbl := am_t1 10 rfl
theorem am_w_ins9 : Cond.instantiable (am_cn 9) (am_N 9) ∈ lw_tbl := am_t1 103 rfl
theorem am_w_ini9 : Cond.initialized (am_cn 9) ∈ lw_tbl := am_t1 3 rfl
theorem am_w_ins10 : Cond.instantiable (am_cn 10) (am_N 10) ∈ lw_tbl := am_t2 119 rfl
theorem am_w_ini10 : Cond.initialized (am_cn 10) ∈ lw_tbl := am_t1 8 rfl
theorem am_w_ins11 : Cond.instantiable (am_cn 11) (am_N 11) ∈ lw_tbl := am_t1 22 rfl
theorem am_w_ini11 : Cond.initialized (am_cn 11) ∈ lw_tbl := am_t1 1 rfl
theorem am_w_ins12 : Cond.instantiable (am_cn 12) (am_N 12) ∈ lw_tbl := am_t6 220 rfl
theorem am_w_ini12 : Cond.initialized (am_cn 12) ∈ lw_tbl := am_t1 13 rfl
def am_len (i : Instr) (b : Nat) : Nat := match i with
  | .tableswitch _ _ _ _ => b
  | .bipush _ => 2 | .sipush _ => 3 | .ldc _ => 2 | .ldc_w _ => 3 | .ldc2_w _ => 3
  | .iload _ => 2 | .lload _ => 2 | .aload _ => 2 | .istore _ => 2 | .lstore _ => 2 | .astore _ => 2 | .iinc _ _ => 3
  | .ifCond _ _ => 3 | .if_icmp _ _ => 3 | .goto _ => 3 | .getfield _ => 3 | .putfield _ => 3 | .new _ => 3 | .newarray _ => 2 | .anewarray _ => 3
  | .invokevirtual _ => 3 | .invokespecial _ => 3 | .invokestatic _ => 3
  | _ => 1
def am_hF (own ix a b : Nat) : Bool := am_F.any (fun e => Nat.beq e.1 own && Nat.beq e.2.1 ix && Nat.beq e.2.2.1 a && Nat.beq e.2.2.2.1 b)
def am_hM (own ix a k b : Nat) : Bool := am_M.any (fun e => Nat.beq e.1 own && Nat.beq e.2.1 ix && Nat.beq e.2.2.1 a && Nat.beq e.2.2.2.1 k && Nat.beq e.2.2.2.2.1 b)
def am_hN (own ix a : Nat) : Bool := am_NW.any (fun e => Nat.beq e.1 own && Nat.beq e.2.1 ix && Nat.beq e.2.2.1 a)
def am_chk2 (own pc : Nat) (i : Instr) (a b : Nat) : Bool := match i with
  | .getfield ix => am_hF own ix a b
  | .putfield ix => am_hF own ix a b
  | .new ix => am_hN own ix a && Nat.blt a 13
  | .anewarray ix => am_hN own ix b && Nat.beq (am_tq a) b && Nat.ble 3 a && Nat.blt a 9
  | .newarray t => match t with
    | .int => Nat.beq a 0
    | .byte => Nat.beq a 1
    | .long => Nat.beq a 2
    | _ => false
  | .ldc ix => bif Nat.ble 1000 a then Nat.beq ix 87 else match am_CI[a]? with
    | some q => Nat.beq q.1 own && Nat.beq q.2.1 ix
    | none => false
  | .ldc_w ix => match am_CI[a]? with
    | some q => Nat.beq q.1 own && Nat.beq q.2.1 ix
    | none => false
  | .ldc2_w ix => match am_CL[a]? with
    | some q => Nat.beq q.1 own && Nat.beq q.2.1 ix
    | none => false
  | .ifCond _ off => decide ((pc : Int) + off = (a : Int))
  | .if_icmp _ off => decide ((pc : Int) + off = (a : Int))
  | .goto off => decide ((pc : Int) + off = (a : Int))
  | .invokevirtual ix => am_hM own ix a 0 b
  | .invokespecial ix => am_hM own ix a 1 b || am_hM own ix a 2 b || (am_hM own ix a 9 0 && Nat.beq a 1000)
  | .invokestatic ix => am_hM own ix a 3 b || (am_hM own ix a 9 0 && Nat.ble 1001 a)
  | _ => true
noncomputable def am_chk (y pc : Nat) : Bool := match am_code y pc with
  | none => true
  | some e => decide (decode (am_bc y) pc = .ok (e.1, am_len e.1 e.2.2)) && am_chk2 (am_inf y).1 pc e.1 e.2.1 e.2.2 && (match e.1 with
    | .ldc _ => Nat.blt e.2.1 1000 || (Nat.beq y 56 && ((Nat.beq e.2.1 1000 && Nat.beq pc 12) || (Nat.beq e.2.1 1001 && Nat.beq pc 20)))
    | _ => true)
