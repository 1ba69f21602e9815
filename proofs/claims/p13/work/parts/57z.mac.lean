/-! The loops of the reference that copy rows -/
theorem agc_309_2 : am_code 309 2 = some (.iload_n 1, 0, 0) := rfl
theorem agc_309_3 : am_code 309 3 = some (.bipush 109, 0, 0) := rfl
theorem agc_309_5 : am_code 309 5 = some (.if_icmp .ge 21, 26, 0) := rfl
theorem agc_309_8 : am_code 309 8 = some (.aload_n 0, 0, 0) := rfl
theorem agc_309_9 : am_code 309 9 = some (.getfield 38, 12, 21) := rfl
theorem ago_21 : ae_isO 219 12 21 = true := by decide +kernel
theorem agc_309_12 : am_code 309 12 = some (.iload_n 1, 0, 0) := rfl
theorem agc_309_13 : am_code 309 13 = some (.aload_n 0, 0, 0) := rfl
theorem agc_309_14 : am_code 309 14 = some (.getfield 35, 12, 20) := rfl
theorem ago_20 : ae_isO 219 12 20 = true := by decide +kernel
theorem agc_309_17 : am_code 309 17 = some (.iload_n 1, 0, 0) := rfl
theorem agc_309_18 : am_code 309 18 = some (.iaload, 0, 0) := rfl
theorem aga_224 : ae_isA 224 0 = true := by decide +kernel
theorem agc_309_19 : am_code 309 19 = some (.iastore, 0, 0) := rfl
theorem agc_309_20 : am_code 309 20 = some (.iinc 1 1, 0, 0) := rfl
theorem agc_309_23 : am_code 309 23 = some (.goto (-21), 2, 0) := rfl
theorem aga_225 : ae_isA 225 0 = true := by decide +kernel
noncomputable def aem_1 : ae_Mc := (309, 2, 26, 1, [(0, true, 219), (1, false, 0)], [(225, 0, 108)], [(224, 0, 225, 0, 109)])
theorem aemq1_1 : (List.range 109).all (ae_cpv false 224 0 225 0) = true := by decide +kernel
theorem aemq2_1 : ae_cpf false 224 0 225 0 109 = true := by decide +kernel
set_option maxRecDepth 20000 in
theorem aemt_1 : ae_MOK aem_1 := by
  intro L xs d lw0 h0 hL hc hk
  have c0 : ∃ p : Nat, am_lk lw0 0 = some (.ref p) ∧ (p : Int) = 219 := hc (0, true, 219) List.mem_cons_self
  obtain ⟨p0, c0, e0⟩ := c0
  obtain rfl : p0 = 219 := by omega
  have ck : ∃ x : Int32, am_lk lw0 1 = some (.int x) ∧ x.toInt = 0 := hc (1, false, 0) (List.mem_cons_of_mem _ List.mem_cons_self)
  obtain ⟨x0, ck, ex0⟩ := ck
  --
  have f20 : ∀ {i : Nat} (h : List am_E), ae_cpd false 224 0 225 0 i L xs h0 h → ae_cell L xs h 219 20 = some (.ref 224) := fun h hd => (ae_cpd_no hd (Or.inl (by decide))).trans (ae_fld hk ago_20 (by decide +kernel) (by decide +kernel))
  have f21 : ∀ {i : Nat} (h : List am_E), ae_cpd false 224 0 225 0 i L xs h0 h → ae_cell L xs h 219 21 = some (.ref 225) := fun h hd => (ae_cpd_no hd (Or.inl (by decide))).trans (ae_fld hk ago_21 (by decide +kernel) (by decide +kernel))
  exact ae_mk1 (z := false) (src := 224) (so := 0) (dst := 225) (dO := 0) (cnt := 109) (k := 1) (lo := 0) (hi := 108) (C := fun lw => am_lk lw 0 = some (.ref 219)) hk (Or.inr ⟨by decide, by decide, by have : (ae_sh 224).2.2 = 1925 := rfl; omega⟩) aemq1_1 aemq2_1 rfl (by omega) (by omega) (fun t ht => by rcases List.mem_singleton.mp ht with rfl; exact ⟨rfl, rfl⟩)
    (fun lw v hc => ag_lk2 (by decide) (fun _ => rfl) hc) c0 ck ex0
    (fun i lw h x hi hd hC hl hx => by
      obtain ⟨v, hcv⟩ := ae_aie (L := L) (xs := xs) hk.1 (p := 224) (j := 0 + i) aga_224 (by have : (ae_sh 224).2.2 = 1925 := rfl; omega)
      have hcs : ae_cell L xs h 224 (0 + i) = some (.int v) := (ae_cpd_no hd (by omega)).trans hcv
      have hxd := (show (x).toInt = ((0 + i : Nat) : Int) by omega)
      have hxs := (show (x).toInt = ((0 + i : Nat) : Int) by omega)
      obtain ⟨h1, hw, hst⟩ := ag_st (L := L) (xs := xs) (d := d) (lw := lw) (sw := []) (v := v) agc_309_19 hd.1 aga_225 hxd (by have : (ae_sh 225).2.2 = 109 := rfl; omega)
      exact ⟨h1, _, hw, hcv, fun n r hr => ⟨n + 13, ag_il agc_309_2 hl (ag_bi agc_309_3 rfl (ag_ge0 agc_309_5 (by rw [hx, (by decide : ((Int8.ofInt 109).toInt32).toInt = ((109 : Nat) : Int))]; omega) (ag_al agc_309_8 hC (ag_get agc_309_9 hd.1 ago_21 (f21 h hd) (ag_il agc_309_12 hl (ag_al agc_309_13 hC (ag_get agc_309_14 hd.1 ago_20 (f20 h hd) (ag_il agc_309_17 hl (ag_ia agc_309_18 hd.1 aga_224 hxs (by have : (ae_sh 224).2.2 = 1925 := rfl; omega) hcs (hst _ _ (ag_inc agc_309_20 (by decide +kernel) hl (ag_go agc_309_23 hr))))))))))))⟩⟩)
    (fun lw h x hd hC hl hx n r hr => ⟨n + 3, ag_il agc_309_2 hl (ag_bi agc_309_3 rfl (ag_ge1 agc_309_5 (by rw [hx, (by decide : ((Int8.ofInt 109).toInt32).toInt = ((109 : Nat) : Int))]; omega) (hr)))⟩) (by omega)
theorem agc_310_2 : am_code 310 2 = some (.iload_n 1, 0, 0) := rfl
theorem agc_310_3 : am_code 310 3 = some (.bipush 109, 0, 0) := rfl
theorem agc_310_5 : am_code 310 5 = some (.if_icmp .ge 21, 26, 0) := rfl
theorem agc_310_8 : am_code 310 8 = some (.aload_n 0, 0, 0) := rfl
theorem agc_310_9 : am_code 310 9 = some (.getfield 35, 12, 20) := rfl
theorem agc_310_12 : am_code 310 12 = some (.iload_n 1, 0, 0) := rfl
theorem agc_310_13 : am_code 310 13 = some (.aload_n 0, 0, 0) := rfl
theorem agc_310_14 : am_code 310 14 = some (.getfield 38, 12, 21) := rfl
theorem agc_310_17 : am_code 310 17 = some (.iload_n 1, 0, 0) := rfl
theorem agc_310_18 : am_code 310 18 = some (.iaload, 0, 0) := rfl
theorem agc_310_19 : am_code 310 19 = some (.iastore, 0, 0) := rfl
theorem agc_310_20 : am_code 310 20 = some (.iinc 1 1, 0, 0) := rfl
theorem agc_310_23 : am_code 310 23 = some (.goto (-21), 2, 0) := rfl
noncomputable def aem_2 : ae_Mc := (310, 2, 26, 1, [(0, true, 219), (1, false, 0)], [(224, 0, 108)], [(225, 0, 224, 0, 109)])
theorem aemq1_2 : (List.range 109).all (ae_cpv false 225 0 224 0) = true := by decide +kernel
theorem aemq2_2 : ae_cpf false 225 0 224 0 109 = true := by decide +kernel
set_option maxRecDepth 20000 in
theorem aemt_2 : ae_MOK aem_2 := by
  intro L xs d lw0 h0 hL hc hk
  have c0 : ∃ p : Nat, am_lk lw0 0 = some (.ref p) ∧ (p : Int) = 219 := hc (0, true, 219) List.mem_cons_self
  obtain ⟨p0, c0, e0⟩ := c0
  obtain rfl : p0 = 219 := by omega
  have ck : ∃ x : Int32, am_lk lw0 1 = some (.int x) ∧ x.toInt = 0 := hc (1, false, 0) (List.mem_cons_of_mem _ List.mem_cons_self)
  obtain ⟨x0, ck, ex0⟩ := ck
  --
  have f20 : ∀ {i : Nat} (h : List am_E), ae_cpd false 225 0 224 0 i L xs h0 h → ae_cell L xs h 219 20 = some (.ref 224) := fun h hd => (ae_cpd_no hd (Or.inl (by decide))).trans (ae_fld hk ago_20 (by decide +kernel) (by decide +kernel))
  have f21 : ∀ {i : Nat} (h : List am_E), ae_cpd false 225 0 224 0 i L xs h0 h → ae_cell L xs h 219 21 = some (.ref 225) := fun h hd => (ae_cpd_no hd (Or.inl (by decide))).trans (ae_fld hk ago_21 (by decide +kernel) (by decide +kernel))
  exact ae_mk1 (z := false) (src := 225) (so := 0) (dst := 224) (dO := 0) (cnt := 109) (k := 1) (lo := 0) (hi := 108) (C := fun lw => am_lk lw 0 = some (.ref 219)) hk (Or.inr ⟨by decide, by decide, by have : (ae_sh 225).2.2 = 109 := rfl; omega⟩) aemq1_2 aemq2_2 rfl (by omega) (by omega) (fun t ht => by rcases List.mem_singleton.mp ht with rfl; exact ⟨rfl, rfl⟩)
    (fun lw v hc => ag_lk2 (by decide) (fun _ => rfl) hc) c0 ck ex0
    (fun i lw h x hi hd hC hl hx => by
      obtain ⟨v, hcv⟩ := ae_aie (L := L) (xs := xs) hk.1 (p := 225) (j := 0 + i) aga_225 (by have : (ae_sh 225).2.2 = 109 := rfl; omega)
      have hcs : ae_cell L xs h 225 (0 + i) = some (.int v) := (ae_cpd_no hd (by omega)).trans hcv
      have hxd := (show (x).toInt = ((0 + i : Nat) : Int) by omega)
      have hxs := (show (x).toInt = ((0 + i : Nat) : Int) by omega)
      obtain ⟨h1, hw, hst⟩ := ag_st (L := L) (xs := xs) (d := d) (lw := lw) (sw := []) (v := v) agc_310_19 hd.1 aga_224 hxd (by have : (ae_sh 224).2.2 = 1925 := rfl; omega)
      exact ⟨h1, _, hw, hcv, fun n r hr => ⟨n + 13, ag_il agc_310_2 hl (ag_bi agc_310_3 rfl (ag_ge0 agc_310_5 (by rw [hx, (by decide : ((Int8.ofInt 109).toInt32).toInt = ((109 : Nat) : Int))]; omega) (ag_al agc_310_8 hC (ag_get agc_310_9 hd.1 ago_20 (f20 h hd) (ag_il agc_310_12 hl (ag_al agc_310_13 hC (ag_get agc_310_14 hd.1 ago_21 (f21 h hd) (ag_il agc_310_17 hl (ag_ia agc_310_18 hd.1 aga_225 hxs (by have : (ae_sh 225).2.2 = 109 := rfl; omega) hcs (hst _ _ (ag_inc agc_310_20 (by decide +kernel) hl (ag_go agc_310_23 hr))))))))))))⟩⟩)
    (fun lw h x hd hC hl hx n r hr => ⟨n + 3, ag_il agc_310_2 hl (ag_bi agc_310_3 rfl (ag_ge1 agc_310_5 (by rw [hx, (by decide : ((Int8.ofInt 109).toInt32).toInt = ((109 : Nat) : Int))]; omega) (hr)))⟩) (by omega)
theorem agc_349_62 : am_code 349 62 = some (.iload_n 3, 0, 0) := rfl
theorem agc_349_63 : am_code 349 63 = some (.bipush 109, 0, 0) := rfl
theorem agc_349_65 : am_code 349 65 = some (.if_icmp .ge 21, 86, 0) := rfl
theorem agc_349_68 : am_code 349 68 = some (.aload_n 0, 0, 0) := rfl
theorem agc_349_69 : am_code 349 69 = some (.getfield 68, 12, 40) := rfl
theorem ago_40 : ae_isO 219 12 40 = true := by decide +kernel
theorem agc_349_72 : am_code 349 72 = some (.iload_n 3, 0, 0) := rfl
theorem agc_349_73 : am_code 349 73 = some (.aload_n 0, 0, 0) := rfl
theorem agc_349_74 : am_code 349 74 = some (.getfield 35, 12, 20) := rfl
theorem agc_349_77 : am_code 349 77 = some (.iload_n 3, 0, 0) := rfl
theorem agc_349_78 : am_code 349 78 = some (.iaload, 0, 0) := rfl
theorem agc_349_79 : am_code 349 79 = some (.iastore, 0, 0) := rfl
theorem agc_349_80 : am_code 349 80 = some (.iinc 3 1, 0, 0) := rfl
theorem agc_349_83 : am_code 349 83 = some (.goto (-21), 62, 0) := rfl
theorem aga_234 : ae_isA 234 0 = true := by decide +kernel
noncomputable def aem_3 : ae_Mc := (349, 62, 86, 3, [(0, true, 219), (3, false, 0)], [(234, 0, 108)], [(224, 0, 234, 0, 109)])
theorem aemq1_3 : (List.range 109).all (ae_cpv false 224 0 234 0) = true := by decide +kernel
theorem aemq2_3 : ae_cpf false 224 0 234 0 109 = true := by decide +kernel
set_option maxRecDepth 20000 in
theorem aemt_3 : ae_MOK aem_3 := by
  intro L xs d lw0 h0 hL hc hk
  have c0 : ∃ p : Nat, am_lk lw0 0 = some (.ref p) ∧ (p : Int) = 219 := hc (0, true, 219) List.mem_cons_self
  obtain ⟨p0, c0, e0⟩ := c0
  obtain rfl : p0 = 219 := by omega
  have ck : ∃ x : Int32, am_lk lw0 3 = some (.int x) ∧ x.toInt = 0 := hc (3, false, 0) (List.mem_cons_of_mem _ List.mem_cons_self)
  obtain ⟨x0, ck, ex0⟩ := ck
  --
  have f20 : ∀ {i : Nat} (h : List am_E), ae_cpd false 224 0 234 0 i L xs h0 h → ae_cell L xs h 219 20 = some (.ref 224) := fun h hd => (ae_cpd_no hd (Or.inl (by decide))).trans (ae_fld hk ago_20 (by decide +kernel) (by decide +kernel))
  have f40 : ∀ {i : Nat} (h : List am_E), ae_cpd false 224 0 234 0 i L xs h0 h → ae_cell L xs h 219 40 = some (.ref 234) := fun h hd => (ae_cpd_no hd (Or.inl (by decide))).trans (ae_fld hk ago_40 (by decide +kernel) (by decide +kernel))
  exact ae_mk1 (z := false) (src := 224) (so := 0) (dst := 234) (dO := 0) (cnt := 109) (k := 3) (lo := 0) (hi := 108) (C := fun lw => am_lk lw 0 = some (.ref 219)) hk (Or.inr ⟨by decide, by decide, by have : (ae_sh 224).2.2 = 1925 := rfl; omega⟩) aemq1_3 aemq2_3 rfl (by omega) (by omega) (fun t ht => by rcases List.mem_singleton.mp ht with rfl; exact ⟨rfl, rfl⟩)
    (fun lw v hc => ag_lk2 (by decide) (fun _ => rfl) hc) c0 ck ex0
    (fun i lw h x hi hd hC hl hx => by
      obtain ⟨v, hcv⟩ := ae_aie (L := L) (xs := xs) hk.1 (p := 224) (j := 0 + i) aga_224 (by have : (ae_sh 224).2.2 = 1925 := rfl; omega)
      have hcs : ae_cell L xs h 224 (0 + i) = some (.int v) := (ae_cpd_no hd (by omega)).trans hcv
      have hxd := (show (x).toInt = ((0 + i : Nat) : Int) by omega)
      have hxs := (show (x).toInt = ((0 + i : Nat) : Int) by omega)
      obtain ⟨h1, hw, hst⟩ := ag_st (L := L) (xs := xs) (d := d) (lw := lw) (sw := []) (v := v) agc_349_79 hd.1 aga_234 hxd (by have : (ae_sh 234).2.2 = 109 := rfl; omega)
      exact ⟨h1, _, hw, hcv, fun n r hr => ⟨n + 13, ag_il agc_349_62 hl (ag_bi agc_349_63 rfl (ag_ge0 agc_349_65 (by rw [hx, (by decide : ((Int8.ofInt 109).toInt32).toInt = ((109 : Nat) : Int))]; omega) (ag_al agc_349_68 hC (ag_get agc_349_69 hd.1 ago_40 (f40 h hd) (ag_il agc_349_72 hl (ag_al agc_349_73 hC (ag_get agc_349_74 hd.1 ago_20 (f20 h hd) (ag_il agc_349_77 hl (ag_ia agc_349_78 hd.1 aga_224 hxs (by have : (ae_sh 224).2.2 = 1925 := rfl; omega) hcs (hst _ _ (ag_inc agc_349_80 (by decide +kernel) hl (ag_go agc_349_83 hr))))))))))))⟩⟩)
    (fun lw h x hd hC hl hx n r hr => ⟨n + 3, ag_il agc_349_62 hl (ag_bi agc_349_63 rfl (ag_ge1 agc_349_65 (by rw [hx, (by decide : ((Int8.ofInt 109).toInt32).toInt = ((109 : Nat) : Int))]; omega) (hr)))⟩) (by omega)
theorem agc_349_125 : am_code 349 125 = some (.iload 7, 0, 0) := rfl
theorem agc_349_127 : am_code 349 127 = some (.bipush 109, 0, 0) := rfl
theorem agc_349_129 : am_code 349 129 = some (.if_icmp .ge 23, 152, 0) := rfl
theorem agc_349_132 : am_code 349 132 = some (.aload_n 0, 0, 0) := rfl
theorem agc_349_133 : am_code 349 133 = some (.getfield 35, 12, 20) := rfl
theorem agc_349_136 : am_code 349 136 = some (.iload 7, 0, 0) := rfl
theorem agc_349_138 : am_code 349 138 = some (.aload_n 0, 0, 0) := rfl
theorem agc_349_139 : am_code 349 139 = some (.getfield 68, 12, 40) := rfl
theorem agc_349_142 : am_code 349 142 = some (.iload 7, 0, 0) := rfl
theorem agc_349_144 : am_code 349 144 = some (.iaload, 0, 0) := rfl
theorem agc_349_145 : am_code 349 145 = some (.iastore, 0, 0) := rfl
theorem agc_349_146 : am_code 349 146 = some (.iinc 7 1, 0, 0) := rfl
theorem agc_349_149 : am_code 349 149 = some (.goto (-24), 125, 0) := rfl
noncomputable def aem_4 : ae_Mc := (349, 125, 152, 7, [(0, true, 219), (7, false, 0)], [(224, 0, 108)], [(234, 0, 224, 0, 109)])
theorem aemq1_4 : (List.range 109).all (ae_cpv false 234 0 224 0) = true := by decide +kernel
theorem aemq2_4 : ae_cpf false 234 0 224 0 109 = true := by decide +kernel
set_option maxRecDepth 20000 in
theorem aemt_4 : ae_MOK aem_4 := by
  intro L xs d lw0 h0 hL hc hk
  have c0 : ∃ p : Nat, am_lk lw0 0 = some (.ref p) ∧ (p : Int) = 219 := hc (0, true, 219) List.mem_cons_self
  obtain ⟨p0, c0, e0⟩ := c0
  obtain rfl : p0 = 219 := by omega
  have ck : ∃ x : Int32, am_lk lw0 7 = some (.int x) ∧ x.toInt = 0 := hc (7, false, 0) (List.mem_cons_of_mem _ List.mem_cons_self)
  obtain ⟨x0, ck, ex0⟩ := ck
  --
  have f20 : ∀ {i : Nat} (h : List am_E), ae_cpd false 234 0 224 0 i L xs h0 h → ae_cell L xs h 219 20 = some (.ref 224) := fun h hd => (ae_cpd_no hd (Or.inl (by decide))).trans (ae_fld hk ago_20 (by decide +kernel) (by decide +kernel))
  have f40 : ∀ {i : Nat} (h : List am_E), ae_cpd false 234 0 224 0 i L xs h0 h → ae_cell L xs h 219 40 = some (.ref 234) := fun h hd => (ae_cpd_no hd (Or.inl (by decide))).trans (ae_fld hk ago_40 (by decide +kernel) (by decide +kernel))
  exact ae_mk1 (z := false) (src := 234) (so := 0) (dst := 224) (dO := 0) (cnt := 109) (k := 7) (lo := 0) (hi := 108) (C := fun lw => am_lk lw 0 = some (.ref 219)) hk (Or.inr ⟨by decide, by decide, by have : (ae_sh 234).2.2 = 109 := rfl; omega⟩) aemq1_4 aemq2_4 rfl (by omega) (by omega) (fun t ht => by rcases List.mem_singleton.mp ht with rfl; exact ⟨rfl, rfl⟩)
    (fun lw v hc => ag_lk2 (by decide) (fun _ => rfl) hc) c0 ck ex0
    (fun i lw h x hi hd hC hl hx => by
      obtain ⟨v, hcv⟩ := ae_aie (L := L) (xs := xs) hk.1 (p := 234) (j := 0 + i) aga_234 (by have : (ae_sh 234).2.2 = 109 := rfl; omega)
      have hcs : ae_cell L xs h 234 (0 + i) = some (.int v) := (ae_cpd_no hd (by omega)).trans hcv
      have hxd := (show (x).toInt = ((0 + i : Nat) : Int) by omega)
      have hxs := (show (x).toInt = ((0 + i : Nat) : Int) by omega)
      obtain ⟨h1, hw, hst⟩ := ag_st (L := L) (xs := xs) (d := d) (lw := lw) (sw := []) (v := v) agc_349_145 hd.1 aga_224 hxd (by have : (ae_sh 224).2.2 = 1925 := rfl; omega)
      exact ⟨h1, _, hw, hcv, fun n r hr => ⟨n + 13, ag_il2 agc_349_125 hl (ag_bi agc_349_127 rfl (ag_ge0 agc_349_129 (by rw [hx, (by decide : ((Int8.ofInt 109).toInt32).toInt = ((109 : Nat) : Int))]; omega) (ag_al agc_349_132 hC (ag_get agc_349_133 hd.1 ago_20 (f20 h hd) (ag_il2 agc_349_136 hl (ag_al agc_349_138 hC (ag_get agc_349_139 hd.1 ago_40 (f40 h hd) (ag_il2 agc_349_142 hl (ag_ia agc_349_144 hd.1 aga_234 hxs (by have : (ae_sh 234).2.2 = 109 := rfl; omega) hcs (hst _ _ (ag_inc agc_349_146 (by decide +kernel) hl (ag_go agc_349_149 hr))))))))))))⟩⟩)
    (fun lw h x hd hC hl hx n r hr => ⟨n + 3, ag_il2 agc_349_125 hl (ag_bi agc_349_127 rfl (ag_ge1 agc_349_129 (by rw [hx, (by decide : ((Int8.ofInt 109).toInt32).toInt = ((109 : Nat) : Int))]; omega) (hr)))⟩) (by omega)
theorem agc_322_68 : am_code 322 68 = some (.iload 5, 0, 0) := rfl
theorem agc_322_70 : am_code 322 70 = some (.bipush 109, 0, 0) := rfl
theorem agc_322_72 : am_code 322 72 = some (.if_icmp .ge 28, 100, 0) := rfl
theorem agc_322_75 : am_code 322 75 = some (.aload_n 0, 0, 0) := rfl
theorem agc_322_76 : am_code 322 76 = some (.getfield 59, 12, 35) := rfl
theorem ago_35 : ae_isO 219 12 35 = true := by decide +kernel
theorem agc_322_79 : am_code 322 79 = some (.bipush 109, 0, 0) := rfl
theorem agc_322_81 : am_code 322 81 = some (.iload_n 2, 0, 0) := rfl
theorem agc_322_82 : am_code 322 82 = some (.imul, 0, 0) := rfl
theorem agc_322_83 : am_code 322 83 = some (.iload 5, 0, 0) := rfl
theorem agc_322_85 : am_code 322 85 = some (.iadd, 0, 0) := rfl
theorem agc_322_86 : am_code 322 86 = some (.aload_n 0, 0, 0) := rfl
theorem agc_322_87 : am_code 322 87 = some (.getfield 35, 12, 20) := rfl
theorem agc_322_90 : am_code 322 90 = some (.iload 5, 0, 0) := rfl
theorem agc_322_92 : am_code 322 92 = some (.iaload, 0, 0) := rfl
theorem agc_322_93 : am_code 322 93 = some (.iastore, 0, 0) := rfl
theorem agc_322_94 : am_code 322 94 = some (.iinc 5 1, 0, 0) := rfl
theorem agc_322_97 : am_code 322 97 = some (.goto (-29), 68, 0) := rfl
theorem aga_231 : ae_isA 231 0 = true := by decide +kernel
noncomputable def aem_5 : ae_Mc := (322, 68, 100, 5, [(0, true, 219), (5, false, 0), (2, false, 0)], [(231, 0, 108)], [(224, 0, 231, 0, 109)])
theorem aemq1_5 : (List.range 109).all (ae_cpv false 224 0 231 0) = true := by decide +kernel
theorem aemq2_5 : ae_cpf false 224 0 231 0 109 = true := by decide +kernel
set_option maxRecDepth 20000 in
theorem aemt_5 : ae_MOK aem_5 := by
  intro L xs d lw0 h0 hL hc hk
  have c0 : ∃ p : Nat, am_lk lw0 0 = some (.ref p) ∧ (p : Int) = 219 := hc (0, true, 219) List.mem_cons_self
  obtain ⟨p0, c0, e0⟩ := c0
  obtain rfl : p0 = 219 := by omega
  have ck : ∃ x : Int32, am_lk lw0 5 = some (.int x) ∧ x.toInt = 0 := hc (5, false, 0) (List.mem_cons_of_mem _ List.mem_cons_self)
  obtain ⟨x0, ck, ex0⟩ := ck
  have cw2 : ∃ x : Int32, am_lk lw0 2 = some (.int x) ∧ x.toInt = 0 := hc (2, false, 0) (List.mem_cons_of_mem _ (List.mem_cons_of_mem _ List.mem_cons_self))
  obtain ⟨w2, cw2, ew2⟩ := cw2
  obtain rfl : w2 = (0 : Int32) := Int32.toInt_inj.mp (by rw [ew2]; rfl)
  --
  have f20 : ∀ {i : Nat} (h : List am_E), ae_cpd false 224 0 231 0 i L xs h0 h → ae_cell L xs h 219 20 = some (.ref 224) := fun h hd => (ae_cpd_no hd (Or.inl (by decide))).trans (ae_fld hk ago_20 (by decide +kernel) (by decide +kernel))
  have f35 : ∀ {i : Nat} (h : List am_E), ae_cpd false 224 0 231 0 i L xs h0 h → ae_cell L xs h 219 35 = some (.ref 231) := fun h hd => (ae_cpd_no hd (Or.inl (by decide))).trans (ae_fld hk ago_35 (by decide +kernel) (by decide +kernel))
  exact ae_mk1 (z := false) (src := 224) (so := 0) (dst := 231) (dO := 0) (cnt := 109) (k := 5) (lo := 0) (hi := 108) (C := fun lw => am_lk lw 0 = some (.ref 219) ∧ am_lk lw 2 = some (.int 0)) hk (Or.inr ⟨by decide, by decide, by have : (ae_sh 224).2.2 = 1925 := rfl; omega⟩) aemq1_5 aemq2_5 rfl (by omega) (by omega) (fun t ht => by rcases List.mem_singleton.mp ht with rfl; exact ⟨rfl, rfl⟩)
    (fun lw v hc => ⟨ag_lk2 (by decide) (fun _ => rfl) hc.1, ag_lk2 (by decide) (fun _ => rfl) hc.2⟩) ⟨c0, cw2⟩ ck ex0
    (fun i lw h x hi hd hC hl hx => by
      obtain ⟨v, hcv⟩ := ae_aie (L := L) (xs := xs) hk.1 (p := 224) (j := 0 + i) aga_224 (by have : (ae_sh 224).2.2 = 1925 := rfl; omega)
      have hcs : ae_cell L xs h 224 (0 + i) = some (.int v) := (ae_cpd_no hd (by omega)).trans hcv
      have hxd := (show ((((Int8.ofInt 109).toInt32 * (0 : Int32)) + x)).toInt = ((0 + i : Nat) : Int) from (ag_wa (by decide : (((Int8.ofInt 109).toInt32 * (0 : Int32))).toInt = ((0 : Nat) : Int)) hx (by omega) (by omega)))
      have hxs := (show (x).toInt = ((0 + i : Nat) : Int) by omega)
      obtain ⟨h1, hw, hst⟩ := ag_st (L := L) (xs := xs) (d := d) (lw := lw) (sw := []) (v := v) agc_322_93 hd.1 aga_231 hxd (by have : (ae_sh 231).2.2 = 436 := rfl; omega)
      exact ⟨h1, _, hw, hcv, fun n r hr => ⟨n + 17, ag_il2 agc_322_68 hl (ag_bi agc_322_70 rfl (ag_ge0 agc_322_72 (by rw [hx, (by decide : ((Int8.ofInt 109).toInt32).toInt = ((109 : Nat) : Int))]; omega) (ag_al agc_322_75 hC.1 (ag_get agc_322_76 hd.1 ago_35 (f35 h hd) (ag_bi agc_322_79 rfl (ag_il agc_322_81 hC.2 (ag_mul agc_322_82 (ag_il2 agc_322_83 hl (ag_add agc_322_85 (ag_al agc_322_86 hC.1 (ag_get agc_322_87 hd.1 ago_20 (f20 h hd) (ag_il2 agc_322_90 hl (ag_ia agc_322_92 hd.1 aga_224 hxs (by have : (ae_sh 224).2.2 = 1925 := rfl; omega) hcs (hst _ _ (ag_inc agc_322_94 (by decide +kernel) hl (ag_go agc_322_97 hr))))))))))))))))⟩⟩)
    (fun lw h x hd hC hl hx n r hr => ⟨n + 3, ag_il2 agc_322_68 hl (ag_bi agc_322_70 rfl (ag_ge1 agc_322_72 (by rw [hx, (by decide : ((Int8.ofInt 109).toInt32).toInt = ((109 : Nat) : Int))]; omega) (hr)))⟩) (by omega)
theorem agc_322_162 : am_code 322 162 = some (.iload 6, 0, 0) := rfl
theorem agc_322_164 : am_code 322 164 = some (.bipush 109, 0, 0) := rfl
theorem agc_322_166 : am_code 322 166 = some (.if_icmp .ge 28, 194, 0) := rfl
theorem agc_322_169 : am_code 322 169 = some (.aload_n 0, 0, 0) := rfl
theorem agc_322_170 : am_code 322 170 = some (.getfield 35, 12, 20) := rfl
theorem agc_322_173 : am_code 322 173 = some (.iload 6, 0, 0) := rfl
theorem agc_322_175 : am_code 322 175 = some (.aload_n 0, 0, 0) := rfl
theorem agc_322_176 : am_code 322 176 = some (.getfield 59, 12, 35) := rfl
theorem agc_322_179 : am_code 322 179 = some (.bipush 109, 0, 0) := rfl
theorem agc_322_181 : am_code 322 181 = some (.iload_n 2, 0, 0) := rfl
theorem agc_322_182 : am_code 322 182 = some (.imul, 0, 0) := rfl
theorem agc_322_183 : am_code 322 183 = some (.iload 6, 0, 0) := rfl
theorem agc_322_185 : am_code 322 185 = some (.iadd, 0, 0) := rfl
theorem agc_322_186 : am_code 322 186 = some (.iaload, 0, 0) := rfl
theorem agc_322_187 : am_code 322 187 = some (.iastore, 0, 0) := rfl
theorem agc_322_188 : am_code 322 188 = some (.iinc 6 1, 0, 0) := rfl
theorem agc_322_191 : am_code 322 191 = some (.goto (-29), 162, 0) := rfl
noncomputable def aem_6 : ae_Mc := (322, 162, 194, 6, [(0, true, 219), (6, false, 0), (2, false, 0)], [(224, 0, 108)], [(231, 0, 224, 0, 109)])
theorem aemq1_6 : (List.range 109).all (ae_cpv false 231 0 224 0) = true := by decide +kernel
theorem aemq2_6 : ae_cpf false 231 0 224 0 109 = true := by decide +kernel
set_option maxRecDepth 20000 in
theorem aemt_6 : ae_MOK aem_6 := by
  intro L xs d lw0 h0 hL hc hk
  have c0 : ∃ p : Nat, am_lk lw0 0 = some (.ref p) ∧ (p : Int) = 219 := hc (0, true, 219) List.mem_cons_self
  obtain ⟨p0, c0, e0⟩ := c0
  obtain rfl : p0 = 219 := by omega
  have ck : ∃ x : Int32, am_lk lw0 6 = some (.int x) ∧ x.toInt = 0 := hc (6, false, 0) (List.mem_cons_of_mem _ List.mem_cons_self)
  obtain ⟨x0, ck, ex0⟩ := ck
  have cw2 : ∃ x : Int32, am_lk lw0 2 = some (.int x) ∧ x.toInt = 0 := hc (2, false, 0) (List.mem_cons_of_mem _ (List.mem_cons_of_mem _ List.mem_cons_self))
  obtain ⟨w2, cw2, ew2⟩ := cw2
  obtain rfl : w2 = (0 : Int32) := Int32.toInt_inj.mp (by rw [ew2]; rfl)
  --
  have f20 : ∀ {i : Nat} (h : List am_E), ae_cpd false 231 0 224 0 i L xs h0 h → ae_cell L xs h 219 20 = some (.ref 224) := fun h hd => (ae_cpd_no hd (Or.inl (by decide))).trans (ae_fld hk ago_20 (by decide +kernel) (by decide +kernel))
  have f35 : ∀ {i : Nat} (h : List am_E), ae_cpd false 231 0 224 0 i L xs h0 h → ae_cell L xs h 219 35 = some (.ref 231) := fun h hd => (ae_cpd_no hd (Or.inl (by decide))).trans (ae_fld hk ago_35 (by decide +kernel) (by decide +kernel))
  exact ae_mk1 (z := false) (src := 231) (so := 0) (dst := 224) (dO := 0) (cnt := 109) (k := 6) (lo := 0) (hi := 108) (C := fun lw => am_lk lw 0 = some (.ref 219) ∧ am_lk lw 2 = some (.int 0)) hk (Or.inr ⟨by decide, by decide, by have : (ae_sh 231).2.2 = 436 := rfl; omega⟩) aemq1_6 aemq2_6 rfl (by omega) (by omega) (fun t ht => by rcases List.mem_singleton.mp ht with rfl; exact ⟨rfl, rfl⟩)
    (fun lw v hc => ⟨ag_lk2 (by decide) (fun _ => rfl) hc.1, ag_lk2 (by decide) (fun _ => rfl) hc.2⟩) ⟨c0, cw2⟩ ck ex0
    (fun i lw h x hi hd hC hl hx => by
      obtain ⟨v, hcv⟩ := ae_aie (L := L) (xs := xs) hk.1 (p := 231) (j := 0 + i) aga_231 (by have : (ae_sh 231).2.2 = 436 := rfl; omega)
      have hcs : ae_cell L xs h 231 (0 + i) = some (.int v) := (ae_cpd_no hd (by omega)).trans hcv
      have hxd := (show (x).toInt = ((0 + i : Nat) : Int) by omega)
      have hxs := (show ((((Int8.ofInt 109).toInt32 * (0 : Int32)) + x)).toInt = ((0 + i : Nat) : Int) from (ag_wa (by decide : (((Int8.ofInt 109).toInt32 * (0 : Int32))).toInt = ((0 : Nat) : Int)) hx (by omega) (by omega)))
      obtain ⟨h1, hw, hst⟩ := ag_st (L := L) (xs := xs) (d := d) (lw := lw) (sw := []) (v := v) agc_322_187 hd.1 aga_224 hxd (by have : (ae_sh 224).2.2 = 1925 := rfl; omega)
      exact ⟨h1, _, hw, hcv, fun n r hr => ⟨n + 17, ag_il2 agc_322_162 hl (ag_bi agc_322_164 rfl (ag_ge0 agc_322_166 (by rw [hx, (by decide : ((Int8.ofInt 109).toInt32).toInt = ((109 : Nat) : Int))]; omega) (ag_al agc_322_169 hC.1 (ag_get agc_322_170 hd.1 ago_20 (f20 h hd) (ag_il2 agc_322_173 hl (ag_al agc_322_175 hC.1 (ag_get agc_322_176 hd.1 ago_35 (f35 h hd) (ag_bi agc_322_179 rfl (ag_il agc_322_181 hC.2 (ag_mul agc_322_182 (ag_il2 agc_322_183 hl (ag_add agc_322_185 (ag_ia agc_322_186 hd.1 aga_231 hxs (by have : (ae_sh 231).2.2 = 436 := rfl; omega) hcs (hst _ _ (ag_inc agc_322_188 (by decide +kernel) hl (ag_go agc_322_191 hr))))))))))))))))⟩⟩)
    (fun lw h x hd hC hl hx n r hr => ⟨n + 3, ag_il2 agc_322_162 hl (ag_bi agc_322_164 rfl (ag_ge1 agc_322_166 (by rw [hx, (by decide : ((Int8.ofInt 109).toInt32).toInt = ((109 : Nat) : Int))]; omega) (hr)))⟩) (by omega)
noncomputable def aem_7 : ae_Mc := (322, 68, 100, 5, [(0, true, 219), (5, false, 0), (2, false, 1)], [(231, 109, 217)], [(224, 0, 231, 109, 109)])
theorem aemq1_7 : (List.range 109).all (ae_cpv false 224 0 231 109) = true := by decide +kernel
theorem aemq2_7 : ae_cpf false 224 0 231 109 109 = true := by decide +kernel
set_option maxRecDepth 20000 in
theorem aemt_7 : ae_MOK aem_7 := by
  intro L xs d lw0 h0 hL hc hk
  have c0 : ∃ p : Nat, am_lk lw0 0 = some (.ref p) ∧ (p : Int) = 219 := hc (0, true, 219) List.mem_cons_self
  obtain ⟨p0, c0, e0⟩ := c0
  obtain rfl : p0 = 219 := by omega
  have ck : ∃ x : Int32, am_lk lw0 5 = some (.int x) ∧ x.toInt = 0 := hc (5, false, 0) (List.mem_cons_of_mem _ List.mem_cons_self)
  obtain ⟨x0, ck, ex0⟩ := ck
  have cw2 : ∃ x : Int32, am_lk lw0 2 = some (.int x) ∧ x.toInt = 1 := hc (2, false, 1) (List.mem_cons_of_mem _ (List.mem_cons_of_mem _ List.mem_cons_self))
  obtain ⟨w2, cw2, ew2⟩ := cw2
  obtain rfl : w2 = (1 : Int32) := Int32.toInt_inj.mp (by rw [ew2]; rfl)
  --
  have f20 : ∀ {i : Nat} (h : List am_E), ae_cpd false 224 0 231 109 i L xs h0 h → ae_cell L xs h 219 20 = some (.ref 224) := fun h hd => (ae_cpd_no hd (Or.inl (by decide))).trans (ae_fld hk ago_20 (by decide +kernel) (by decide +kernel))
  have f35 : ∀ {i : Nat} (h : List am_E), ae_cpd false 224 0 231 109 i L xs h0 h → ae_cell L xs h 219 35 = some (.ref 231) := fun h hd => (ae_cpd_no hd (Or.inl (by decide))).trans (ae_fld hk ago_35 (by decide +kernel) (by decide +kernel))
  exact ae_mk1 (z := false) (src := 224) (so := 0) (dst := 231) (dO := 109) (cnt := 109) (k := 5) (lo := 109) (hi := 217) (C := fun lw => am_lk lw 0 = some (.ref 219) ∧ am_lk lw 2 = some (.int 1)) hk (Or.inr ⟨by decide, by decide, by have : (ae_sh 224).2.2 = 1925 := rfl; omega⟩) aemq1_7 aemq2_7 rfl (by omega) (by omega) (fun t ht => by rcases List.mem_singleton.mp ht with rfl; exact ⟨rfl, rfl⟩)
    (fun lw v hc => ⟨ag_lk2 (by decide) (fun _ => rfl) hc.1, ag_lk2 (by decide) (fun _ => rfl) hc.2⟩) ⟨c0, cw2⟩ ck ex0
    (fun i lw h x hi hd hC hl hx => by
      obtain ⟨v, hcv⟩ := ae_aie (L := L) (xs := xs) hk.1 (p := 224) (j := 0 + i) aga_224 (by have : (ae_sh 224).2.2 = 1925 := rfl; omega)
      have hcs : ae_cell L xs h 224 (0 + i) = some (.int v) := (ae_cpd_no hd (by omega)).trans hcv
      have hxd := (show ((((Int8.ofInt 109).toInt32 * (1 : Int32)) + x)).toInt = ((109 + i : Nat) : Int) from (ag_wa (by decide : (((Int8.ofInt 109).toInt32 * (1 : Int32))).toInt = ((109 : Nat) : Int)) hx (by omega) (by omega)))
      have hxs := (show (x).toInt = ((0 + i : Nat) : Int) by omega)
      obtain ⟨h1, hw, hst⟩ := ag_st (L := L) (xs := xs) (d := d) (lw := lw) (sw := []) (v := v) agc_322_93 hd.1 aga_231 hxd (by have : (ae_sh 231).2.2 = 436 := rfl; omega)
      exact ⟨h1, _, hw, hcv, fun n r hr => ⟨n + 17, ag_il2 agc_322_68 hl (ag_bi agc_322_70 rfl (ag_ge0 agc_322_72 (by rw [hx, (by decide : ((Int8.ofInt 109).toInt32).toInt = ((109 : Nat) : Int))]; omega) (ag_al agc_322_75 hC.1 (ag_get agc_322_76 hd.1 ago_35 (f35 h hd) (ag_bi agc_322_79 rfl (ag_il agc_322_81 hC.2 (ag_mul agc_322_82 (ag_il2 agc_322_83 hl (ag_add agc_322_85 (ag_al agc_322_86 hC.1 (ag_get agc_322_87 hd.1 ago_20 (f20 h hd) (ag_il2 agc_322_90 hl (ag_ia agc_322_92 hd.1 aga_224 hxs (by have : (ae_sh 224).2.2 = 1925 := rfl; omega) hcs (hst _ _ (ag_inc agc_322_94 (by decide +kernel) hl (ag_go agc_322_97 hr))))))))))))))))⟩⟩)
    (fun lw h x hd hC hl hx n r hr => ⟨n + 3, ag_il2 agc_322_68 hl (ag_bi agc_322_70 rfl (ag_ge1 agc_322_72 (by rw [hx, (by decide : ((Int8.ofInt 109).toInt32).toInt = ((109 : Nat) : Int))]; omega) (hr)))⟩) (by omega)
noncomputable def aem_8 : ae_Mc := (322, 162, 194, 6, [(0, true, 219), (6, false, 0), (2, false, 1)], [(224, 0, 108)], [(231, 109, 224, 0, 109)])
theorem aemq1_8 : (List.range 109).all (ae_cpv false 231 109 224 0) = true := by decide +kernel
theorem aemq2_8 : ae_cpf false 231 109 224 0 109 = true := by decide +kernel
set_option maxRecDepth 20000 in
theorem aemt_8 : ae_MOK aem_8 := by
  intro L xs d lw0 h0 hL hc hk
  have c0 : ∃ p : Nat, am_lk lw0 0 = some (.ref p) ∧ (p : Int) = 219 := hc (0, true, 219) List.mem_cons_self
  obtain ⟨p0, c0, e0⟩ := c0
  obtain rfl : p0 = 219 := by omega
  have ck : ∃ x : Int32, am_lk lw0 6 = some (.int x) ∧ x.toInt = 0 := hc (6, false, 0) (List.mem_cons_of_mem _ List.mem_cons_self)
  obtain ⟨x0, ck, ex0⟩ := ck
  have cw2 : ∃ x : Int32, am_lk lw0 2 = some (.int x) ∧ x.toInt = 1 := hc (2, false, 1) (List.mem_cons_of_mem _ (List.mem_cons_of_mem _ List.mem_cons_self))
  obtain ⟨w2, cw2, ew2⟩ := cw2
  obtain rfl : w2 = (1 : Int32) := Int32.toInt_inj.mp (by rw [ew2]; rfl)
  --
  have f20 : ∀ {i : Nat} (h : List am_E), ae_cpd false 231 109 224 0 i L xs h0 h → ae_cell L xs h 219 20 = some (.ref 224) := fun h hd => (ae_cpd_no hd (Or.inl (by decide))).trans (ae_fld hk ago_20 (by decide +kernel) (by decide +kernel))
  have f35 : ∀ {i : Nat} (h : List am_E), ae_cpd false 231 109 224 0 i L xs h0 h → ae_cell L xs h 219 35 = some (.ref 231) := fun h hd => (ae_cpd_no hd (Or.inl (by decide))).trans (ae_fld hk ago_35 (by decide +kernel) (by decide +kernel))
  exact ae_mk1 (z := false) (src := 231) (so := 109) (dst := 224) (dO := 0) (cnt := 109) (k := 6) (lo := 0) (hi := 108) (C := fun lw => am_lk lw 0 = some (.ref 219) ∧ am_lk lw 2 = some (.int 1)) hk (Or.inr ⟨by decide, by decide, by have : (ae_sh 231).2.2 = 436 := rfl; omega⟩) aemq1_8 aemq2_8 rfl (by omega) (by omega) (fun t ht => by rcases List.mem_singleton.mp ht with rfl; exact ⟨rfl, rfl⟩)
    (fun lw v hc => ⟨ag_lk2 (by decide) (fun _ => rfl) hc.1, ag_lk2 (by decide) (fun _ => rfl) hc.2⟩) ⟨c0, cw2⟩ ck ex0
    (fun i lw h x hi hd hC hl hx => by
      obtain ⟨v, hcv⟩ := ae_aie (L := L) (xs := xs) hk.1 (p := 231) (j := 109 + i) aga_231 (by have : (ae_sh 231).2.2 = 436 := rfl; omega)
      have hcs : ae_cell L xs h 231 (109 + i) = some (.int v) := (ae_cpd_no hd (by omega)).trans hcv
      have hxd := (show (x).toInt = ((0 + i : Nat) : Int) by omega)
      have hxs := (show ((((Int8.ofInt 109).toInt32 * (1 : Int32)) + x)).toInt = ((109 + i : Nat) : Int) from (ag_wa (by decide : (((Int8.ofInt 109).toInt32 * (1 : Int32))).toInt = ((109 : Nat) : Int)) hx (by omega) (by omega)))
      obtain ⟨h1, hw, hst⟩ := ag_st (L := L) (xs := xs) (d := d) (lw := lw) (sw := []) (v := v) agc_322_187 hd.1 aga_224 hxd (by have : (ae_sh 224).2.2 = 1925 := rfl; omega)
      exact ⟨h1, _, hw, hcv, fun n r hr => ⟨n + 17, ag_il2 agc_322_162 hl (ag_bi agc_322_164 rfl (ag_ge0 agc_322_166 (by rw [hx, (by decide : ((Int8.ofInt 109).toInt32).toInt = ((109 : Nat) : Int))]; omega) (ag_al agc_322_169 hC.1 (ag_get agc_322_170 hd.1 ago_20 (f20 h hd) (ag_il2 agc_322_173 hl (ag_al agc_322_175 hC.1 (ag_get agc_322_176 hd.1 ago_35 (f35 h hd) (ag_bi agc_322_179 rfl (ag_il agc_322_181 hC.2 (ag_mul agc_322_182 (ag_il2 agc_322_183 hl (ag_add agc_322_185 (ag_ia agc_322_186 hd.1 aga_231 hxs (by have : (ae_sh 231).2.2 = 436 := rfl; omega) hcs (hst _ _ (ag_inc agc_322_188 (by decide +kernel) hl (ag_go agc_322_191 hr))))))))))))))))⟩⟩)
    (fun lw h x hd hC hl hx n r hr => ⟨n + 3, ag_il2 agc_322_162 hl (ag_bi agc_322_164 rfl (ag_ge1 agc_322_166 (by rw [hx, (by decide : ((Int8.ofInt 109).toInt32).toInt = ((109 : Nat) : Int))]; omega) (hr)))⟩) (by omega)
noncomputable def aem_9 : ae_Mc := (322, 68, 100, 5, [(0, true, 219), (5, false, 0), (2, false, 2)], [(231, 218, 326)], [(224, 0, 231, 218, 109)])
theorem aemq1_9 : (List.range 109).all (ae_cpv false 224 0 231 218) = true := by decide +kernel
theorem aemq2_9 : ae_cpf false 224 0 231 218 109 = true := by decide +kernel
set_option maxRecDepth 20000 in
theorem aemt_9 : ae_MOK aem_9 := by
  intro L xs d lw0 h0 hL hc hk
  have c0 : ∃ p : Nat, am_lk lw0 0 = some (.ref p) ∧ (p : Int) = 219 := hc (0, true, 219) List.mem_cons_self
  obtain ⟨p0, c0, e0⟩ := c0
  obtain rfl : p0 = 219 := by omega
  have ck : ∃ x : Int32, am_lk lw0 5 = some (.int x) ∧ x.toInt = 0 := hc (5, false, 0) (List.mem_cons_of_mem _ List.mem_cons_self)
  obtain ⟨x0, ck, ex0⟩ := ck
  have cw2 : ∃ x : Int32, am_lk lw0 2 = some (.int x) ∧ x.toInt = 2 := hc (2, false, 2) (List.mem_cons_of_mem _ (List.mem_cons_of_mem _ List.mem_cons_self))
  obtain ⟨w2, cw2, ew2⟩ := cw2
  obtain rfl : w2 = (2 : Int32) := Int32.toInt_inj.mp (by rw [ew2]; rfl)
  --
  have f20 : ∀ {i : Nat} (h : List am_E), ae_cpd false 224 0 231 218 i L xs h0 h → ae_cell L xs h 219 20 = some (.ref 224) := fun h hd => (ae_cpd_no hd (Or.inl (by decide))).trans (ae_fld hk ago_20 (by decide +kernel) (by decide +kernel))
  have f35 : ∀ {i : Nat} (h : List am_E), ae_cpd false 224 0 231 218 i L xs h0 h → ae_cell L xs h 219 35 = some (.ref 231) := fun h hd => (ae_cpd_no hd (Or.inl (by decide))).trans (ae_fld hk ago_35 (by decide +kernel) (by decide +kernel))
  exact ae_mk1 (z := false) (src := 224) (so := 0) (dst := 231) (dO := 218) (cnt := 109) (k := 5) (lo := 218) (hi := 326) (C := fun lw => am_lk lw 0 = some (.ref 219) ∧ am_lk lw 2 = some (.int 2)) hk (Or.inr ⟨by decide, by decide, by have : (ae_sh 224).2.2 = 1925 := rfl; omega⟩) aemq1_9 aemq2_9 rfl (by omega) (by omega) (fun t ht => by rcases List.mem_singleton.mp ht with rfl; exact ⟨rfl, rfl⟩)
    (fun lw v hc => ⟨ag_lk2 (by decide) (fun _ => rfl) hc.1, ag_lk2 (by decide) (fun _ => rfl) hc.2⟩) ⟨c0, cw2⟩ ck ex0
    (fun i lw h x hi hd hC hl hx => by
      obtain ⟨v, hcv⟩ := ae_aie (L := L) (xs := xs) hk.1 (p := 224) (j := 0 + i) aga_224 (by have : (ae_sh 224).2.2 = 1925 := rfl; omega)
      have hcs : ae_cell L xs h 224 (0 + i) = some (.int v) := (ae_cpd_no hd (by omega)).trans hcv
      have hxd := (show ((((Int8.ofInt 109).toInt32 * (2 : Int32)) + x)).toInt = ((218 + i : Nat) : Int) from (ag_wa (by decide : (((Int8.ofInt 109).toInt32 * (2 : Int32))).toInt = ((218 : Nat) : Int)) hx (by omega) (by omega)))
      have hxs := (show (x).toInt = ((0 + i : Nat) : Int) by omega)
      obtain ⟨h1, hw, hst⟩ := ag_st (L := L) (xs := xs) (d := d) (lw := lw) (sw := []) (v := v) agc_322_93 hd.1 aga_231 hxd (by have : (ae_sh 231).2.2 = 436 := rfl; omega)
      exact ⟨h1, _, hw, hcv, fun n r hr => ⟨n + 17, ag_il2 agc_322_68 hl (ag_bi agc_322_70 rfl (ag_ge0 agc_322_72 (by rw [hx, (by decide : ((Int8.ofInt 109).toInt32).toInt = ((109 : Nat) : Int))]; omega) (ag_al agc_322_75 hC.1 (ag_get agc_322_76 hd.1 ago_35 (f35 h hd) (ag_bi agc_322_79 rfl (ag_il agc_322_81 hC.2 (ag_mul agc_322_82 (ag_il2 agc_322_83 hl (ag_add agc_322_85 (ag_al agc_322_86 hC.1 (ag_get agc_322_87 hd.1 ago_20 (f20 h hd) (ag_il2 agc_322_90 hl (ag_ia agc_322_92 hd.1 aga_224 hxs (by have : (ae_sh 224).2.2 = 1925 := rfl; omega) hcs (hst _ _ (ag_inc agc_322_94 (by decide +kernel) hl (ag_go agc_322_97 hr))))))))))))))))⟩⟩)
    (fun lw h x hd hC hl hx n r hr => ⟨n + 3, ag_il2 agc_322_68 hl (ag_bi agc_322_70 rfl (ag_ge1 agc_322_72 (by rw [hx, (by decide : ((Int8.ofInt 109).toInt32).toInt = ((109 : Nat) : Int))]; omega) (hr)))⟩) (by omega)
noncomputable def aem_10 : ae_Mc := (322, 162, 194, 6, [(0, true, 219), (6, false, 0), (2, false, 2)], [(224, 0, 108)], [(231, 218, 224, 0, 109)])
theorem aemq1_10 : (List.range 109).all (ae_cpv false 231 218 224 0) = true := by decide +kernel
theorem aemq2_10 : ae_cpf false 231 218 224 0 109 = true := by decide +kernel
set_option maxRecDepth 20000 in
theorem aemt_10 : ae_MOK aem_10 := by
  intro L xs d lw0 h0 hL hc hk
  have c0 : ∃ p : Nat, am_lk lw0 0 = some (.ref p) ∧ (p : Int) = 219 := hc (0, true, 219) List.mem_cons_self
  obtain ⟨p0, c0, e0⟩ := c0
  obtain rfl : p0 = 219 := by omega
  have ck : ∃ x : Int32, am_lk lw0 6 = some (.int x) ∧ x.toInt = 0 := hc (6, false, 0) (List.mem_cons_of_mem _ List.mem_cons_self)
  obtain ⟨x0, ck, ex0⟩ := ck
  have cw2 : ∃ x : Int32, am_lk lw0 2 = some (.int x) ∧ x.toInt = 2 := hc (2, false, 2) (List.mem_cons_of_mem _ (List.mem_cons_of_mem _ List.mem_cons_self))
  obtain ⟨w2, cw2, ew2⟩ := cw2
  obtain rfl : w2 = (2 : Int32) := Int32.toInt_inj.mp (by rw [ew2]; rfl)
  --
  have f20 : ∀ {i : Nat} (h : List am_E), ae_cpd false 231 218 224 0 i L xs h0 h → ae_cell L xs h 219 20 = some (.ref 224) := fun h hd => (ae_cpd_no hd (Or.inl (by decide))).trans (ae_fld hk ago_20 (by decide +kernel) (by decide +kernel))
  have f35 : ∀ {i : Nat} (h : List am_E), ae_cpd false 231 218 224 0 i L xs h0 h → ae_cell L xs h 219 35 = some (.ref 231) := fun h hd => (ae_cpd_no hd (Or.inl (by decide))).trans (ae_fld hk ago_35 (by decide +kernel) (by decide +kernel))
  exact ae_mk1 (z := false) (src := 231) (so := 218) (dst := 224) (dO := 0) (cnt := 109) (k := 6) (lo := 0) (hi := 108) (C := fun lw => am_lk lw 0 = some (.ref 219) ∧ am_lk lw 2 = some (.int 2)) hk (Or.inr ⟨by decide, by decide, by have : (ae_sh 231).2.2 = 436 := rfl; omega⟩) aemq1_10 aemq2_10 rfl (by omega) (by omega) (fun t ht => by rcases List.mem_singleton.mp ht with rfl; exact ⟨rfl, rfl⟩)
    (fun lw v hc => ⟨ag_lk2 (by decide) (fun _ => rfl) hc.1, ag_lk2 (by decide) (fun _ => rfl) hc.2⟩) ⟨c0, cw2⟩ ck ex0
    (fun i lw h x hi hd hC hl hx => by
      obtain ⟨v, hcv⟩ := ae_aie (L := L) (xs := xs) hk.1 (p := 231) (j := 218 + i) aga_231 (by have : (ae_sh 231).2.2 = 436 := rfl; omega)
      have hcs : ae_cell L xs h 231 (218 + i) = some (.int v) := (ae_cpd_no hd (by omega)).trans hcv
      have hxd := (show (x).toInt = ((0 + i : Nat) : Int) by omega)
      have hxs := (show ((((Int8.ofInt 109).toInt32 * (2 : Int32)) + x)).toInt = ((218 + i : Nat) : Int) from (ag_wa (by decide : (((Int8.ofInt 109).toInt32 * (2 : Int32))).toInt = ((218 : Nat) : Int)) hx (by omega) (by omega)))
      obtain ⟨h1, hw, hst⟩ := ag_st (L := L) (xs := xs) (d := d) (lw := lw) (sw := []) (v := v) agc_322_187 hd.1 aga_224 hxd (by have : (ae_sh 224).2.2 = 1925 := rfl; omega)
      exact ⟨h1, _, hw, hcv, fun n r hr => ⟨n + 17, ag_il2 agc_322_162 hl (ag_bi agc_322_164 rfl (ag_ge0 agc_322_166 (by rw [hx, (by decide : ((Int8.ofInt 109).toInt32).toInt = ((109 : Nat) : Int))]; omega) (ag_al agc_322_169 hC.1 (ag_get agc_322_170 hd.1 ago_20 (f20 h hd) (ag_il2 agc_322_173 hl (ag_al agc_322_175 hC.1 (ag_get agc_322_176 hd.1 ago_35 (f35 h hd) (ag_bi agc_322_179 rfl (ag_il agc_322_181 hC.2 (ag_mul agc_322_182 (ag_il2 agc_322_183 hl (ag_add agc_322_185 (ag_ia agc_322_186 hd.1 aga_231 hxs (by have : (ae_sh 231).2.2 = 436 := rfl; omega) hcs (hst _ _ (ag_inc agc_322_188 (by decide +kernel) hl (ag_go agc_322_191 hr))))))))))))))))⟩⟩)
    (fun lw h x hd hC hl hx n r hr => ⟨n + 3, ag_il2 agc_322_162 hl (ag_bi agc_322_164 rfl (ag_ge1 agc_322_166 (by rw [hx, (by decide : ((Int8.ofInt 109).toInt32).toInt = ((109 : Nat) : Int))]; omega) (hr)))⟩) (by omega)
noncomputable def aem_11 : ae_Mc := (322, 68, 100, 5, [(0, true, 219), (5, false, 0), (2, false, 3)], [(231, 327, 435)], [(224, 0, 231, 327, 109)])
theorem aemq1_11 : (List.range 109).all (ae_cpv false 224 0 231 327) = true := by decide +kernel
theorem aemq2_11 : ae_cpf false 224 0 231 327 109 = true := by decide +kernel
set_option maxRecDepth 20000 in
theorem aemt_11 : ae_MOK aem_11 := by
  intro L xs d lw0 h0 hL hc hk
  have c0 : ∃ p : Nat, am_lk lw0 0 = some (.ref p) ∧ (p : Int) = 219 := hc (0, true, 219) List.mem_cons_self
  obtain ⟨p0, c0, e0⟩ := c0
  obtain rfl : p0 = 219 := by omega
  have ck : ∃ x : Int32, am_lk lw0 5 = some (.int x) ∧ x.toInt = 0 := hc (5, false, 0) (List.mem_cons_of_mem _ List.mem_cons_self)
  obtain ⟨x0, ck, ex0⟩ := ck
  have cw2 : ∃ x : Int32, am_lk lw0 2 = some (.int x) ∧ x.toInt = 3 := hc (2, false, 3) (List.mem_cons_of_mem _ (List.mem_cons_of_mem _ List.mem_cons_self))
  obtain ⟨w2, cw2, ew2⟩ := cw2
  obtain rfl : w2 = (3 : Int32) := Int32.toInt_inj.mp (by rw [ew2]; rfl)
  --
  have f20 : ∀ {i : Nat} (h : List am_E), ae_cpd false 224 0 231 327 i L xs h0 h → ae_cell L xs h 219 20 = some (.ref 224) := fun h hd => (ae_cpd_no hd (Or.inl (by decide))).trans (ae_fld hk ago_20 (by decide +kernel) (by decide +kernel))
  have f35 : ∀ {i : Nat} (h : List am_E), ae_cpd false 224 0 231 327 i L xs h0 h → ae_cell L xs h 219 35 = some (.ref 231) := fun h hd => (ae_cpd_no hd (Or.inl (by decide))).trans (ae_fld hk ago_35 (by decide +kernel) (by decide +kernel))
  exact ae_mk1 (z := false) (src := 224) (so := 0) (dst := 231) (dO := 327) (cnt := 109) (k := 5) (lo := 327) (hi := 435) (C := fun lw => am_lk lw 0 = some (.ref 219) ∧ am_lk lw 2 = some (.int 3)) hk (Or.inr ⟨by decide, by decide, by have : (ae_sh 224).2.2 = 1925 := rfl; omega⟩) aemq1_11 aemq2_11 rfl (by omega) (by omega) (fun t ht => by rcases List.mem_singleton.mp ht with rfl; exact ⟨rfl, rfl⟩)
    (fun lw v hc => ⟨ag_lk2 (by decide) (fun _ => rfl) hc.1, ag_lk2 (by decide) (fun _ => rfl) hc.2⟩) ⟨c0, cw2⟩ ck ex0
    (fun i lw h x hi hd hC hl hx => by
      obtain ⟨v, hcv⟩ := ae_aie (L := L) (xs := xs) hk.1 (p := 224) (j := 0 + i) aga_224 (by have : (ae_sh 224).2.2 = 1925 := rfl; omega)
      have hcs : ae_cell L xs h 224 (0 + i) = some (.int v) := (ae_cpd_no hd (by omega)).trans hcv
      have hxd := (show ((((Int8.ofInt 109).toInt32 * (3 : Int32)) + x)).toInt = ((327 + i : Nat) : Int) from (ag_wa (by decide : (((Int8.ofInt 109).toInt32 * (3 : Int32))).toInt = ((327 : Nat) : Int)) hx (by omega) (by omega)))
      have hxs := (show (x).toInt = ((0 + i : Nat) : Int) by omega)
      obtain ⟨h1, hw, hst⟩ := ag_st (L := L) (xs := xs) (d := d) (lw := lw) (sw := []) (v := v) agc_322_93 hd.1 aga_231 hxd (by have : (ae_sh 231).2.2 = 436 := rfl; omega)
      exact ⟨h1, _, hw, hcv, fun n r hr => ⟨n + 17, ag_il2 agc_322_68 hl (ag_bi agc_322_70 rfl (ag_ge0 agc_322_72 (by rw [hx, (by decide : ((Int8.ofInt 109).toInt32).toInt = ((109 : Nat) : Int))]; omega) (ag_al agc_322_75 hC.1 (ag_get agc_322_76 hd.1 ago_35 (f35 h hd) (ag_bi agc_322_79 rfl (ag_il agc_322_81 hC.2 (ag_mul agc_322_82 (ag_il2 agc_322_83 hl (ag_add agc_322_85 (ag_al agc_322_86 hC.1 (ag_get agc_322_87 hd.1 ago_20 (f20 h hd) (ag_il2 agc_322_90 hl (ag_ia agc_322_92 hd.1 aga_224 hxs (by have : (ae_sh 224).2.2 = 1925 := rfl; omega) hcs (hst _ _ (ag_inc agc_322_94 (by decide +kernel) hl (ag_go agc_322_97 hr))))))))))))))))⟩⟩)
    (fun lw h x hd hC hl hx n r hr => ⟨n + 3, ag_il2 agc_322_68 hl (ag_bi agc_322_70 rfl (ag_ge1 agc_322_72 (by rw [hx, (by decide : ((Int8.ofInt 109).toInt32).toInt = ((109 : Nat) : Int))]; omega) (hr)))⟩) (by omega)
noncomputable def aem_12 : ae_Mc := (322, 162, 194, 6, [(0, true, 219), (6, false, 0), (2, false, 3)], [(224, 0, 108)], [(231, 327, 224, 0, 109)])
theorem aemq1_12 : (List.range 109).all (ae_cpv false 231 327 224 0) = true := by decide +kernel
theorem aemq2_12 : ae_cpf false 231 327 224 0 109 = true := by decide +kernel
set_option maxRecDepth 20000 in
theorem aemt_12 : ae_MOK aem_12 := by
  intro L xs d lw0 h0 hL hc hk
  have c0 : ∃ p : Nat, am_lk lw0 0 = some (.ref p) ∧ (p : Int) = 219 := hc (0, true, 219) List.mem_cons_self
  obtain ⟨p0, c0, e0⟩ := c0
  obtain rfl : p0 = 219 := by omega
  have ck : ∃ x : Int32, am_lk lw0 6 = some (.int x) ∧ x.toInt = 0 := hc (6, false, 0) (List.mem_cons_of_mem _ List.mem_cons_self)
  obtain ⟨x0, ck, ex0⟩ := ck
  have cw2 : ∃ x : Int32, am_lk lw0 2 = some (.int x) ∧ x.toInt = 3 := hc (2, false, 3) (List.mem_cons_of_mem _ (List.mem_cons_of_mem _ List.mem_cons_self))
  obtain ⟨w2, cw2, ew2⟩ := cw2
  obtain rfl : w2 = (3 : Int32) := Int32.toInt_inj.mp (by rw [ew2]; rfl)
  --
  have f20 : ∀ {i : Nat} (h : List am_E), ae_cpd false 231 327 224 0 i L xs h0 h → ae_cell L xs h 219 20 = some (.ref 224) := fun h hd => (ae_cpd_no hd (Or.inl (by decide))).trans (ae_fld hk ago_20 (by decide +kernel) (by decide +kernel))
  have f35 : ∀ {i : Nat} (h : List am_E), ae_cpd false 231 327 224 0 i L xs h0 h → ae_cell L xs h 219 35 = some (.ref 231) := fun h hd => (ae_cpd_no hd (Or.inl (by decide))).trans (ae_fld hk ago_35 (by decide +kernel) (by decide +kernel))
  exact ae_mk1 (z := false) (src := 231) (so := 327) (dst := 224) (dO := 0) (cnt := 109) (k := 6) (lo := 0) (hi := 108) (C := fun lw => am_lk lw 0 = some (.ref 219) ∧ am_lk lw 2 = some (.int 3)) hk (Or.inr ⟨by decide, by decide, by have : (ae_sh 231).2.2 = 436 := rfl; omega⟩) aemq1_12 aemq2_12 rfl (by omega) (by omega) (fun t ht => by rcases List.mem_singleton.mp ht with rfl; exact ⟨rfl, rfl⟩)
    (fun lw v hc => ⟨ag_lk2 (by decide) (fun _ => rfl) hc.1, ag_lk2 (by decide) (fun _ => rfl) hc.2⟩) ⟨c0, cw2⟩ ck ex0
    (fun i lw h x hi hd hC hl hx => by
      obtain ⟨v, hcv⟩ := ae_aie (L := L) (xs := xs) hk.1 (p := 231) (j := 327 + i) aga_231 (by have : (ae_sh 231).2.2 = 436 := rfl; omega)
      have hcs : ae_cell L xs h 231 (327 + i) = some (.int v) := (ae_cpd_no hd (by omega)).trans hcv
      have hxd := (show (x).toInt = ((0 + i : Nat) : Int) by omega)
      have hxs := (show ((((Int8.ofInt 109).toInt32 * (3 : Int32)) + x)).toInt = ((327 + i : Nat) : Int) from (ag_wa (by decide : (((Int8.ofInt 109).toInt32 * (3 : Int32))).toInt = ((327 : Nat) : Int)) hx (by omega) (by omega)))
      obtain ⟨h1, hw, hst⟩ := ag_st (L := L) (xs := xs) (d := d) (lw := lw) (sw := []) (v := v) agc_322_187 hd.1 aga_224 hxd (by have : (ae_sh 224).2.2 = 1925 := rfl; omega)
      exact ⟨h1, _, hw, hcv, fun n r hr => ⟨n + 17, ag_il2 agc_322_162 hl (ag_bi agc_322_164 rfl (ag_ge0 agc_322_166 (by rw [hx, (by decide : ((Int8.ofInt 109).toInt32).toInt = ((109 : Nat) : Int))]; omega) (ag_al agc_322_169 hC.1 (ag_get agc_322_170 hd.1 ago_20 (f20 h hd) (ag_il2 agc_322_173 hl (ag_al agc_322_175 hC.1 (ag_get agc_322_176 hd.1 ago_35 (f35 h hd) (ag_bi agc_322_179 rfl (ag_il agc_322_181 hC.2 (ag_mul agc_322_182 (ag_il2 agc_322_183 hl (ag_add agc_322_185 (ag_ia agc_322_186 hd.1 aga_231 hxs (by have : (ae_sh 231).2.2 = 436 := rfl; omega) hcs (hst _ _ (ag_inc agc_322_188 (by decide +kernel) hl (ag_go agc_322_191 hr))))))))))))))))⟩⟩)
    (fun lw h x hd hC hl hx n r hr => ⟨n + 3, ag_il2 agc_322_162 hl (ag_bi agc_322_164 rfl (ag_ge1 agc_322_166 (by rw [hx, (by decide : ((Int8.ofInt 109).toInt32).toInt = ((109 : Nat) : Int))]; omega) (hr)))⟩) (by omega)
theorem agc_350_2 : am_code 350 2 = some (.iload_n 3, 0, 0) := rfl
theorem agc_350_3 : am_code 350 3 = some (.sipush 385, 0, 0) := rfl
theorem agc_350_6 : am_code 350 6 = some (.if_icmp .ge 33, 39, 0) := rfl
theorem agc_350_9 : am_code 350 9 = some (.aload_n 0, 0, 0) := rfl
theorem agc_350_10 : am_code 350 10 = some (.getfield 35, 12, 20) := rfl
theorem agc_350_13 : am_code 350 13 = some (.sipush 385, 0, 0) := rfl
theorem agc_350_16 : am_code 350 16 = some (.iload_n 2, 0, 0) := rfl
theorem agc_350_17 : am_code 350 17 = some (.imul, 0, 0) := rfl
theorem agc_350_18 : am_code 350 18 = some (.iload_n 3, 0, 0) := rfl
theorem agc_350_19 : am_code 350 19 = some (.iadd, 0, 0) := rfl
theorem agc_350_20 : am_code 350 20 = some (.aload_n 0, 0, 0) := rfl
theorem agc_350_21 : am_code 350 21 = some (.getfield 35, 12, 20) := rfl
theorem agc_350_24 : am_code 350 24 = some (.sipush 385, 0, 0) := rfl
theorem agc_350_27 : am_code 350 27 = some (.iload_n 1, 0, 0) := rfl
theorem agc_350_28 : am_code 350 28 = some (.imul, 0, 0) := rfl
theorem agc_350_29 : am_code 350 29 = some (.iload_n 3, 0, 0) := rfl
theorem agc_350_30 : am_code 350 30 = some (.iadd, 0, 0) := rfl
theorem agc_350_31 : am_code 350 31 = some (.iaload, 0, 0) := rfl
theorem agc_350_32 : am_code 350 32 = some (.iastore, 0, 0) := rfl
theorem agc_350_33 : am_code 350 33 = some (.iinc 3 1, 0, 0) := rfl
theorem agc_350_36 : am_code 350 36 = some (.goto (-34), 2, 0) := rfl
noncomputable def aem_13 : ae_Mc := (350, 2, 39, 3, [(0, true, 219), (3, false, 0), (1, false, 4), (2, false, 0)], [(224, 0, 384)], [(224, 1540, 224, 0, 385)])
theorem aemq1_13 : (List.range 385).all (ae_cpv false 224 1540 224 0) = true := by decide +kernel
theorem aemq2_13 : ae_cpf false 224 1540 224 0 385 = true := by decide +kernel
set_option maxRecDepth 20000 in
theorem aemt_13 : ae_MOK aem_13 := by
  intro L xs d lw0 h0 hL hc hk
  have c0 : ∃ p : Nat, am_lk lw0 0 = some (.ref p) ∧ (p : Int) = 219 := hc (0, true, 219) List.mem_cons_self
  obtain ⟨p0, c0, e0⟩ := c0
  obtain rfl : p0 = 219 := by omega
  have ck : ∃ x : Int32, am_lk lw0 3 = some (.int x) ∧ x.toInt = 0 := hc (3, false, 0) (List.mem_cons_of_mem _ List.mem_cons_self)
  obtain ⟨x0, ck, ex0⟩ := ck
  have cw1 : ∃ x : Int32, am_lk lw0 1 = some (.int x) ∧ x.toInt = 4 := hc (1, false, 4) (List.mem_cons_of_mem _ (List.mem_cons_of_mem _ List.mem_cons_self))
  obtain ⟨w1, cw1, ew1⟩ := cw1
  obtain rfl : w1 = (4 : Int32) := Int32.toInt_inj.mp (by rw [ew1]; rfl)
  have cw2 : ∃ x : Int32, am_lk lw0 2 = some (.int x) ∧ x.toInt = 0 := hc (2, false, 0) (List.mem_cons_of_mem _ (List.mem_cons_of_mem _ (List.mem_cons_of_mem _ List.mem_cons_self)))
  obtain ⟨w2, cw2, ew2⟩ := cw2
  obtain rfl : w2 = (0 : Int32) := Int32.toInt_inj.mp (by rw [ew2]; rfl)
  --
  have f20 : ∀ {i : Nat} (h : List am_E), ae_cpd false 224 1540 224 0 i L xs h0 h → ae_cell L xs h 219 20 = some (.ref 224) := fun h hd => (ae_cpd_no hd (Or.inl (by decide))).trans (ae_fld hk ago_20 (by decide +kernel) (by decide +kernel))
  exact ae_mk1 (z := false) (src := 224) (so := 1540) (dst := 224) (dO := 0) (cnt := 385) (k := 3) (lo := 0) (hi := 384) (C := fun lw => am_lk lw 0 = some (.ref 219) ∧ am_lk lw 1 = some (.int 4) ∧ am_lk lw 2 = some (.int 0)) hk (Or.inr ⟨by decide, by decide, by have : (ae_sh 224).2.2 = 1925 := rfl; omega⟩) aemq1_13 aemq2_13 rfl (by omega) (by omega) (fun t ht => by rcases List.mem_singleton.mp ht with rfl; exact ⟨rfl, rfl⟩)
    (fun lw v hc => ⟨ag_lk2 (by decide) (fun _ => rfl) hc.1, ag_lk2 (by decide) (fun _ => rfl) hc.2.1, ag_lk2 (by decide) (fun _ => rfl) hc.2.2⟩) ⟨c0, cw1, cw2⟩ ck ex0
    (fun i lw h x hi hd hC hl hx => by
      obtain ⟨v, hcv⟩ := ae_aie (L := L) (xs := xs) hk.1 (p := 224) (j := 1540 + i) aga_224 (by have : (ae_sh 224).2.2 = 1925 := rfl; omega)
      have hcs : ae_cell L xs h 224 (1540 + i) = some (.int v) := (ae_cpd_no hd (by omega)).trans hcv
      have hxd := (show ((((Int16.ofInt 385).toInt32 * (0 : Int32)) + x)).toInt = ((0 + i : Nat) : Int) from (ag_wa (by decide : (((Int16.ofInt 385).toInt32 * (0 : Int32))).toInt = ((0 : Nat) : Int)) hx (by omega) (by omega)))
      have hxs := (show ((((Int16.ofInt 385).toInt32 * (4 : Int32)) + x)).toInt = ((1540 + i : Nat) : Int) from (ag_wa (by decide : (((Int16.ofInt 385).toInt32 * (4 : Int32))).toInt = ((1540 : Nat) : Int)) hx (by omega) (by omega)))
      obtain ⟨h1, hw, hst⟩ := ag_st (L := L) (xs := xs) (d := d) (lw := lw) (sw := []) (v := v) agc_350_32 hd.1 aga_224 hxd (by have : (ae_sh 224).2.2 = 1925 := rfl; omega)
      exact ⟨h1, _, hw, hcv, fun n r hr => ⟨n + 21, ag_il agc_350_2 hl (ag_si agc_350_3 rfl (ag_ge0 agc_350_6 (by rw [hx, (by decide : ((Int16.ofInt 385).toInt32).toInt = ((385 : Nat) : Int))]; omega) (ag_al agc_350_9 hC.1 (ag_get agc_350_10 hd.1 ago_20 (f20 h hd) (ag_si agc_350_13 rfl (ag_il agc_350_16 hC.2.2 (ag_mul agc_350_17 (ag_il agc_350_18 hl (ag_add agc_350_19 (ag_al agc_350_20 hC.1 (ag_get agc_350_21 hd.1 ago_20 (f20 h hd) (ag_si agc_350_24 rfl (ag_il agc_350_27 hC.2.1 (ag_mul agc_350_28 (ag_il agc_350_29 hl (ag_add agc_350_30 (ag_ia agc_350_31 hd.1 aga_224 hxs (by have : (ae_sh 224).2.2 = 1925 := rfl; omega) hcs (hst _ _ (ag_inc agc_350_33 (by decide +kernel) hl (ag_go agc_350_36 hr))))))))))))))))))))⟩⟩)
    (fun lw h x hd hC hl hx n r hr => ⟨n + 3, ag_il agc_350_2 hl (ag_si agc_350_3 rfl (ag_ge1 agc_350_6 (by rw [hx, (by decide : ((Int16.ofInt 385).toInt32).toInt = ((385 : Nat) : Int))]; omega) (hr)))⟩) (by omega)
noncomputable def aem_14 : ae_Mc := (350, 2, 39, 3, [(0, true, 219), (3, false, 0), (1, false, 0), (2, false, 1)], [(224, 385, 769)], [(224, 0, 224, 385, 385)])
theorem aemq1_14 : (List.range 385).all (ae_cpv false 224 0 224 385) = true := by decide +kernel
theorem aemq2_14 : ae_cpf false 224 0 224 385 385 = true := by decide +kernel
set_option maxRecDepth 20000 in
theorem aemt_14 : ae_MOK aem_14 := by
  intro L xs d lw0 h0 hL hc hk
  have c0 : ∃ p : Nat, am_lk lw0 0 = some (.ref p) ∧ (p : Int) = 219 := hc (0, true, 219) List.mem_cons_self
  obtain ⟨p0, c0, e0⟩ := c0
  obtain rfl : p0 = 219 := by omega
  have ck : ∃ x : Int32, am_lk lw0 3 = some (.int x) ∧ x.toInt = 0 := hc (3, false, 0) (List.mem_cons_of_mem _ List.mem_cons_self)
  obtain ⟨x0, ck, ex0⟩ := ck
  have cw1 : ∃ x : Int32, am_lk lw0 1 = some (.int x) ∧ x.toInt = 0 := hc (1, false, 0) (List.mem_cons_of_mem _ (List.mem_cons_of_mem _ List.mem_cons_self))
  obtain ⟨w1, cw1, ew1⟩ := cw1
  obtain rfl : w1 = (0 : Int32) := Int32.toInt_inj.mp (by rw [ew1]; rfl)
  have cw2 : ∃ x : Int32, am_lk lw0 2 = some (.int x) ∧ x.toInt = 1 := hc (2, false, 1) (List.mem_cons_of_mem _ (List.mem_cons_of_mem _ (List.mem_cons_of_mem _ List.mem_cons_self)))
  obtain ⟨w2, cw2, ew2⟩ := cw2
  obtain rfl : w2 = (1 : Int32) := Int32.toInt_inj.mp (by rw [ew2]; rfl)
  --
  have f20 : ∀ {i : Nat} (h : List am_E), ae_cpd false 224 0 224 385 i L xs h0 h → ae_cell L xs h 219 20 = some (.ref 224) := fun h hd => (ae_cpd_no hd (Or.inl (by decide))).trans (ae_fld hk ago_20 (by decide +kernel) (by decide +kernel))
  exact ae_mk1 (z := false) (src := 224) (so := 0) (dst := 224) (dO := 385) (cnt := 385) (k := 3) (lo := 385) (hi := 769) (C := fun lw => am_lk lw 0 = some (.ref 219) ∧ am_lk lw 1 = some (.int 0) ∧ am_lk lw 2 = some (.int 1)) hk (Or.inr ⟨by decide, by decide, by have : (ae_sh 224).2.2 = 1925 := rfl; omega⟩) aemq1_14 aemq2_14 rfl (by omega) (by omega) (fun t ht => by rcases List.mem_singleton.mp ht with rfl; exact ⟨rfl, rfl⟩)
    (fun lw v hc => ⟨ag_lk2 (by decide) (fun _ => rfl) hc.1, ag_lk2 (by decide) (fun _ => rfl) hc.2.1, ag_lk2 (by decide) (fun _ => rfl) hc.2.2⟩) ⟨c0, cw1, cw2⟩ ck ex0
    (fun i lw h x hi hd hC hl hx => by
      obtain ⟨v, hcv⟩ := ae_aie (L := L) (xs := xs) hk.1 (p := 224) (j := 0 + i) aga_224 (by have : (ae_sh 224).2.2 = 1925 := rfl; omega)
      have hcs : ae_cell L xs h 224 (0 + i) = some (.int v) := (ae_cpd_no hd (by omega)).trans hcv
      have hxd := (show ((((Int16.ofInt 385).toInt32 * (1 : Int32)) + x)).toInt = ((385 + i : Nat) : Int) from (ag_wa (by decide : (((Int16.ofInt 385).toInt32 * (1 : Int32))).toInt = ((385 : Nat) : Int)) hx (by omega) (by omega)))
      have hxs := (show ((((Int16.ofInt 385).toInt32 * (0 : Int32)) + x)).toInt = ((0 + i : Nat) : Int) from (ag_wa (by decide : (((Int16.ofInt 385).toInt32 * (0 : Int32))).toInt = ((0 : Nat) : Int)) hx (by omega) (by omega)))
      obtain ⟨h1, hw, hst⟩ := ag_st (L := L) (xs := xs) (d := d) (lw := lw) (sw := []) (v := v) agc_350_32 hd.1 aga_224 hxd (by have : (ae_sh 224).2.2 = 1925 := rfl; omega)
      exact ⟨h1, _, hw, hcv, fun n r hr => ⟨n + 21, ag_il agc_350_2 hl (ag_si agc_350_3 rfl (ag_ge0 agc_350_6 (by rw [hx, (by decide : ((Int16.ofInt 385).toInt32).toInt = ((385 : Nat) : Int))]; omega) (ag_al agc_350_9 hC.1 (ag_get agc_350_10 hd.1 ago_20 (f20 h hd) (ag_si agc_350_13 rfl (ag_il agc_350_16 hC.2.2 (ag_mul agc_350_17 (ag_il agc_350_18 hl (ag_add agc_350_19 (ag_al agc_350_20 hC.1 (ag_get agc_350_21 hd.1 ago_20 (f20 h hd) (ag_si agc_350_24 rfl (ag_il agc_350_27 hC.2.1 (ag_mul agc_350_28 (ag_il agc_350_29 hl (ag_add agc_350_30 (ag_ia agc_350_31 hd.1 aga_224 hxs (by have : (ae_sh 224).2.2 = 1925 := rfl; omega) hcs (hst _ _ (ag_inc agc_350_33 (by decide +kernel) hl (ag_go agc_350_36 hr))))))))))))))))))))⟩⟩)
    (fun lw h x hd hC hl hx n r hr => ⟨n + 3, ag_il agc_350_2 hl (ag_si agc_350_3 rfl (ag_ge1 agc_350_6 (by rw [hx, (by decide : ((Int16.ofInt 385).toInt32).toInt = ((385 : Nat) : Int))]; omega) (hr)))⟩) (by omega)
noncomputable def aem_15 : ae_Mc := (350, 2, 39, 3, [(0, true, 219), (3, false, 0), (1, false, 0), (2, false, 2)], [(224, 770, 1154)], [(224, 0, 224, 770, 385)])
theorem aemq1_15 : (List.range 385).all (ae_cpv false 224 0 224 770) = true := by decide +kernel
theorem aemq2_15 : ae_cpf false 224 0 224 770 385 = true := by decide +kernel
set_option maxRecDepth 20000 in
theorem aemt_15 : ae_MOK aem_15 := by
  intro L xs d lw0 h0 hL hc hk
  have c0 : ∃ p : Nat, am_lk lw0 0 = some (.ref p) ∧ (p : Int) = 219 := hc (0, true, 219) List.mem_cons_self
  obtain ⟨p0, c0, e0⟩ := c0
  obtain rfl : p0 = 219 := by omega
  have ck : ∃ x : Int32, am_lk lw0 3 = some (.int x) ∧ x.toInt = 0 := hc (3, false, 0) (List.mem_cons_of_mem _ List.mem_cons_self)
  obtain ⟨x0, ck, ex0⟩ := ck
  have cw1 : ∃ x : Int32, am_lk lw0 1 = some (.int x) ∧ x.toInt = 0 := hc (1, false, 0) (List.mem_cons_of_mem _ (List.mem_cons_of_mem _ List.mem_cons_self))
  obtain ⟨w1, cw1, ew1⟩ := cw1
  obtain rfl : w1 = (0 : Int32) := Int32.toInt_inj.mp (by rw [ew1]; rfl)
  have cw2 : ∃ x : Int32, am_lk lw0 2 = some (.int x) ∧ x.toInt = 2 := hc (2, false, 2) (List.mem_cons_of_mem _ (List.mem_cons_of_mem _ (List.mem_cons_of_mem _ List.mem_cons_self)))
  obtain ⟨w2, cw2, ew2⟩ := cw2
  obtain rfl : w2 = (2 : Int32) := Int32.toInt_inj.mp (by rw [ew2]; rfl)
  --
  have f20 : ∀ {i : Nat} (h : List am_E), ae_cpd false 224 0 224 770 i L xs h0 h → ae_cell L xs h 219 20 = some (.ref 224) := fun h hd => (ae_cpd_no hd (Or.inl (by decide))).trans (ae_fld hk ago_20 (by decide +kernel) (by decide +kernel))
  exact ae_mk1 (z := false) (src := 224) (so := 0) (dst := 224) (dO := 770) (cnt := 385) (k := 3) (lo := 770) (hi := 1154) (C := fun lw => am_lk lw 0 = some (.ref 219) ∧ am_lk lw 1 = some (.int 0) ∧ am_lk lw 2 = some (.int 2)) hk (Or.inr ⟨by decide, by decide, by have : (ae_sh 224).2.2 = 1925 := rfl; omega⟩) aemq1_15 aemq2_15 rfl (by omega) (by omega) (fun t ht => by rcases List.mem_singleton.mp ht with rfl; exact ⟨rfl, rfl⟩)
    (fun lw v hc => ⟨ag_lk2 (by decide) (fun _ => rfl) hc.1, ag_lk2 (by decide) (fun _ => rfl) hc.2.1, ag_lk2 (by decide) (fun _ => rfl) hc.2.2⟩) ⟨c0, cw1, cw2⟩ ck ex0
    (fun i lw h x hi hd hC hl hx => by
      obtain ⟨v, hcv⟩ := ae_aie (L := L) (xs := xs) hk.1 (p := 224) (j := 0 + i) aga_224 (by have : (ae_sh 224).2.2 = 1925 := rfl; omega)
      have hcs : ae_cell L xs h 224 (0 + i) = some (.int v) := (ae_cpd_no hd (by omega)).trans hcv
      have hxd := (show ((((Int16.ofInt 385).toInt32 * (2 : Int32)) + x)).toInt = ((770 + i : Nat) : Int) from (ag_wa (by decide : (((Int16.ofInt 385).toInt32 * (2 : Int32))).toInt = ((770 : Nat) : Int)) hx (by omega) (by omega)))
      have hxs := (show ((((Int16.ofInt 385).toInt32 * (0 : Int32)) + x)).toInt = ((0 + i : Nat) : Int) from (ag_wa (by decide : (((Int16.ofInt 385).toInt32 * (0 : Int32))).toInt = ((0 : Nat) : Int)) hx (by omega) (by omega)))
      obtain ⟨h1, hw, hst⟩ := ag_st (L := L) (xs := xs) (d := d) (lw := lw) (sw := []) (v := v) agc_350_32 hd.1 aga_224 hxd (by have : (ae_sh 224).2.2 = 1925 := rfl; omega)
      exact ⟨h1, _, hw, hcv, fun n r hr => ⟨n + 21, ag_il agc_350_2 hl (ag_si agc_350_3 rfl (ag_ge0 agc_350_6 (by rw [hx, (by decide : ((Int16.ofInt 385).toInt32).toInt = ((385 : Nat) : Int))]; omega) (ag_al agc_350_9 hC.1 (ag_get agc_350_10 hd.1 ago_20 (f20 h hd) (ag_si agc_350_13 rfl (ag_il agc_350_16 hC.2.2 (ag_mul agc_350_17 (ag_il agc_350_18 hl (ag_add agc_350_19 (ag_al agc_350_20 hC.1 (ag_get agc_350_21 hd.1 ago_20 (f20 h hd) (ag_si agc_350_24 rfl (ag_il agc_350_27 hC.2.1 (ag_mul agc_350_28 (ag_il agc_350_29 hl (ag_add agc_350_30 (ag_ia agc_350_31 hd.1 aga_224 hxs (by have : (ae_sh 224).2.2 = 1925 := rfl; omega) hcs (hst _ _ (ag_inc agc_350_33 (by decide +kernel) hl (ag_go agc_350_36 hr))))))))))))))))))))⟩⟩)
    (fun lw h x hd hC hl hx n r hr => ⟨n + 3, ag_il agc_350_2 hl (ag_si agc_350_3 rfl (ag_ge1 agc_350_6 (by rw [hx, (by decide : ((Int16.ofInt 385).toInt32).toInt = ((385 : Nat) : Int))]; omega) (hr)))⟩) (by omega)
noncomputable def aem_16 : ae_Mc := (350, 2, 39, 3, [(0, true, 219), (3, false, 0), (1, false, 0), (2, false, 3)], [(224, 1155, 1539)], [(224, 0, 224, 1155, 385)])
theorem aemq1_16 : (List.range 385).all (ae_cpv false 224 0 224 1155) = true := by decide +kernel
theorem aemq2_16 : ae_cpf false 224 0 224 1155 385 = true := by decide +kernel
set_option maxRecDepth 20000 in
theorem aemt_16 : ae_MOK aem_16 := by
  intro L xs d lw0 h0 hL hc hk
  have c0 : ∃ p : Nat, am_lk lw0 0 = some (.ref p) ∧ (p : Int) = 219 := hc (0, true, 219) List.mem_cons_self
  obtain ⟨p0, c0, e0⟩ := c0
  obtain rfl : p0 = 219 := by omega
  have ck : ∃ x : Int32, am_lk lw0 3 = some (.int x) ∧ x.toInt = 0 := hc (3, false, 0) (List.mem_cons_of_mem _ List.mem_cons_self)
  obtain ⟨x0, ck, ex0⟩ := ck
  have cw1 : ∃ x : Int32, am_lk lw0 1 = some (.int x) ∧ x.toInt = 0 := hc (1, false, 0) (List.mem_cons_of_mem _ (List.mem_cons_of_mem _ List.mem_cons_self))
  obtain ⟨w1, cw1, ew1⟩ := cw1
  obtain rfl : w1 = (0 : Int32) := Int32.toInt_inj.mp (by rw [ew1]; rfl)
  have cw2 : ∃ x : Int32, am_lk lw0 2 = some (.int x) ∧ x.toInt = 3 := hc (2, false, 3) (List.mem_cons_of_mem _ (List.mem_cons_of_mem _ (List.mem_cons_of_mem _ List.mem_cons_self)))
  obtain ⟨w2, cw2, ew2⟩ := cw2
  obtain rfl : w2 = (3 : Int32) := Int32.toInt_inj.mp (by rw [ew2]; rfl)
  --
  have f20 : ∀ {i : Nat} (h : List am_E), ae_cpd false 224 0 224 1155 i L xs h0 h → ae_cell L xs h 219 20 = some (.ref 224) := fun h hd => (ae_cpd_no hd (Or.inl (by decide))).trans (ae_fld hk ago_20 (by decide +kernel) (by decide +kernel))
  exact ae_mk1 (z := false) (src := 224) (so := 0) (dst := 224) (dO := 1155) (cnt := 385) (k := 3) (lo := 1155) (hi := 1539) (C := fun lw => am_lk lw 0 = some (.ref 219) ∧ am_lk lw 1 = some (.int 0) ∧ am_lk lw 2 = some (.int 3)) hk (Or.inr ⟨by decide, by decide, by have : (ae_sh 224).2.2 = 1925 := rfl; omega⟩) aemq1_16 aemq2_16 rfl (by omega) (by omega) (fun t ht => by rcases List.mem_singleton.mp ht with rfl; exact ⟨rfl, rfl⟩)
    (fun lw v hc => ⟨ag_lk2 (by decide) (fun _ => rfl) hc.1, ag_lk2 (by decide) (fun _ => rfl) hc.2.1, ag_lk2 (by decide) (fun _ => rfl) hc.2.2⟩) ⟨c0, cw1, cw2⟩ ck ex0
    (fun i lw h x hi hd hC hl hx => by
      obtain ⟨v, hcv⟩ := ae_aie (L := L) (xs := xs) hk.1 (p := 224) (j := 0 + i) aga_224 (by have : (ae_sh 224).2.2 = 1925 := rfl; omega)
      have hcs : ae_cell L xs h 224 (0 + i) = some (.int v) := (ae_cpd_no hd (by omega)).trans hcv
      have hxd := (show ((((Int16.ofInt 385).toInt32 * (3 : Int32)) + x)).toInt = ((1155 + i : Nat) : Int) from (ag_wa (by decide : (((Int16.ofInt 385).toInt32 * (3 : Int32))).toInt = ((1155 : Nat) : Int)) hx (by omega) (by omega)))
      have hxs := (show ((((Int16.ofInt 385).toInt32 * (0 : Int32)) + x)).toInt = ((0 + i : Nat) : Int) from (ag_wa (by decide : (((Int16.ofInt 385).toInt32 * (0 : Int32))).toInt = ((0 : Nat) : Int)) hx (by omega) (by omega)))
      obtain ⟨h1, hw, hst⟩ := ag_st (L := L) (xs := xs) (d := d) (lw := lw) (sw := []) (v := v) agc_350_32 hd.1 aga_224 hxd (by have : (ae_sh 224).2.2 = 1925 := rfl; omega)
      exact ⟨h1, _, hw, hcv, fun n r hr => ⟨n + 21, ag_il agc_350_2 hl (ag_si agc_350_3 rfl (ag_ge0 agc_350_6 (by rw [hx, (by decide : ((Int16.ofInt 385).toInt32).toInt = ((385 : Nat) : Int))]; omega) (ag_al agc_350_9 hC.1 (ag_get agc_350_10 hd.1 ago_20 (f20 h hd) (ag_si agc_350_13 rfl (ag_il agc_350_16 hC.2.2 (ag_mul agc_350_17 (ag_il agc_350_18 hl (ag_add agc_350_19 (ag_al agc_350_20 hC.1 (ag_get agc_350_21 hd.1 ago_20 (f20 h hd) (ag_si agc_350_24 rfl (ag_il agc_350_27 hC.2.1 (ag_mul agc_350_28 (ag_il agc_350_29 hl (ag_add agc_350_30 (ag_ia agc_350_31 hd.1 aga_224 hxs (by have : (ae_sh 224).2.2 = 1925 := rfl; omega) hcs (hst _ _ (ag_inc agc_350_33 (by decide +kernel) hl (ag_go agc_350_36 hr))))))))))))))))))))⟩⟩)
    (fun lw h x hd hC hl hx n r hr => ⟨n + 3, ag_il agc_350_2 hl (ag_si agc_350_3 rfl (ag_ge1 agc_350_6 (by rw [hx, (by decide : ((Int16.ofInt 385).toInt32).toInt = ((385 : Nat) : Int))]; omega) (hr)))⟩) (by omega)
noncomputable def aem_17 : ae_Mc := (350, 2, 39, 3, [(0, true, 219), (3, false, 0), (1, false, 1), (2, false, 0)], [(224, 0, 384)], [(224, 385, 224, 0, 385)])
theorem aemq1_17 : (List.range 385).all (ae_cpv false 224 385 224 0) = true := by decide +kernel
theorem aemq2_17 : ae_cpf false 224 385 224 0 385 = true := by decide +kernel
set_option maxRecDepth 20000 in
theorem aemt_17 : ae_MOK aem_17 := by
  intro L xs d lw0 h0 hL hc hk
  have c0 : ∃ p : Nat, am_lk lw0 0 = some (.ref p) ∧ (p : Int) = 219 := hc (0, true, 219) List.mem_cons_self
  obtain ⟨p0, c0, e0⟩ := c0
  obtain rfl : p0 = 219 := by omega
  have ck : ∃ x : Int32, am_lk lw0 3 = some (.int x) ∧ x.toInt = 0 := hc (3, false, 0) (List.mem_cons_of_mem _ List.mem_cons_self)
  obtain ⟨x0, ck, ex0⟩ := ck
  have cw1 : ∃ x : Int32, am_lk lw0 1 = some (.int x) ∧ x.toInt = 1 := hc (1, false, 1) (List.mem_cons_of_mem _ (List.mem_cons_of_mem _ List.mem_cons_self))
  obtain ⟨w1, cw1, ew1⟩ := cw1
  obtain rfl : w1 = (1 : Int32) := Int32.toInt_inj.mp (by rw [ew1]; rfl)
  have cw2 : ∃ x : Int32, am_lk lw0 2 = some (.int x) ∧ x.toInt = 0 := hc (2, false, 0) (List.mem_cons_of_mem _ (List.mem_cons_of_mem _ (List.mem_cons_of_mem _ List.mem_cons_self)))
  obtain ⟨w2, cw2, ew2⟩ := cw2
  obtain rfl : w2 = (0 : Int32) := Int32.toInt_inj.mp (by rw [ew2]; rfl)
  --
  have f20 : ∀ {i : Nat} (h : List am_E), ae_cpd false 224 385 224 0 i L xs h0 h → ae_cell L xs h 219 20 = some (.ref 224) := fun h hd => (ae_cpd_no hd (Or.inl (by decide))).trans (ae_fld hk ago_20 (by decide +kernel) (by decide +kernel))
  exact ae_mk1 (z := false) (src := 224) (so := 385) (dst := 224) (dO := 0) (cnt := 385) (k := 3) (lo := 0) (hi := 384) (C := fun lw => am_lk lw 0 = some (.ref 219) ∧ am_lk lw 1 = some (.int 1) ∧ am_lk lw 2 = some (.int 0)) hk (Or.inr ⟨by decide, by decide, by have : (ae_sh 224).2.2 = 1925 := rfl; omega⟩) aemq1_17 aemq2_17 rfl (by omega) (by omega) (fun t ht => by rcases List.mem_singleton.mp ht with rfl; exact ⟨rfl, rfl⟩)
    (fun lw v hc => ⟨ag_lk2 (by decide) (fun _ => rfl) hc.1, ag_lk2 (by decide) (fun _ => rfl) hc.2.1, ag_lk2 (by decide) (fun _ => rfl) hc.2.2⟩) ⟨c0, cw1, cw2⟩ ck ex0
    (fun i lw h x hi hd hC hl hx => by
      obtain ⟨v, hcv⟩ := ae_aie (L := L) (xs := xs) hk.1 (p := 224) (j := 385 + i) aga_224 (by have : (ae_sh 224).2.2 = 1925 := rfl; omega)
      have hcs : ae_cell L xs h 224 (385 + i) = some (.int v) := (ae_cpd_no hd (by omega)).trans hcv
      have hxd := (show ((((Int16.ofInt 385).toInt32 * (0 : Int32)) + x)).toInt = ((0 + i : Nat) : Int) from (ag_wa (by decide : (((Int16.ofInt 385).toInt32 * (0 : Int32))).toInt = ((0 : Nat) : Int)) hx (by omega) (by omega)))
      have hxs := (show ((((Int16.ofInt 385).toInt32 * (1 : Int32)) + x)).toInt = ((385 + i : Nat) : Int) from (ag_wa (by decide : (((Int16.ofInt 385).toInt32 * (1 : Int32))).toInt = ((385 : Nat) : Int)) hx (by omega) (by omega)))
      obtain ⟨h1, hw, hst⟩ := ag_st (L := L) (xs := xs) (d := d) (lw := lw) (sw := []) (v := v) agc_350_32 hd.1 aga_224 hxd (by have : (ae_sh 224).2.2 = 1925 := rfl; omega)
      exact ⟨h1, _, hw, hcv, fun n r hr => ⟨n + 21, ag_il agc_350_2 hl (ag_si agc_350_3 rfl (ag_ge0 agc_350_6 (by rw [hx, (by decide : ((Int16.ofInt 385).toInt32).toInt = ((385 : Nat) : Int))]; omega) (ag_al agc_350_9 hC.1 (ag_get agc_350_10 hd.1 ago_20 (f20 h hd) (ag_si agc_350_13 rfl (ag_il agc_350_16 hC.2.2 (ag_mul agc_350_17 (ag_il agc_350_18 hl (ag_add agc_350_19 (ag_al agc_350_20 hC.1 (ag_get agc_350_21 hd.1 ago_20 (f20 h hd) (ag_si agc_350_24 rfl (ag_il agc_350_27 hC.2.1 (ag_mul agc_350_28 (ag_il agc_350_29 hl (ag_add agc_350_30 (ag_ia agc_350_31 hd.1 aga_224 hxs (by have : (ae_sh 224).2.2 = 1925 := rfl; omega) hcs (hst _ _ (ag_inc agc_350_33 (by decide +kernel) hl (ag_go agc_350_36 hr))))))))))))))))))))⟩⟩)
    (fun lw h x hd hC hl hx n r hr => ⟨n + 3, ag_il agc_350_2 hl (ag_si agc_350_3 rfl (ag_ge1 agc_350_6 (by rw [hx, (by decide : ((Int16.ofInt 385).toInt32).toInt = ((385 : Nat) : Int))]; omega) (hr)))⟩) (by omega)
noncomputable def aem_18 : ae_Mc := (350, 2, 39, 3, [(0, true, 219), (3, false, 0), (1, false, 2), (2, false, 0)], [(224, 0, 384)], [(224, 770, 224, 0, 385)])
theorem aemq1_18 : (List.range 385).all (ae_cpv false 224 770 224 0) = true := by decide +kernel
theorem aemq2_18 : ae_cpf false 224 770 224 0 385 = true := by decide +kernel
set_option maxRecDepth 20000 in
theorem aemt_18 : ae_MOK aem_18 := by
  intro L xs d lw0 h0 hL hc hk
  have c0 : ∃ p : Nat, am_lk lw0 0 = some (.ref p) ∧ (p : Int) = 219 := hc (0, true, 219) List.mem_cons_self
  obtain ⟨p0, c0, e0⟩ := c0
  obtain rfl : p0 = 219 := by omega
  have ck : ∃ x : Int32, am_lk lw0 3 = some (.int x) ∧ x.toInt = 0 := hc (3, false, 0) (List.mem_cons_of_mem _ List.mem_cons_self)
  obtain ⟨x0, ck, ex0⟩ := ck
  have cw1 : ∃ x : Int32, am_lk lw0 1 = some (.int x) ∧ x.toInt = 2 := hc (1, false, 2) (List.mem_cons_of_mem _ (List.mem_cons_of_mem _ List.mem_cons_self))
  obtain ⟨w1, cw1, ew1⟩ := cw1
  obtain rfl : w1 = (2 : Int32) := Int32.toInt_inj.mp (by rw [ew1]; rfl)
  have cw2 : ∃ x : Int32, am_lk lw0 2 = some (.int x) ∧ x.toInt = 0 := hc (2, false, 0) (List.mem_cons_of_mem _ (List.mem_cons_of_mem _ (List.mem_cons_of_mem _ List.mem_cons_self)))
  obtain ⟨w2, cw2, ew2⟩ := cw2
  obtain rfl : w2 = (0 : Int32) := Int32.toInt_inj.mp (by rw [ew2]; rfl)
  --
  have f20 : ∀ {i : Nat} (h : List am_E), ae_cpd false 224 770 224 0 i L xs h0 h → ae_cell L xs h 219 20 = some (.ref 224) := fun h hd => (ae_cpd_no hd (Or.inl (by decide))).trans (ae_fld hk ago_20 (by decide +kernel) (by decide +kernel))
  exact ae_mk1 (z := false) (src := 224) (so := 770) (dst := 224) (dO := 0) (cnt := 385) (k := 3) (lo := 0) (hi := 384) (C := fun lw => am_lk lw 0 = some (.ref 219) ∧ am_lk lw 1 = some (.int 2) ∧ am_lk lw 2 = some (.int 0)) hk (Or.inr ⟨by decide, by decide, by have : (ae_sh 224).2.2 = 1925 := rfl; omega⟩) aemq1_18 aemq2_18 rfl (by omega) (by omega) (fun t ht => by rcases List.mem_singleton.mp ht with rfl; exact ⟨rfl, rfl⟩)
    (fun lw v hc => ⟨ag_lk2 (by decide) (fun _ => rfl) hc.1, ag_lk2 (by decide) (fun _ => rfl) hc.2.1, ag_lk2 (by decide) (fun _ => rfl) hc.2.2⟩) ⟨c0, cw1, cw2⟩ ck ex0
    (fun i lw h x hi hd hC hl hx => by
      obtain ⟨v, hcv⟩ := ae_aie (L := L) (xs := xs) hk.1 (p := 224) (j := 770 + i) aga_224 (by have : (ae_sh 224).2.2 = 1925 := rfl; omega)
      have hcs : ae_cell L xs h 224 (770 + i) = some (.int v) := (ae_cpd_no hd (by omega)).trans hcv
      have hxd := (show ((((Int16.ofInt 385).toInt32 * (0 : Int32)) + x)).toInt = ((0 + i : Nat) : Int) from (ag_wa (by decide : (((Int16.ofInt 385).toInt32 * (0 : Int32))).toInt = ((0 : Nat) : Int)) hx (by omega) (by omega)))
      have hxs := (show ((((Int16.ofInt 385).toInt32 * (2 : Int32)) + x)).toInt = ((770 + i : Nat) : Int) from (ag_wa (by decide : (((Int16.ofInt 385).toInt32 * (2 : Int32))).toInt = ((770 : Nat) : Int)) hx (by omega) (by omega)))
      obtain ⟨h1, hw, hst⟩ := ag_st (L := L) (xs := xs) (d := d) (lw := lw) (sw := []) (v := v) agc_350_32 hd.1 aga_224 hxd (by have : (ae_sh 224).2.2 = 1925 := rfl; omega)
      exact ⟨h1, _, hw, hcv, fun n r hr => ⟨n + 21, ag_il agc_350_2 hl (ag_si agc_350_3 rfl (ag_ge0 agc_350_6 (by rw [hx, (by decide : ((Int16.ofInt 385).toInt32).toInt = ((385 : Nat) : Int))]; omega) (ag_al agc_350_9 hC.1 (ag_get agc_350_10 hd.1 ago_20 (f20 h hd) (ag_si agc_350_13 rfl (ag_il agc_350_16 hC.2.2 (ag_mul agc_350_17 (ag_il agc_350_18 hl (ag_add agc_350_19 (ag_al agc_350_20 hC.1 (ag_get agc_350_21 hd.1 ago_20 (f20 h hd) (ag_si agc_350_24 rfl (ag_il agc_350_27 hC.2.1 (ag_mul agc_350_28 (ag_il agc_350_29 hl (ag_add agc_350_30 (ag_ia agc_350_31 hd.1 aga_224 hxs (by have : (ae_sh 224).2.2 = 1925 := rfl; omega) hcs (hst _ _ (ag_inc agc_350_33 (by decide +kernel) hl (ag_go agc_350_36 hr))))))))))))))))))))⟩⟩)
    (fun lw h x hd hC hl hx n r hr => ⟨n + 3, ag_il agc_350_2 hl (ag_si agc_350_3 rfl (ag_ge1 agc_350_6 (by rw [hx, (by decide : ((Int16.ofInt 385).toInt32).toInt = ((385 : Nat) : Int))]; omega) (hr)))⟩) (by omega)
noncomputable def aem_19 : ae_Mc := (350, 2, 39, 3, [(0, true, 219), (3, false, 0), (1, false, 3), (2, false, 0)], [(224, 0, 384)], [(224, 1155, 224, 0, 385)])
theorem aemq1_19 : (List.range 385).all (ae_cpv false 224 1155 224 0) = true := by decide +kernel
theorem aemq2_19 : ae_cpf false 224 1155 224 0 385 = true := by decide +kernel
set_option maxRecDepth 20000 in
theorem aemt_19 : ae_MOK aem_19 := by
  intro L xs d lw0 h0 hL hc hk
  have c0 : ∃ p : Nat, am_lk lw0 0 = some (.ref p) ∧ (p : Int) = 219 := hc (0, true, 219) List.mem_cons_self
  obtain ⟨p0, c0, e0⟩ := c0
  obtain rfl : p0 = 219 := by omega
  have ck : ∃ x : Int32, am_lk lw0 3 = some (.int x) ∧ x.toInt = 0 := hc (3, false, 0) (List.mem_cons_of_mem _ List.mem_cons_self)
  obtain ⟨x0, ck, ex0⟩ := ck
  have cw1 : ∃ x : Int32, am_lk lw0 1 = some (.int x) ∧ x.toInt = 3 := hc (1, false, 3) (List.mem_cons_of_mem _ (List.mem_cons_of_mem _ List.mem_cons_self))
  obtain ⟨w1, cw1, ew1⟩ := cw1
  obtain rfl : w1 = (3 : Int32) := Int32.toInt_inj.mp (by rw [ew1]; rfl)
  have cw2 : ∃ x : Int32, am_lk lw0 2 = some (.int x) ∧ x.toInt = 0 := hc (2, false, 0) (List.mem_cons_of_mem _ (List.mem_cons_of_mem _ (List.mem_cons_of_mem _ List.mem_cons_self)))
  obtain ⟨w2, cw2, ew2⟩ := cw2
  obtain rfl : w2 = (0 : Int32) := Int32.toInt_inj.mp (by rw [ew2]; rfl)
  --
  have f20 : ∀ {i : Nat} (h : List am_E), ae_cpd false 224 1155 224 0 i L xs h0 h → ae_cell L xs h 219 20 = some (.ref 224) := fun h hd => (ae_cpd_no hd (Or.inl (by decide))).trans (ae_fld hk ago_20 (by decide +kernel) (by decide +kernel))
  exact ae_mk1 (z := false) (src := 224) (so := 1155) (dst := 224) (dO := 0) (cnt := 385) (k := 3) (lo := 0) (hi := 384) (C := fun lw => am_lk lw 0 = some (.ref 219) ∧ am_lk lw 1 = some (.int 3) ∧ am_lk lw 2 = some (.int 0)) hk (Or.inr ⟨by decide, by decide, by have : (ae_sh 224).2.2 = 1925 := rfl; omega⟩) aemq1_19 aemq2_19 rfl (by omega) (by omega) (fun t ht => by rcases List.mem_singleton.mp ht with rfl; exact ⟨rfl, rfl⟩)
    (fun lw v hc => ⟨ag_lk2 (by decide) (fun _ => rfl) hc.1, ag_lk2 (by decide) (fun _ => rfl) hc.2.1, ag_lk2 (by decide) (fun _ => rfl) hc.2.2⟩) ⟨c0, cw1, cw2⟩ ck ex0
    (fun i lw h x hi hd hC hl hx => by
      obtain ⟨v, hcv⟩ := ae_aie (L := L) (xs := xs) hk.1 (p := 224) (j := 1155 + i) aga_224 (by have : (ae_sh 224).2.2 = 1925 := rfl; omega)
      have hcs : ae_cell L xs h 224 (1155 + i) = some (.int v) := (ae_cpd_no hd (by omega)).trans hcv
      have hxd := (show ((((Int16.ofInt 385).toInt32 * (0 : Int32)) + x)).toInt = ((0 + i : Nat) : Int) from (ag_wa (by decide : (((Int16.ofInt 385).toInt32 * (0 : Int32))).toInt = ((0 : Nat) : Int)) hx (by omega) (by omega)))
      have hxs := (show ((((Int16.ofInt 385).toInt32 * (3 : Int32)) + x)).toInt = ((1155 + i : Nat) : Int) from (ag_wa (by decide : (((Int16.ofInt 385).toInt32 * (3 : Int32))).toInt = ((1155 : Nat) : Int)) hx (by omega) (by omega)))
      obtain ⟨h1, hw, hst⟩ := ag_st (L := L) (xs := xs) (d := d) (lw := lw) (sw := []) (v := v) agc_350_32 hd.1 aga_224 hxd (by have : (ae_sh 224).2.2 = 1925 := rfl; omega)
      exact ⟨h1, _, hw, hcv, fun n r hr => ⟨n + 21, ag_il agc_350_2 hl (ag_si agc_350_3 rfl (ag_ge0 agc_350_6 (by rw [hx, (by decide : ((Int16.ofInt 385).toInt32).toInt = ((385 : Nat) : Int))]; omega) (ag_al agc_350_9 hC.1 (ag_get agc_350_10 hd.1 ago_20 (f20 h hd) (ag_si agc_350_13 rfl (ag_il agc_350_16 hC.2.2 (ag_mul agc_350_17 (ag_il agc_350_18 hl (ag_add agc_350_19 (ag_al agc_350_20 hC.1 (ag_get agc_350_21 hd.1 ago_20 (f20 h hd) (ag_si agc_350_24 rfl (ag_il agc_350_27 hC.2.1 (ag_mul agc_350_28 (ag_il agc_350_29 hl (ag_add agc_350_30 (ag_ia agc_350_31 hd.1 aga_224 hxs (by have : (ae_sh 224).2.2 = 1925 := rfl; omega) hcs (hst _ _ (ag_inc agc_350_33 (by decide +kernel) hl (ag_go agc_350_36 hr))))))))))))))))))))⟩⟩)
    (fun lw h x hd hC hl hx n r hr => ⟨n + 3, ag_il agc_350_2 hl (ag_si agc_350_3 rfl (ag_ge1 agc_350_6 (by rw [hx, (by decide : ((Int16.ofInt 385).toInt32).toInt = ((385 : Nat) : Int))]; omega) (hr)))⟩) (by omega)
theorem agc_265_80 : am_code 265 80 = some (.iload_n 2, 0, 0) := rfl
theorem agc_265_81 : am_code 265 81 = some (.bipush 9, 0, 0) := rfl
theorem agc_265_83 : am_code 265 83 = some (.aload_n 0, 0, 0) := rfl
theorem agc_265_84 : am_code 265 84 = some (.getfield 304, 12, 25) := rfl
theorem ago_25 : ae_isO 219 12 25 = true := by decide +kernel
theorem agc_265_87 : am_code 265 87 = some (.imul, 0, 0) := rfl
theorem agc_265_88 : am_code 265 88 = some (.if_icmp .ge 28, 116, 0) := rfl
theorem agc_265_91 : am_code 265 91 = some (.aload_n 0, 0, 0) := rfl
theorem agc_265_92 : am_code 265 92 = some (.getfield 35, 12, 20) := rfl
theorem agc_265_95 : am_code 265 95 = some (.bipush 111, 0, 0) := rfl
theorem agc_265_97 : am_code 265 97 = some (.iload_n 2, 0, 0) := rfl
theorem agc_265_98 : am_code 265 98 = some (.iadd, 0, 0) := rfl
theorem agc_265_99 : am_code 265 99 = some (.aload_n 0, 0, 0) := rfl
theorem agc_265_100 : am_code 265 100 = some (.getfield 35, 12, 20) := rfl
theorem agc_265_103 : am_code 265 103 = some (.sipush 1651, 0, 0) := rfl
theorem agc_265_106 : am_code 265 106 = some (.iload_n 2, 0, 0) := rfl
theorem agc_265_107 : am_code 265 107 = some (.iadd, 0, 0) := rfl
theorem agc_265_108 : am_code 265 108 = some (.iaload, 0, 0) := rfl
theorem agc_265_109 : am_code 265 109 = some (.iastore, 0, 0) := rfl
theorem agc_265_110 : am_code 265 110 = some (.iinc 2 1, 0, 0) := rfl
theorem agc_265_113 : am_code 265 113 = some (.goto (-33), 80, 0) := rfl
noncomputable def aem_20 : ae_Mc := (265, 80, 116, 2, [(0, true, 219), (2, false, 0)], [(224, 111, 380)], [])
theorem aemq1_20 : ∀ nn, nn < 31 → (List.range (9 * nn)).all (ae_cpv false 224 1651 224 111) = true := by decide +kernel
theorem aemq2_20 : ∀ nn, nn < 31 → ae_cpf false 224 1651 224 111 (9 * nn) = true := by decide +kernel
set_option maxRecDepth 20000 in
theorem aemt_20 : ae_MOK aem_20 := by
  intro L xs d lw0 h0 hL hc hk
  have c0 : ∃ p : Nat, am_lk lw0 0 = some (.ref p) ∧ (p : Int) = 219 := hc (0, true, 219) List.mem_cons_self
  obtain ⟨p0, c0, e0⟩ := c0
  obtain rfl : p0 = 219 := by omega
  have ck : ∃ x : Int32, am_lk lw0 2 = some (.int x) ∧ x.toInt = 0 := hc (2, false, 0) (List.mem_cons_of_mem _ List.mem_cons_self)
  obtain ⟨x0, ck, ex0⟩ := ck
  --
  have f20 : ∀ {i : Nat} (h : List am_E), ae_cpd false 224 1651 224 111 i L xs h0 h → ae_cell L xs h 219 20 = some (.ref 224) := fun h hd => (ae_cpd_no hd (Or.inl (by decide))).trans (ae_fld hk ago_20 (by decide +kernel) (by decide +kernel))
  obtain ⟨ns, fc, en1, en2⟩ := ae_nmb (p := 219) (b := 25) (lo := 0) (hi := 30) hk (by omega) (by decide) (by decide) (by decide +kernel)
  obtain ⟨nn, hnn⟩ := Int.eq_ofNat_of_zero_le en1
  have e9 : ((Int8.ofInt 9).toInt32 * ns).toInt = ((9 * nn : Nat) : Int) := by rw [ae_w_mul, hnn, (by decide : ((Int8.ofInt 9).toInt32).toInt = 9), ae_w32_rg (by omega) (by omega)]; omega
  have f25 : ∀ {i : Nat} (h : List am_E), ae_cpd false 224 1651 224 111 i L xs h0 h → ae_cell L xs h 219 25 = some (.int ns) := fun h hd => (ae_cpd_no hd (Or.inl (by decide))).trans fc
  exact ae_mk1 (z := false) (src := 224) (so := 1651) (dst := 224) (dO := 111) (cnt := (9 * nn)) (k := 2) (lo := 111) (hi := 380) (C := fun lw => am_lk lw 0 = some (.ref 219)) hk (Or.inr ⟨by decide, by decide, by have : (ae_sh 224).2.2 = 1925 := rfl; omega⟩) (aemq1_20 nn (by omega)) (aemq2_20 nn (by omega)) rfl (by omega) (by omega) (fun t ht => absurd ht List.not_mem_nil)
    (fun lw v hc => ag_lk2 (by decide) (fun _ => rfl) hc) c0 ck ex0
    (fun i lw h x hi hd hC hl hx => by
      obtain ⟨v, hcv⟩ := ae_aie (L := L) (xs := xs) hk.1 (p := 224) (j := 1651 + i) aga_224 (by have : (ae_sh 224).2.2 = 1925 := rfl; omega)
      have hcs : ae_cell L xs h 224 (1651 + i) = some (.int v) := (ae_cpd_no hd (by omega)).trans hcv
      have hxd := (show (((Int8.ofInt 111).toInt32 + x)).toInt = ((111 + i : Nat) : Int) from (ag_wa (by decide : ((Int8.ofInt 111).toInt32).toInt = ((111 : Nat) : Int)) hx (by omega) (by omega)))
      have hxs := (show (((Int16.ofInt 1651).toInt32 + x)).toInt = ((1651 + i : Nat) : Int) from (ag_wa (by decide : ((Int16.ofInt 1651).toInt32).toInt = ((1651 : Nat) : Int)) hx (by omega) (by omega)))
      obtain ⟨h1, hw, hst⟩ := ag_st (L := L) (xs := xs) (d := d) (lw := lw) (sw := []) (v := v) agc_265_109 hd.1 aga_224 hxd (by have : (ae_sh 224).2.2 = 1925 := rfl; omega)
      exact ⟨h1, _, hw, hcv, fun n r hr => ⟨n + 20, ag_il agc_265_80 hl (ag_bi agc_265_81 rfl (ag_al agc_265_83 hC (ag_get agc_265_84 hd.1 ago_25 (f25 h hd) (ag_mul agc_265_87 (ag_ge0 agc_265_88 (by rw [hx, e9]; omega) (ag_al agc_265_91 hC (ag_get agc_265_92 hd.1 ago_20 (f20 h hd) (ag_bi agc_265_95 rfl (ag_il agc_265_97 hl (ag_add agc_265_98 (ag_al agc_265_99 hC (ag_get agc_265_100 hd.1 ago_20 (f20 h hd) (ag_si agc_265_103 rfl (ag_il agc_265_106 hl (ag_add agc_265_107 (ag_ia agc_265_108 hd.1 aga_224 hxs (by have : (ae_sh 224).2.2 = 1925 := rfl; omega) hcs (hst _ _ (ag_inc agc_265_110 (by decide +kernel) hl (ag_go agc_265_113 hr)))))))))))))))))))⟩⟩)
    (fun lw h x hd hC hl hx n r hr => ⟨n + 6, ag_il agc_265_80 hl (ag_bi agc_265_81 rfl (ag_al agc_265_83 hC (ag_get agc_265_84 hd.1 ago_25 (f25 h hd) (ag_mul agc_265_87 (ag_ge1 agc_265_88 (by rw [hx, e9]; omega) (hr))))))⟩) (by omega)
theorem agc_261_25 : am_code 261 25 = some (.iload_n 2, 0, 0) := rfl
theorem agc_261_26 : am_code 261 26 = some (.sipush 385, 0, 0) := rfl
theorem agc_261_29 : am_code 261 29 = some (.if_icmp .ge 20, 49, 0) := rfl
theorem agc_261_32 : am_code 261 32 = some (.aload_n 0, 0, 0) := rfl
theorem agc_261_33 : am_code 261 33 = some (.getfield 35, 12, 20) := rfl
theorem agc_261_36 : am_code 261 36 = some (.sipush 1540, 0, 0) := rfl
theorem agc_261_39 : am_code 261 39 = some (.iload_n 2, 0, 0) := rfl
theorem agc_261_40 : am_code 261 40 = some (.iadd, 0, 0) := rfl
theorem agc_261_41 : am_code 261 41 = some (.iconst 0, 0, 0) := rfl
theorem agc_261_42 : am_code 261 42 = some (.iastore, 0, 0) := rfl
theorem agc_261_43 : am_code 261 43 = some (.iinc 2 1, 0, 0) := rfl
theorem agc_261_46 : am_code 261 46 = some (.goto (-21), 25, 0) := rfl
noncomputable def aem_21 : ae_Mc := (261, 25, 49, 2, [(0, true, 219), (2, false, 0)], [(224, 1540, 1924)], [])
theorem aemq1_21 : (List.range 385).all (ae_cpv true 0 0 224 1540) = true := by decide +kernel
theorem aemq2_21 : ae_cpf true 0 0 224 1540 385 = true := by decide +kernel
set_option maxRecDepth 20000 in
theorem aemt_21 : ae_MOK aem_21 := by
  intro L xs d lw0 h0 hL hc hk
  have c0 : ∃ p : Nat, am_lk lw0 0 = some (.ref p) ∧ (p : Int) = 219 := hc (0, true, 219) List.mem_cons_self
  obtain ⟨p0, c0, e0⟩ := c0
  obtain rfl : p0 = 219 := by omega
  have ck : ∃ x : Int32, am_lk lw0 2 = some (.int x) ∧ x.toInt = 0 := hc (2, false, 0) (List.mem_cons_of_mem _ List.mem_cons_self)
  obtain ⟨x0, ck, ex0⟩ := ck
  --
  have f20 : ∀ {i : Nat} (h : List am_E), ae_cpd true 0 0 224 1540 i L xs h0 h → ae_cell L xs h 219 20 = some (.ref 224) := fun h hd => (ae_cpd_no hd (Or.inl (by decide))).trans (ae_fld hk ago_20 (by decide +kernel) (by decide +kernel))
  exact ae_mk1 (z := true) (src := 0) (so := 0) (dst := 224) (dO := 1540) (cnt := 385) (k := 2) (lo := 1540) (hi := 1924) (C := fun lw => am_lk lw 0 = some (.ref 219)) hk (Or.inl rfl) aemq1_21 aemq2_21 rfl (by omega) (by omega) (fun t ht => absurd ht List.not_mem_nil)
    (fun lw v hc => ag_lk2 (by decide) (fun _ => rfl) hc) c0 ck ex0
    (fun i lw h x hi hd hC hl hx => by
      have hcv : (some (Value.int 0) : Option Value) = some (.int 0) := rfl
      have hxd := (show (((Int16.ofInt 1540).toInt32 + x)).toInt = ((1540 + i : Nat) : Int) from (ag_wa (by decide : ((Int16.ofInt 1540).toInt32).toInt = ((1540 : Nat) : Int)) hx (by omega) (by omega)))
      obtain ⟨h1, hw, hst⟩ := ag_st (L := L) (xs := xs) (d := d) (lw := lw) (sw := []) (v := Int32.ofInt 0) agc_261_42 hd.1 aga_224 hxd (by have : (ae_sh 224).2.2 = 1925 := rfl; omega)
      exact ⟨h1, _, hw, hcv, fun n r hr => ⟨n + 12, ag_il agc_261_25 hl (ag_si agc_261_26 rfl (ag_ge0 agc_261_29 (by rw [hx, (by decide : ((Int16.ofInt 385).toInt32).toInt = ((385 : Nat) : Int))]; omega) (ag_al agc_261_32 hC (ag_get agc_261_33 hd.1 ago_20 (f20 h hd) (ag_si agc_261_36 rfl (ag_il agc_261_39 hl (ag_add agc_261_40 (ag_ic agc_261_41 rfl (hst _ _ (ag_inc agc_261_43 (by decide +kernel) hl (ag_go agc_261_46 hr)))))))))))⟩⟩)
    (fun lw h x hd hC hl hx n r hr => ⟨n + 3, ag_il agc_261_25 hl (ag_si agc_261_26 rfl (ag_ge1 agc_261_29 (by rw [hx, (by decide : ((Int16.ofInt 385).toInt32).toInt = ((385 : Nat) : Int))]; omega) (hr)))⟩) (by omega)
