theorem am_cats_sh (sa S : Nat) (st : List Value) : ((st.map (am_sh sa S)).map fun v => v.category).sum = am_cats st := by
  unfold am_cats
  rw [List.map_map]
  congr 2
  funext v
  exact am_sh_cat sa S v
section AS
variable {p : Program} {l : Launch} {e : Env} {R : Room} {s : State} {m : MethodId} {args : Array Value} {below : List Frame} {meth : Method} {c : Code} {Q : State → Prop} {sa S L : Nat} {xs : Nat → Int32} {dC : Nat → ClassId} {dI : Nat → Nat → Nat} {cT : Nat → ClassId} {y c0 s0 a b pc n : Nat} {lv : am_L} {st : List Value} {hp : List am_E} {z : am_R4}
theorem ao_oinit (C : am_Cx p s m args meth c y sa S L xs dC dI cT) (hdg : decode (am_bc y) pc = .ok (.invokespecial n, 3)) (hw : Cond.methodLink (am_cn (am_inf y).1) n objectInit ∈ lw_tbl) (hf : 1 ≤ R.frames) (hlo : 100 ≤ R.locals) (hcat : am_cats st ≤ 16) (h : am_sys 1000 pc lv st hp = some z) (k : ∀ h', am_app hp z.2.2.2 = some h' → am_K p l e R s m args below meth c Q sa S dC dI cT y c0 s0 z.1 z.2.1 z.2.2.1 h') : am_K p l e R s m args below meth c Q sa S dC dI cT y c0 s0 pc lv st hp := by
  obtain ⟨⟨q, r⟩, e1, h⟩ := am_bd h
  cases h
  obtain rfl := am_pr_eq e1
  have k := k hp rfl
  intro ls H locs cells slots hl hz hP hS hc hs
  have hcr : am_cats r ≤ 16 := by
    have : am_cats (.ref q :: r) = 1 + am_cats r := by simp [am_cats, Value.category]
    omega
  exact W.objInit C.1 C.2.1 C.2.2.2.1 (C.2.2.2.2.1 _ (am_G_of hw rfl)) (C.2.2.2.2.1 _ (am_G_of am_w_oi rfl)) (C.2.2.2.2.1 _ (am_G_of am_w_oc rfl)) rfl (hl.1.trans C.2.2.1.symm) rfl hdg hf (by show 2 * 0 + ((r.map (am_sh sa S)).map fun v => v.category).sum + 12 ≤ R.locals; rw [am_cats_sh]; omega) (k ls H locs cells slots hl hz hP hS hc hs)
theorem ao_min (C : am_Cx p s m args meth c y sa S L xs dC dI cT) (hdg : decode (am_bc y) pc = .ok (.invokestatic n, 3)) (hw : Cond.methodLink (am_cn (am_inf y).1) n Lib.Math.min.name ∈ lw_tbl) (hf : 1 ≤ R.frames) (hlo : 100 ≤ R.locals) (hcat : am_cats st ≤ 16) (hR : hp.length ≤ R.cells + c0 ∧ am_sl hp ≤ R.slots + s0) (h : am_sys 1001 pc lv st hp = some z) (k : ∀ h', am_app hp z.2.2.2 = some h' → am_K p l e R s m args below meth c Q sa S dC dI cT y c0 s0 z.1 z.2.1 z.2.2.1 h') : am_K p l e R s m args below meth c Q sa S dC dI cT y c0 s0 pc lv st hp := by
  obtain ⟨⟨v, r⟩, e1, h⟩ := am_bd h
  obtain ⟨⟨w, r2⟩, e2, h⟩ := am_bd h
  cases h
  obtain rfl := am_pi_eq e1
  have e2 : am_pi r = some (w, r2) := e2
  obtain rfl := am_pi_eq e2
  have k := k hp rfl
  intro ls H locs cells slots hl hz hP hS hc hs
  have hcr : am_cats r2 ≤ 16 := by
    have : am_cats (.int v :: .int w :: r2) = 1 + (1 + am_cats r2) := by simp [am_cats, Value.category]
    omega
  exact va_mmin C.1 C.2.1 (C.2.2.1.trans hl.1.symm) C.2.2.2.1 (C.2.2.2.2.1 _ (am_G_of hw rfl)) (C.2.2.2.2.1 _ (am_G_of am_w_mins rfl)) (C.2.2.2.2.1 _ (am_G_of am_w_im rfl)) (C.2.2.2.2.1 _ (am_G_of am_w_minc rfl)) hf (by rw [am_cats_sh]; omega) (by omega) (by omega) hdg (k ls H locs cells slots hl hz hP hS hc hs)
theorem ao_max (C : am_Cx p s m args meth c y sa S L xs dC dI cT) (hdg : decode (am_bc y) pc = .ok (.invokestatic n, 3)) (hw : Cond.methodLink (am_cn (am_inf y).1) n Lib.Math.max.name ∈ lw_tbl) (hf : 1 ≤ R.frames) (hlo : 100 ≤ R.locals) (hcat : am_cats st ≤ 16) (hR : hp.length ≤ R.cells + c0 ∧ am_sl hp ≤ R.slots + s0) (h : am_sys 1002 pc lv st hp = some z) (k : ∀ h', am_app hp z.2.2.2 = some h' → am_K p l e R s m args below meth c Q sa S dC dI cT y c0 s0 z.1 z.2.1 z.2.2.1 h') : am_K p l e R s m args below meth c Q sa S dC dI cT y c0 s0 pc lv st hp := by
  obtain ⟨⟨v, r⟩, e1, h⟩ := am_bd h
  obtain ⟨⟨w, r2⟩, e2, h⟩ := am_bd h
  cases h
  obtain rfl := am_pi_eq e1
  have e2 : am_pi r = some (w, r2) := e2
  obtain rfl := am_pi_eq e2
  have k := k hp rfl
  intro ls H locs cells slots hl hz hP hS hc hs
  have hcr : am_cats r2 ≤ 16 := by
    have : am_cats (.int v :: .int w :: r2) = 1 + (1 + am_cats r2) := by simp [am_cats, Value.category]
    omega
  exact va_mmax C.1 C.2.1 (C.2.2.1.trans hl.1.symm) C.2.2.2.1 (C.2.2.2.2.1 _ (am_G_of hw rfl)) (C.2.2.2.2.1 _ (am_G_of am_w_maxs rfl)) (C.2.2.2.2.1 _ (am_G_of am_w_im rfl)) (C.2.2.2.2.1 _ (am_G_of am_w_maxc rfl)) hf (by rw [am_cats_sh]; omega) (by omega) (by omega) hdg (k ls H locs cells slots hl hz hP hS hc hs)
theorem ao_abs (C : am_Cx p s m args meth c y sa S L xs dC dI cT) (hdg : decode (am_bc y) pc = .ok (.invokestatic n, 3)) (hw : Cond.methodLink (am_cn (am_inf y).1) n Lib.MathLoose.abs_long.x ∈ lw_tbl) (hf : 1 ≤ R.frames) (hlo : 100 ≤ R.locals) (hcat : am_cats st ≤ 16) (hR : hp.length ≤ R.cells + c0 ∧ am_sl hp ≤ R.slots + s0) (h : am_sys 1003 pc lv st hp = some z) (k : ∀ h', am_app hp z.2.2.2 = some h' → am_K p l e R s m args below meth c Q sa S dC dI cT y c0 s0 z.1 z.2.1 z.2.2.1 h') : am_K p l e R s m args below meth c Q sa S dC dI cT y c0 s0 pc lv st hp := by
  obtain ⟨⟨v, r⟩, e1, h⟩ := am_bd h
  cases h
  obtain rfl := am_pl_eq e1
  have k := k hp rfl
  intro ls H locs cells slots hl hz hP hS hc hs
  have hcr : am_cats r ≤ 16 := by
    have : am_cats (.long v :: r) = 2 + am_cats r := by simp [am_cats, Value.category]
    omega
  exact va_mabs_long C.1 C.2.1 (C.2.2.1.trans hl.1.symm) C.2.2.2.1 (C.2.2.2.2.1 _ (am_G_of hw rfl)) (C.2.2.2.2.1 _ (am_G_of am_w_abss rfl)) (C.2.2.2.2.1 _ (am_G_of am_w_im rfl)) (C.2.2.2.2.1 _ (am_G_of am_w_absc rfl)) hf (by rw [am_cats_sh]; omega) (by omega) (by omega) hdg (k ls H locs cells slots hl hz hP hS hc hs)
theorem ao_copy (C : am_Cx p s m args meth c y sa S L xs dC dI cT) (hdg : decode (am_bc y) pc = .ok (.invokestatic n, 3)) (hw : Cond.methodLink (am_cn (am_inf y).1) n arraycopyName ∈ lw_tbl) (hf : 1 ≤ R.frames) (hlo : 100 ≤ R.locals) (hcat : am_cats st ≤ 16) (h : am_sys 1004 pc lv st hp = some z) (k : ∀ h', am_app hp z.2.2.2 = some h' → am_K p l e R s m args below meth c Q sa S dC dI cT y c0 s0 z.1 z.2.1 z.2.2.1 h') : am_K p l e R s m args below meth c Q sa S dC dI cT y c0 s0 pc lv st hp := by
  obtain ⟨⟨i, r1⟩, e1, h⟩ := am_bd h
  obtain ⟨⟨dp, r2⟩, e2, h⟩ := am_bd h
  obtain ⟨⟨q1, r3⟩, e3, h⟩ := am_bd h
  obtain ⟨⟨sp, r4⟩, e4, h⟩ := am_bd h
  obtain ⟨⟨q0, r5⟩, e5, h⟩ := am_bd h
  have gL : (match am_ai hp q0 0 with
    | some f => (am_ai hp q1 0).bind fun g =>
      am_if (!(decide (sp < 0)) && !(decide (dp < 0)) && !(decide (i < 0)) && Nat.ble (sp.toNatClampNeg + i.toNatClampNeg) f.1 && Nat.ble (dp.toNatClampNeg + i.toNatClampNeg) g.1)
        (some (pc + 3, lv, r5, some (some (q1 - 1), .inl (0, g.1, .inl (va_cpy f.2 g.2 sp.toNatClampNeg dp.toNatClampNeg i.toNatClampNeg)))))
    | none => (am_al hp q0).bind fun f => (am_al hp q1).bind fun g =>
      am_if (!(decide (sp < 0)) && !(decide (dp < 0)) && !(decide (i < 0)) && Nat.ble (sp.toNatClampNeg + i.toNatClampNeg) f.1 && Nat.ble (dp.toNatClampNeg + i.toNatClampNeg) g.1)
        (some (pc + 3, lv, r5, (some (some (q1 - 1), .inl (2, g.1, .inr (.inl (va_cpy f.2 g.2 sp.toNatClampNeg dp.toNatClampNeg i.toNatClampNeg)))) : am_Ef)))) = some z := h
  clear h
  split at gL
  · rename_i fx e6
    obtain ⟨n0, f⟩ := fx
    obtain ⟨⟨n1, g⟩, e7, gL⟩ := am_bd gL
    obtain ⟨hb, gL⟩ := am_if_eq gL
    cases gL
    obtain rfl := am_pi_eq e1
    have e2 : am_pi r1 = some (dp, r2) := e2
    obtain rfl := am_pi_eq e2
    have e3 : am_pr r2 = some (q1, r3) := e3
    obtain rfl := am_pr_eq e3
    have e4 : am_pi r3 = some (sp, r4) := e4
    obtain rfl := am_pi_eq e4
    have e5 : am_pr r4 = some (q0, r5) := e5
    obtain rfl := am_pr_eq e5
    obtain ⟨j0, rfl, g0⟩ := am_ai_eq e6
    obtain ⟨j1, rfl, g1⟩ := am_ai_eq e7
    simp only [Bool.and_eq_true, Bool.not_eq_true', decide_eq_false_iff_not] at hb
    obtain ⟨⟨⟨⟨b1, b2⟩, b3⟩, b4⟩, b5⟩ := hb
    have b4 := Nat.le_of_ble_eq_true b4
    have b5 := Nat.le_of_ble_eq_true b5
    obtain ⟨f1, f2, f3⟩ := am_app_at (e1 := .inl (0, n1, .inl (va_cpy f g sp.toNatClampNeg dp.toNatClampNeg i.toNatClampNeg))) g1 rfl
    have k := k _ f1
    have hcr : am_cats r5 ≤ 16 := by
      have : am_cats (.int i :: .int dp :: .ref (j1 + 1) :: .int sp :: .ref (j0 + 1) :: r5) = 1 + (1 + (1 + (1 + (1 + am_cats r5)))) := by simp [am_cats, Value.category]
      omega
    intro ls H locs cells slots hl hz hP hS hc hs
    have nn : ∀ z : Int32, ¬ z < 0 → z.toInt = (z.toNatClampNeg : Int) := by
      intro z hz
      have hz0 : (0 : Int) ≤ z.toInt := by simpa using Int32.le_iff_toInt_le.mp (Int32.not_lt.mp hz)
      show z.toInt = ((z.toInt.toNat : Nat) : Int)
      omega
    have hw0 := am_W_at (sa := sa) (S := S) (cT := cT) g0
    have hw1 := am_W_at (sa := sa) (S := S) (cT := cT) g1
    have hc0 : H[S + j0]? = some (arrV (cT 0) n0 (fun j => .int (f j))) := hP j0 _ hw0
    have hc1 : H[S + j1]? = some (arrV (cT 0) n1 (fun j => .int (g j))) := hP j1 _ hw1
    have hK := C.2.2.2.2.2.1.1
    have ht : (am_tys cT)[0]? = some (cT 0, .int) := rfl
    obtain ⟨-, k0, hk0, cm0, hkk0⟩ := (hK.2 0 _ ht).1 n0 (fun j => .int (f j))
    obtain ⟨-, k1, hk1, cm1, hkk1⟩ := (hK.2 0 _ ht).1 n1 (fun j => .int (g j))
    have hnw : nativeFrameWords "java/lang/System" "arraycopy" 5 + 11 ≤ 80 := by decide +kernel
    intro T hT X
    obtain ⟨vm', X', step⟩ := X.arraycopy C.1 C.2.2.2.1 (C.2.2.2.2.1 _ (am_G_of hw rfl)) (C.2.2.2.2.1 _ (am_G_of am_w_acn rfl)) (C.2.2.2.2.1 _ (am_G_of am_w_acs rfl)) (C.2.2.2.2.1 _ (am_G_of am_w_is rfl)) (src := S + j0) (dst := S + j1) (cs := arrV (cT 0) n0 (fun j => .int (f j))) (cd := arrV (cT 0) n1 (fun j => .int (g j))) (srcPos := sp) (destPos := dp) (n := i) (by rw [hT]; exact hc0) (by rw [hT]; exact hc1)
      (fun _ h => by cases h) (fun _ h => by cases h) (fun h => by cases h) (fun h => by cases h) hk0 hk1 hkk0 hkk1 (by simp [refKind]) b1 b2 b3
      (by rw [nn sp b1, nn i b3, arrV_size]; omega) (by rw [nn dp b2, nn i b3, arrV_size]; omega)
      (fun vm₁ _ j hj => by
        have e8 : (arrV (cT 0) n0 (fun j => .int (f j))).slots.getD (sp.toNatClampNeg + j) .null = .int (f (sp.toNatClampNeg + j)) := by
          rw [Array.getD_eq_getD_getElem?, arrV_read _ _ (by omega)]; rfl
        refine ⟨?_, ?_⟩
        · rw [e8]; rfl
        · rw [e8]; exact trivial)
      (g := F0 m pc ls (.int i :: .int dp :: .ref (S + j1) :: .int sp :: .ref (S + j0) :: r5.map (am_sh sa S))) rfl (hl.1.trans C.2.2.1.symm) (rest := r5.map (am_sh sa S)) rfl (by rw [C.2.1]; exact hdg) hf (by show 2 * 0 + ((r5.map (am_sh sa S)).map fun v => v.category).sum + (nativeFrameWords "java/lang/System" "arraycopy" 5 + 11) ≤ R.locals; rw [am_cats_sh]; omega)
    have e9 : copied (arrV (cT 0) n0 (fun j => .int (f j))) (arrV (cT 0) n1 (fun j => .int (g j))) sp dp i = arrV (cT 0) n1 (fun j => .int (va_cpy f g sp.toNatClampNeg dp.toNatClampNeg i.toNatClampNeg j)) := va_copied (fun z => .int z) (cT 0) (cT 0) f g b4
    rw [e9] at X' step
    have hlt : S + j1 < H.size := (Array.getElem?_eq_some_iff.mp hc1).1
    have oq : ∀ q : Nat, q ≠ S + j1 → (H.setIfInBounds (S + j1) (arrV (cT 0) n1 (fun j => .int (va_cpy f g sp.toNatClampNeg dp.toNatClampNeg i.toNatClampNeg j))))[q]? = H[q]? := fun q hq => by simp [Array.getElem?_setIfInBounds, Ne.symm hq]
    have hP2 : va_P (dC, dI) vwCl (am_W sa S cT (hp.set j1 (.inl (0, n1, .inl (va_cpy f g sp.toNatClampNeg dp.toNatClampNeg i.toNatClampNeg))))) (H.setIfInBounds (S + j1) (arrV (cT 0) n1 (fun j => .int (va_cpy f g sp.toNatClampNeg dp.toNatClampNeg i.toNatClampNeg j)))) := by
      rw [← am_W_set]
      exact hP.set (am_D sa S cT hp) hw1 (show (H.setIfInBounds (S + j1) _)[S + j1]? = some _ by simp [Array.getElem?_setIfInBounds, hlt]; rfl) oq
    obtain ⟨t, a1, b1⟩ := k ls _ (locs ++ _) cells slots hl (by rw [Array.size_setIfInBounds, hz, f2]) hP2 ⟨by rw [Array.size_setIfInBounds]; exact hS.1, fun q q1 q2 => by
        rw [oq q (fun z => q2 (by rw [z]; exact Nat.le_add_right _ _))]
        exact hS.2.1 q q1 q2, fun q hq => by
        rcases List.mem_append.mp hq with h | h
        · exact hS.2.2 q h
        · obtain ⟨z, -, hz⟩ := List.mem_map.mp h
          rw [← hz]
          exact Nat.le_add_right _ _⟩ (by rw [f2]; exact hc) (by rw [f3]; exact hs) _ (by rw [← hT]; rfl) X'
    exact ⟨t, step t a1, b1⟩
  · rename_i e60
    obtain ⟨⟨n0, f⟩, e6, gL⟩ := am_bd gL
    obtain ⟨⟨n1, g⟩, e7, gL⟩ := am_bd gL
    obtain ⟨hb, gL⟩ := am_if_eq gL
    cases gL
    obtain rfl := am_pi_eq e1
    have e2 : am_pi r1 = some (dp, r2) := e2
    obtain rfl := am_pi_eq e2
    have e3 : am_pr r2 = some (q1, r3) := e3
    obtain rfl := am_pr_eq e3
    have e4 : am_pi r3 = some (sp, r4) := e4
    obtain rfl := am_pi_eq e4
    have e5 : am_pr r4 = some (q0, r5) := e5
    obtain rfl := am_pr_eq e5
    obtain ⟨j0, rfl, g0⟩ := am_al_eq e6
    obtain ⟨j1, rfl, g1⟩ := am_al_eq e7
    simp only [Bool.and_eq_true, Bool.not_eq_true', decide_eq_false_iff_not] at hb
    obtain ⟨⟨⟨⟨b1, b2⟩, b3⟩, b4⟩, b5⟩ := hb
    have b4 := Nat.le_of_ble_eq_true b4
    have b5 := Nat.le_of_ble_eq_true b5
    obtain ⟨f1, f2, f3⟩ := am_app_at (e1 := .inl (2, n1, .inr (.inl (va_cpy f g sp.toNatClampNeg dp.toNatClampNeg i.toNatClampNeg)))) g1 rfl
    have k := k _ f1
    have hcr : am_cats r5 ≤ 16 := by
      have : am_cats (.int i :: .int dp :: .ref (j1 + 1) :: .int sp :: .ref (j0 + 1) :: r5) = 1 + (1 + (1 + (1 + (1 + am_cats r5)))) := by simp [am_cats, Value.category]
      omega
    intro ls H locs cells slots hl hz hP hS hc hs
    have nn : ∀ z : Int32, ¬ z < 0 → z.toInt = (z.toNatClampNeg : Int) := by
      intro z hz
      have hz0 : (0 : Int) ≤ z.toInt := by simpa using Int32.le_iff_toInt_le.mp (Int32.not_lt.mp hz)
      show z.toInt = ((z.toInt.toNat : Nat) : Int)
      omega
    have hw0 := am_W_at (sa := sa) (S := S) (cT := cT) g0
    have hw1 := am_W_at (sa := sa) (S := S) (cT := cT) g1
    have hc0 : H[S + j0]? = some (arrV (cT 2) n0 (fun j => .long (f j))) := hP j0 _ hw0
    have hc1 : H[S + j1]? = some (arrV (cT 2) n1 (fun j => .long (g j))) := hP j1 _ hw1
    have hK := C.2.2.2.2.2.1.1
    have ht : (am_tys cT)[2]? = some (cT 2, .long) := rfl
    obtain ⟨-, k0, hk0, cm0, hkk0⟩ := (hK.2 2 _ ht).1 n0 (fun j => .long (f j))
    obtain ⟨-, k1, hk1, cm1, hkk1⟩ := (hK.2 2 _ ht).1 n1 (fun j => .long (g j))
    have hnw : nativeFrameWords "java/lang/System" "arraycopy" 5 + 11 ≤ 80 := by decide +kernel
    intro T hT X
    obtain ⟨vm', X', step⟩ := X.arraycopy C.1 C.2.2.2.1 (C.2.2.2.2.1 _ (am_G_of hw rfl)) (C.2.2.2.2.1 _ (am_G_of am_w_acn rfl)) (C.2.2.2.2.1 _ (am_G_of am_w_acs rfl)) (C.2.2.2.2.1 _ (am_G_of am_w_is rfl)) (src := S + j0) (dst := S + j1) (cs := arrV (cT 2) n0 (fun j => .long (f j))) (cd := arrV (cT 2) n1 (fun j => .long (g j))) (srcPos := sp) (destPos := dp) (n := i) (by rw [hT]; exact hc0) (by rw [hT]; exact hc1)
      (fun _ h => by cases h) (fun _ h => by cases h) (fun h => by cases h) (fun h => by cases h) hk0 hk1 hkk0 hkk1 (by simp [refKind]) b1 b2 b3
      (by rw [nn sp b1, nn i b3, arrV_size]; omega) (by rw [nn dp b2, nn i b3, arrV_size]; omega)
      (fun vm₁ _ j hj => by
        have e8 : (arrV (cT 2) n0 (fun j => .long (f j))).slots.getD (sp.toNatClampNeg + j) .null = .long (f (sp.toNatClampNeg + j)) := by
          rw [Array.getD_eq_getD_getElem?, arrV_read _ _ (by omega)]; rfl
        refine ⟨?_, ?_⟩
        · rw [e8]; rfl
        · rw [e8]; exact trivial)
      (g := F0 m pc ls (.int i :: .int dp :: .ref (S + j1) :: .int sp :: .ref (S + j0) :: r5.map (am_sh sa S))) rfl (hl.1.trans C.2.2.1.symm) (rest := r5.map (am_sh sa S)) rfl (by rw [C.2.1]; exact hdg) hf (by show 2 * 0 + ((r5.map (am_sh sa S)).map fun v => v.category).sum + (nativeFrameWords "java/lang/System" "arraycopy" 5 + 11) ≤ R.locals; rw [am_cats_sh]; omega)
    have e9 : copied (arrV (cT 2) n0 (fun j => .long (f j))) (arrV (cT 2) n1 (fun j => .long (g j))) sp dp i = arrV (cT 2) n1 (fun j => .long (va_cpy f g sp.toNatClampNeg dp.toNatClampNeg i.toNatClampNeg j)) := va_copied (fun z => .long z) (cT 2) (cT 2) f g b4
    rw [e9] at X' step
    have hlt : S + j1 < H.size := (Array.getElem?_eq_some_iff.mp hc1).1
    have oq : ∀ q : Nat, q ≠ S + j1 → (H.setIfInBounds (S + j1) (arrV (cT 2) n1 (fun j => .long (va_cpy f g sp.toNatClampNeg dp.toNatClampNeg i.toNatClampNeg j))))[q]? = H[q]? := fun q hq => by simp [Array.getElem?_setIfInBounds, Ne.symm hq]
    have hP2 : va_P (dC, dI) vwCl (am_W sa S cT (hp.set j1 (.inl (2, n1, .inr (.inl (va_cpy f g sp.toNatClampNeg dp.toNatClampNeg i.toNatClampNeg)))))) (H.setIfInBounds (S + j1) (arrV (cT 2) n1 (fun j => .long (va_cpy f g sp.toNatClampNeg dp.toNatClampNeg i.toNatClampNeg j)))) := by
      rw [← am_W_set]
      exact hP.set (am_D sa S cT hp) hw1 (show (H.setIfInBounds (S + j1) _)[S + j1]? = some _ by simp [Array.getElem?_setIfInBounds, hlt]; rfl) oq
    obtain ⟨t, a1, b1⟩ := k ls _ (locs ++ _) cells slots hl (by rw [Array.size_setIfInBounds, hz, f2]) hP2 ⟨by rw [Array.size_setIfInBounds]; exact hS.1, fun q q1 q2 => by
        rw [oq q (fun z => q2 (by rw [z]; exact Nat.le_add_right _ _))]
        exact hS.2.1 q q1 q2, fun q hq => by
        rcases List.mem_append.mp hq with h | h
        · exact hS.2.2 q h
        · obtain ⟨z, -, hz⟩ := List.mem_map.mp h
          rw [← hz]
          exact Nat.le_add_right _ _⟩ (by rw [f2]; exact hc) (by rw [f3]; exact hs) _ (by rw [← hT]; rfl) X'
    exact ⟨t, step t a1, b1⟩
end AS
