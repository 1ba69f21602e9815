section AO
variable {p : Program} {l : Launch} {e : Env} {R : Room} {s : State} {m : MethodId} {args : Array Value} {below : List Frame} {meth : Method} {c : Code} {Q : State → Prop} {sa S L : Nat} {xs : Nat → Int32} {dC : Nat → ClassId} {dI : Nat → Nat → Nat} {cT : Nat → ClassId} {y c0 s0 a b pc : Nat} {lv : am_L} {st : List Value} {hp : List am_E} {z : am_R4}
theorem am_app_at {h : List am_E} {j : Nat} {e0 e1 : am_E} (h0 : h[j]? = some e0) (hz : am_sz e0 = am_sz e1) : am_app h (some (some j, e1)) = some (h.set j e1) ∧ (h.set j e1).length = h.length ∧ am_sl (h.set j e1) = am_sl h := by
  have q : am_app h (some (some j, e1)) = some (h.set j e1) := by
    show h[j]?.bind _ = _
    rw [h0]
    show (bif Nat.beq (am_sz e0) (am_sz e1) then some (h.set j e1) else none) = _
    rw [hz, Nat.beq_refl]; rfl
  exact ⟨q, (am_app_set q).2⟩
theorem am_sl_push (h : List am_E) (x : am_E) : am_sl (h ++ [x]) = am_sl h + am_sz x := by simp [am_sl]
theorem am_rf (sa S : Nat) (o : Option Nat) : va_rf (o.map (am_ad sa S)) = am_sh sa S (va_rf o) := by cases o <;> rfl
theorem am_shQ_up (sa S : Nat) (f : Nat → Option Nat) (i v : Nat) : am_shQ sa S (va_up f i (some v)) = va_up (am_shQ sa S f) i (some (am_ad sa S v)) := by
  funext j
  unfold am_shQ va_up
  by_cases h : j = i
  · simp [h]
  · simp [h]
theorem am_shdef (sa S : Nat) (ty : FieldType) : am_sh sa S (defaultValue ty) = defaultValue ty := by cases ty <;> rfl
theorem am_tq13 : ∀ {t : Nat}, 3 ≤ t → t < 9 → am_tq t < 13
  | 0, h, _ => absurd h (by decide)
  | 1, h, _ => absurd h (by decide)
  | 2, h, _ => absurd h (by decide)
  | 3, _, _ => by decide
  | 4, _, _ => by decide
  | 5, _, _ => by decide
  | 6, _, _ => by decide
  | 7, _, _ => by decide
  | 8, _, _ => by decide
  | n + 9, _, h => absurd h (by omega)
theorem am_insG : ∀ {ci : Nat}, ci < 13 → Cond.instantiable (am_cn ci) (am_N ci) ∈ am_G ∧ Cond.initialized (am_cn ci) ∈ am_G
  | 0, _ => ⟨am_G_of am_w_ins0 rfl, am_G_of am_w_ini0 rfl⟩
  | 1, _ => ⟨am_G_of am_w_ins1 rfl, am_G_of am_w_ini1 rfl⟩
  | 2, _ => ⟨am_G_of am_w_ins2 rfl, am_G_of am_w_ini2 rfl⟩
  | 3, _ => ⟨am_G_of am_w_ins3 rfl, am_G_of am_w_ini3 rfl⟩
  | 4, _ => ⟨am_G_of am_w_ins4 rfl, am_G_of am_w_ini4 rfl⟩
  | 5, _ => ⟨am_G_of am_w_ins5 rfl, am_G_of am_w_ini5 rfl⟩
  | 6, _ => ⟨am_G_of am_w_ins6 rfl, am_G_of am_w_ini6 rfl⟩
  | 7, _ => ⟨am_G_of am_w_ins7 rfl, am_G_of am_w_ini7 rfl⟩
  | 8, _ => ⟨am_G_of am_w_ins8 rfl, am_G_of am_w_ini8 rfl⟩
  | 9, _ => ⟨am_G_of am_w_ins9 rfl, am_G_of am_w_ini9 rfl⟩
  | 10, _ => ⟨am_G_of am_w_ins10 rfl, am_G_of am_w_ini10 rfl⟩
  | 11, _ => ⟨am_G_of am_w_ins11 rfl, am_G_of am_w_ini11 rfl⟩
  | 12, _ => ⟨am_G_of am_w_ins12 rfl, am_G_of am_w_ini12 rfl⟩
  | n + 13, h => absurd h (by omega)
theorem ao_iaload (C : am_Cx p s m args meth c y sa S L xs dC dI cT) (hdg : decode (am_bc y) pc = .ok (.iaload, 1)) (h : am_simple L xs (am_inf y).1 (am_inf y).2.1 (am_inf y).2.2.1 (.iaload) a b pc lv st hp = some z) (k : ∀ h', am_app hp z.2.2.2 = some h' → am_K p l e R s m args below meth c Q sa S dC dI cT y c0 s0 z.1 z.2.1 z.2.2.1 h') : am_K p l e R s m args below meth c Q sa S dC dI cT y c0 s0 pc lv st hp := by
  obtain ⟨⟨i, r⟩, e1, h⟩ := am_bd h
  obtain ⟨⟨q, r2⟩, e2, h⟩ := am_bd h
  obtain rfl := am_pi_eq e1
  have e2 : am_pr r = some (q, r2) := e2
  obtain rfl := am_pr_eq e2
  cases q with
  | zero =>
    obtain ⟨hb, h⟩ := am_if_eq h
    cases h
    have k := k hp rfl
    intro ls H locs cells slots hl hz hP hS hc hs
    exact va_sld C.1 C.2.1 C.2.2.2.2.2.2.1.1 (Nat.lt_of_lt_of_le C.2.2.2.2.2.2.2.1 C.2.2.2.2.2.2.2.2.1) (Nat.not_le.mpr C.2.2.2.2.2.2.2.1) hS (am_in_eq hb) hdg (k ls H locs cells slots hl hz hP hS hc hs)
  | succ q =>
    obtain ⟨⟨n, f⟩, e3, h⟩ := am_bd h
    obtain ⟨hb, h⟩ := am_if_eq h
    obtain ⟨j, ej, e4⟩ := am_ai_eq e3
    obtain rfl : q = j := by omega
    cases h
    have k := k hp rfl
    intro ls H locs cells slots hl hz hP hS hc hs
    exact va_iald (D := (dC, dI)) (cl := vwCl) (tys := am_tys cT) (ws := am_W sa S cT hp) C.1 C.2.1 C.2.2.2.2.2.1.1 hP q 0 (am_W_at e4) rfl (am_in_eq hb) hdg (k ls H locs cells slots hl hz hP hS hc hs)
theorem ao_baload (C : am_Cx p s m args meth c y sa S L xs dC dI cT) (hdg : decode (am_bc y) pc = .ok (.baload, 1)) (h : am_simple L xs (am_inf y).1 (am_inf y).2.1 (am_inf y).2.2.1 (.baload) a b pc lv st hp = some z) (k : ∀ h', am_app hp z.2.2.2 = some h' → am_K p l e R s m args below meth c Q sa S dC dI cT y c0 s0 z.1 z.2.1 z.2.2.1 h') : am_K p l e R s m args below meth c Q sa S dC dI cT y c0 s0 pc lv st hp := by
  obtain ⟨⟨i, r⟩, e1, h⟩ := am_bd h
  obtain ⟨⟨q, r2⟩, e2, h⟩ := am_bd h
  obtain rfl := am_pi_eq e1
  have e2 : am_pr r = some (q, r2) := e2
  obtain rfl := am_pr_eq e2
  obtain ⟨⟨n, f⟩, e3, h⟩ := am_bd h
  obtain ⟨hb, h⟩ := am_if_eq h
  cases h
  obtain ⟨j, rfl, e4⟩ := am_ai_eq e3
  have k := k hp rfl
  intro ls H locs cells slots hl hz hP hS hc hs
  exact va_bald (D := (dC, dI)) (cl := vwCl) (tys := am_tys cT) (ws := am_W sa S cT hp) C.1 C.2.1 C.2.2.2.2.2.1.1 hP j 1 (am_W_at e4) rfl (am_in_eq hb) hdg (k ls H locs cells slots hl hz hP hS hc hs)
theorem ao_laload (C : am_Cx p s m args meth c y sa S L xs dC dI cT) (hdg : decode (am_bc y) pc = .ok (.laload, 1)) (h : am_simple L xs (am_inf y).1 (am_inf y).2.1 (am_inf y).2.2.1 (.laload) a b pc lv st hp = some z) (k : ∀ h', am_app hp z.2.2.2 = some h' → am_K p l e R s m args below meth c Q sa S dC dI cT y c0 s0 z.1 z.2.1 z.2.2.1 h') : am_K p l e R s m args below meth c Q sa S dC dI cT y c0 s0 pc lv st hp := by
  obtain ⟨⟨i, r⟩, e1, h⟩ := am_bd h
  obtain ⟨⟨q, r2⟩, e2, h⟩ := am_bd h
  obtain rfl := am_pi_eq e1
  have e2 : am_pr r = some (q, r2) := e2
  obtain rfl := am_pr_eq e2
  obtain ⟨⟨n, f⟩, e3, h⟩ := am_bd h
  obtain ⟨hb, h⟩ := am_if_eq h
  cases h
  obtain ⟨j, rfl, e4⟩ := am_al_eq e3
  have k := k hp rfl
  intro ls H locs cells slots hl hz hP hS hc hs
  exact va_lald (D := (dC, dI)) (cl := vwCl) (tys := am_tys cT) (ws := am_W sa S cT hp) C.1 C.2.1 C.2.2.2.2.2.1.1 hP j 2 (am_W_at e4) rfl (am_in_eq hb) hdg (k ls H locs cells slots hl hz hP hS hc hs)
theorem ao_aaload (C : am_Cx p s m args meth c y sa S L xs dC dI cT) (hdg : decode (am_bc y) pc = .ok (.aaload, 1)) (h : am_simple L xs (am_inf y).1 (am_inf y).2.1 (am_inf y).2.2.1 (.aaload) a b pc lv st hp = some z) (k : ∀ h', am_app hp z.2.2.2 = some h' → am_K p l e R s m args below meth c Q sa S dC dI cT y c0 s0 z.1 z.2.1 z.2.2.1 h') : am_K p l e R s m args below meth c Q sa S dC dI cT y c0 s0 pc lv st hp := by
  obtain ⟨⟨i, r⟩, e1, h⟩ := am_bd h
  obtain ⟨⟨q, r2⟩, e2, h⟩ := am_bd h
  obtain rfl := am_pi_eq e1
  have e2 : am_pr r = some (q, r2) := e2
  obtain rfl := am_pr_eq e2
  obtain ⟨⟨t, n, f⟩, e3, h⟩ := am_bd h
  obtain ⟨hb, h⟩ := am_if_eq h
  cases h
  obtain ⟨j, rfl, e4, t1, t2⟩ := am_aq_eq e3
  have k := k hp rfl
  intro ls H locs cells slots hl hz hP hS hc hs
  have k := k ls H locs cells slots hl hz hP hS hc hs
  refine va_aldq (D := (dC, dI)) (cl := vwCl) (tys := am_tys cT) (ws := am_W sa S cT hp) (f := am_shQ sa S f) C.1 C.2.1 C.2.2.2.2.2.1.1 hP j t (am_W_at e4) (am_tys_q cT t1 t2) (am_in_eq hb) hdg ?_
  have e6 : va_rf (am_shQ sa S f i.toNatClampNeg) = am_sh sa S (va_rf (f i.toNatClampNeg)) := am_rf sa S (f i.toNatClampNeg)
  rw [e6]
  exact k
theorem ao_iastore (C : am_Cx p s m args meth c y sa S L xs dC dI cT) (hdg : decode (am_bc y) pc = .ok (.iastore, 1)) (h : am_simple L xs (am_inf y).1 (am_inf y).2.1 (am_inf y).2.2.1 (.iastore) a b pc lv st hp = some z) (k : ∀ h', am_app hp z.2.2.2 = some h' → am_K p l e R s m args below meth c Q sa S dC dI cT y c0 s0 z.1 z.2.1 z.2.2.1 h') : am_K p l e R s m args below meth c Q sa S dC dI cT y c0 s0 pc lv st hp := by
  obtain ⟨⟨x, r0⟩, e0, h⟩ := am_bd h
  obtain ⟨⟨i, r⟩, e1, h⟩ := am_bd h
  obtain ⟨⟨q, r2⟩, e2, h⟩ := am_bd h
  obtain ⟨⟨n, f⟩, e3, h⟩ := am_bd h
  obtain ⟨hb, h⟩ := am_if_eq h
  cases h
  obtain rfl := am_pi_eq e0
  have e1 : am_pi r0 = some (i, r) := e1
  obtain rfl := am_pi_eq e1
  have e2 : am_pr r = some (q, r2) := e2
  obtain rfl := am_pr_eq e2
  obtain ⟨j, rfl, e4⟩ := am_ai_eq e3
  obtain ⟨f1, f2, f3⟩ := am_app_at (e1 := .inl (0, n, .inl (upd f i.toNatClampNeg x))) e4 rfl
  have k := k _ f1
  intro ls H locs cells slots hl hz hP hS hc hs
  refine am_iast (D := (dC, dI)) (cl := vwCl) (tys := am_tys cT) (ws := am_W sa S cT hp) C.1 C.2.1 C.2.2.2.2.2.1.1 hP (am_D sa S cT hp) hS j 0 (am_W_at e4) rfl (am_in_eq hb) hdg (fun H1 locs1 hP1 hS1 hz1 => ?_)
  have hP2 : va_P (dC, dI) vwCl (am_W sa S cT (hp.set j (.inl (0, n, .inl (upd f i.toNatClampNeg x))))) H1 := by rw [← am_W_set]; exact hP1
  exact k ls H1 locs1 cells slots hl (by rw [hz1, hz, f2]) hP2 hS1 (by rw [f2]; exact hc) (by rw [f3]; exact hs)
theorem ao_bastore (C : am_Cx p s m args meth c y sa S L xs dC dI cT) (hdg : decode (am_bc y) pc = .ok (.bastore, 1)) (h : am_simple L xs (am_inf y).1 (am_inf y).2.1 (am_inf y).2.2.1 (.bastore) a b pc lv st hp = some z) (k : ∀ h', am_app hp z.2.2.2 = some h' → am_K p l e R s m args below meth c Q sa S dC dI cT y c0 s0 z.1 z.2.1 z.2.2.1 h') : am_K p l e R s m args below meth c Q sa S dC dI cT y c0 s0 pc lv st hp := by
  obtain ⟨⟨x, r0⟩, e0, h⟩ := am_bd h
  obtain ⟨⟨i, r⟩, e1, h⟩ := am_bd h
  obtain ⟨⟨q, r2⟩, e2, h⟩ := am_bd h
  obtain ⟨⟨n, f⟩, e3, h⟩ := am_bd h
  obtain ⟨hb, h⟩ := am_if_eq h
  cases h
  obtain rfl := am_pi_eq e0
  have e1 : am_pi r0 = some (i, r) := e1
  obtain rfl := am_pi_eq e1
  have e2 : am_pr r = some (q, r2) := e2
  obtain rfl := am_pr_eq e2
  obtain ⟨j, rfl, e4⟩ := am_ai_eq e3
  obtain ⟨f1, f2, f3⟩ := am_app_at (e1 := .inl (1, n, .inl (upd f i.toNatClampNeg (vp_nar .byte x)))) e4 rfl
  have k := k _ f1
  intro ls H locs cells slots hl hz hP hS hc hs
  refine am_bast (D := (dC, dI)) (cl := vwCl) (tys := am_tys cT) (ws := am_W sa S cT hp) C.1 C.2.1 C.2.2.2.2.2.1.1 hP (am_D sa S cT hp) hS j 1 (am_W_at e4) rfl (am_in_eq hb) hdg (fun H1 locs1 hP1 hS1 hz1 => ?_)
  have hP2 : va_P (dC, dI) vwCl (am_W sa S cT (hp.set j (.inl (1, n, .inl (upd f i.toNatClampNeg (vp_nar .byte x)))))) H1 := by rw [← am_W_set]; exact hP1
  exact k ls H1 locs1 cells slots hl (by rw [hz1, hz, f2]) hP2 hS1 (by rw [f2]; exact hc) (by rw [f3]; exact hs)
theorem ao_lastore (C : am_Cx p s m args meth c y sa S L xs dC dI cT) (hdg : decode (am_bc y) pc = .ok (.lastore, 1)) (h : am_simple L xs (am_inf y).1 (am_inf y).2.1 (am_inf y).2.2.1 (.lastore) a b pc lv st hp = some z) (k : ∀ h', am_app hp z.2.2.2 = some h' → am_K p l e R s m args below meth c Q sa S dC dI cT y c0 s0 z.1 z.2.1 z.2.2.1 h') : am_K p l e R s m args below meth c Q sa S dC dI cT y c0 s0 pc lv st hp := by
  obtain ⟨⟨x, r0⟩, e0, h⟩ := am_bd h
  obtain ⟨⟨i, r⟩, e1, h⟩ := am_bd h
  obtain ⟨⟨q, r2⟩, e2, h⟩ := am_bd h
  obtain ⟨⟨n, f⟩, e3, h⟩ := am_bd h
  obtain ⟨hb, h⟩ := am_if_eq h
  cases h
  obtain rfl := am_pl_eq e0
  have e1 : am_pi r0 = some (i, r) := e1
  obtain rfl := am_pi_eq e1
  have e2 : am_pr r = some (q, r2) := e2
  obtain rfl := am_pr_eq e2
  obtain ⟨j, rfl, e4⟩ := am_al_eq e3
  obtain ⟨f1, f2, f3⟩ := am_app_at (e1 := .inl (2, n, .inr (.inl (vp_updL f i.toNatClampNeg x)))) e4 rfl
  have k := k _ f1
  intro ls H locs cells slots hl hz hP hS hc hs
  refine am_last (D := (dC, dI)) (cl := vwCl) (tys := am_tys cT) (ws := am_W sa S cT hp) C.1 C.2.1 C.2.2.2.2.2.1.1 hP (am_D sa S cT hp) hS j 2 (am_W_at e4) rfl (am_in_eq hb) hdg (fun H1 locs1 hP1 hS1 hz1 => ?_)
  have hP2 : va_P (dC, dI) vwCl (am_W sa S cT (hp.set j (.inl (2, n, .inr (.inl (vp_updL f i.toNatClampNeg x)))))) H1 := by rw [← am_W_set]; exact hP1
  exact k ls H1 locs1 cells slots hl (by rw [hz1, hz, f2]) hP2 hS1 (by rw [f2]; exact hc) (by rw [f3]; exact hs)
theorem ao_aastore (C : am_Cx p s m args meth c y sa S L xs dC dI cT) (hdg : decode (am_bc y) pc = .ok (.aastore, 1)) (h : am_simple L xs (am_inf y).1 (am_inf y).2.1 (am_inf y).2.2.1 (.aastore) a b pc lv st hp = some z) (k : ∀ h', am_app hp z.2.2.2 = some h' → am_K p l e R s m args below meth c Q sa S dC dI cT y c0 s0 z.1 z.2.1 z.2.2.1 h') : am_K p l e R s m args below meth c Q sa S dC dI cT y c0 s0 pc lv st hp := by
  obtain ⟨⟨x, r0⟩, e0, h⟩ := am_bd h
  obtain ⟨⟨i, r⟩, e1, h⟩ := am_bd h
  obtain ⟨⟨q, r2⟩, e2, h⟩ := am_bd h
  obtain ⟨⟨t, n, f⟩, e3, h⟩ := am_bd h
  obtain ⟨vs, e5, h⟩ := am_bd h
  obtain ⟨hb, h⟩ := am_if_eq h
  cases h
  obtain rfl := am_pr_eq e0
  have e1 : am_pi r0 = some (i, r) := e1
  obtain rfl := am_pi_eq e1
  have e2 : am_pr r = some (q, r2) := e2
  obtain rfl := am_pr_eq e2
  obtain ⟨j, rfl, e4, t1, t2⟩ := am_aq_eq e3
  obtain ⟨jv, rfl, e6⟩ := am_ob_eq e5
  obtain ⟨f1, f2, f3⟩ := am_app_at (e1 := .inl (t, n, .inr (.inr (.inr (.inr (va_up f i.toNatClampNeg (some (jv + 1)))))))) e4 rfl
  have k := k _ f1
  intro ls H locs cells slots hl hz hP hS hc hs
  refine am_astq (D := (dC, dI)) (cl := vwCl) (tys := am_tys cT) (ws := am_W sa S cT hp) (f := am_shQ sa S f) (r := (am_cn (am_tq t), am_T (am_tq t), am_N (am_tq t))) C.1 C.2.1 C.2.2.2.2.2.1.1 hP (am_D sa S cT hp) hS j t jv (am_tq t) (am_W_at e4) (am_tys_q cT t1 t2) (am_W_at e6) (am_vw (am_tq13 t1 t2)) (am_in_eq hb) hdg (fun H1 locs1 hP1 hS1 hz1 => ?_)
  have hP2 : va_P (dC, dI) vwCl (am_W sa S cT (hp.set j (.inl (t, n, .inr (.inr (.inr (.inr (va_up f i.toNatClampNeg (some (jv + 1)))))))))) H1 := by
    rw [← am_W_set]
    simp only [am_shE, am_shC, am_shQ_up]
    exact hP1
  exact k ls H1 locs1 cells slots hl (by rw [hz1, hz, f2]) hP2 hS1 (by rw [f2]; exact hc) (by rw [f3]; exact hs)
theorem ao_arraylength (C : am_Cx p s m args meth c y sa S L xs dC dI cT) (hdg : decode (am_bc y) pc = .ok (.arraylength, 1)) (h : am_simple L xs (am_inf y).1 (am_inf y).2.1 (am_inf y).2.2.1 (.arraylength) a b pc lv st hp = some z) (k : ∀ h', am_app hp z.2.2.2 = some h' → am_K p l e R s m args below meth c Q sa S dC dI cT y c0 s0 z.1 z.2.1 z.2.2.1 h') : am_K p l e R s m args below meth c Q sa S dC dI cT y c0 s0 pc lv st hp := by
  obtain ⟨⟨q, r⟩, e1, h⟩ := am_bd h
  obtain ⟨hb, h⟩ := am_if_eq h
  obtain rfl := am_pr_eq e1
  obtain rfl : q = 0 := Nat.eq_of_beq_eq_true hb
  cases h
  have k := k hp rfl
  intro ls H locs cells slots hl hz hP hS hc hs
  exact va_slen C.1 C.2.1 C.2.2.2.2.2.2.1.1 (Nat.lt_of_lt_of_le C.2.2.2.2.2.2.2.1 C.2.2.2.2.2.2.2.2.1) (Nat.not_le.mpr C.2.2.2.2.2.2.2.1) hS hdg (k ls H locs cells slots hl hz hP hS hc hs)
theorem ao_new {n : Nat} (C : am_Cx p s m args meth c y sa S L xs dC dI cT) (hdg : decode (am_bc y) pc = .ok (.new n, 3)) (hck : (am_hN (am_inf y).1 n a && Nat.blt a 13) = true) (hR : ∀ h', am_app hp z.2.2.2 = some h' → h'.length ≤ R.cells + c0 ∧ am_sl h' ≤ R.slots + s0) (h : am_simple L xs (am_inf y).1 (am_inf y).2.1 (am_inf y).2.2.1 (.new n) a b pc lv st hp = some z) (k : ∀ h', am_app hp z.2.2.2 = some h' → am_K p l e R s m args below meth c Q sa S dC dI cT y c0 s0 z.1 z.2.1 z.2.2.1 h') : am_K p l e R s m args below meth c Q sa S dC dI cT y c0 s0 pc lv st hp := by
  cases h
  have k := k _ rfl
  obtain ⟨hR1, hR2⟩ := hR _ rfl
  rw [am_sl_push] at hR2
  rw [List.length_append] at hR1
  have hN : am_sz (.inr (a, am_def a)) = am_N a := by simp [am_sz, am_def]
  rw [hN] at hR2
  simp only [Bool.and_eq_true] at hck
  have h13 := Nat.blt_eq.mp hck.2
  have w1 := am_hN_spec hck.1
  have hR1 : hp.length + 1 ≤ R.cells + c0 := hR1
  intro ls H locs cells slots hl hz hP hS hc hs
  refine am_newo (D := (dC, dI)) (cl := vwCl) (tys := am_tys cT) (ws := am_W sa S cT hp) (ci := a) (C := am_cn a) (T := am_T a) (N := am_N a) (fs := (am_def a).map (am_sh sa S)) C.1 C.2.1 C.2.2.2.2.1 (am_wsG h13) (am_ty a) (am_tyok h13) C.2.2.2.1 (C.2.2.2.2.1 _ (am_G_of w1 rfl)) (C.2.2.2.2.1 _ (am_insG h13).1) (C.2.2.2.2.1 _ (am_insG h13).2) C.2.2.2.2.2.1.1 hP hS (am_vw h13) (fun j hj => ?_) (by omega) (by omega) hdg (fun H1 hP1 hS1 hz1 => ?_)
  · simp [vp_V, am_def, hj, am_shdef]
  · rw [hz] at hP1 ⊢
    have hP2 : va_P (dC, dI) vwCl (am_W sa S cT (hp ++ [.inr (a, am_def a)])) H1 := by rw [← am_W_push]; exact hP1
    exact k ls H1 locs (cells + 1) (slots + am_N a) hl (by rw [hz1, hz, List.length_append]; rfl) hP2 hS1 (by rw [List.length_append]; show cells + 1 + c0 = hp.length + 1; omega) (by rw [am_sl_push, hN]; omega)
theorem ao_newarray_int (C : am_Cx p s m args meth c y sa S L xs dC dI cT) (hdg : decode (am_bc y) pc = .ok (.newarray .int, 2)) (hck : Nat.beq a 0 = true) (hR : ∀ h', am_app hp z.2.2.2 = some h' → h'.length ≤ R.cells + c0 ∧ am_sl h' ≤ R.slots + s0) (h : am_simple L xs (am_inf y).1 (am_inf y).2.1 (am_inf y).2.2.1 (.newarray .int) a b pc lv st hp = some z) (k : ∀ h', am_app hp z.2.2.2 = some h' → am_K p l e R s m args below meth c Q sa S dC dI cT y c0 s0 z.1 z.2.1 z.2.2.1 h') : am_K p l e R s m args below meth c Q sa S dC dI cT y c0 s0 pc lv st hp := by
  obtain ⟨⟨i, r⟩, e1, h⟩ := am_bd h
  obtain ⟨hb, h⟩ := am_if_eq h
  cases h
  obtain rfl := am_pi_eq e1
  obtain rfl : a = 0 := Nat.eq_of_beq_eq_true hck
  rw [Bool.and_eq_true] at hb
  have h0 : ¬ i < 0 := by simpa using hb.1
  have hN : i.toNatClampNeg ≤ 65536 := Nat.le_of_ble_eq_true hb.2
  have k := k _ rfl
  obtain ⟨hR1, hR2⟩ := hR _ rfl
  rw [am_sl_push] at hR2
  rw [List.length_append] at hR1
  have hR1 : hp.length + 1 ≤ R.cells + c0 := hR1
  have hR2 : am_sl hp + i.toNatClampNeg ≤ R.slots + s0 := hR2
  intro ls H locs cells slots hl hz hP hS hc hs
  refine am_newa (D := (dC, dI)) (cl := vwCl) (tys := am_tys cT) (ws := am_W sa S cT hp) (atype := .int) (a0 := (i.toNatClampNeg, .inl (fun _ => 0))) C.1 C.2.1 (C.2.2.2.2.1 _ (am_G_of am_w_aint rfl)) rfl (fun _ q => by cases q) C.2.2.2.2.2.1.1 hP hS 0 rfl (fun _ => rfl) h0 (by show i.toNatClampNeg * 4 ≤ 536870912; omega) (by omega) (by omega) hdg (fun H1 hP1 hS1 hz1 => ?_)
  rw [hz] at hP1 ⊢
  have hP2 : va_P (dC, dI) vwCl (am_W sa S cT (hp ++ [.inl (0, i.toNatClampNeg, .inl (fun _ => 0))])) H1 := by rw [← am_W_push]; exact hP1
  exact k ls H1 locs (cells + 1) (slots + i.toNatClampNeg) hl (by rw [hz1, hz, List.length_append]; rfl) hP2 hS1 (by rw [List.length_append]; show cells + 1 + c0 = hp.length + 1; omega) (by rw [am_sl_push]; show slots + i.toNatClampNeg + s0 = am_sl hp + i.toNatClampNeg; omega)
theorem ao_newarray_byte (C : am_Cx p s m args meth c y sa S L xs dC dI cT) (hdg : decode (am_bc y) pc = .ok (.newarray .byte, 2)) (hck : Nat.beq a 1 = true) (hR : ∀ h', am_app hp z.2.2.2 = some h' → h'.length ≤ R.cells + c0 ∧ am_sl h' ≤ R.slots + s0) (h : am_simple L xs (am_inf y).1 (am_inf y).2.1 (am_inf y).2.2.1 (.newarray .byte) a b pc lv st hp = some z) (k : ∀ h', am_app hp z.2.2.2 = some h' → am_K p l e R s m args below meth c Q sa S dC dI cT y c0 s0 z.1 z.2.1 z.2.2.1 h') : am_K p l e R s m args below meth c Q sa S dC dI cT y c0 s0 pc lv st hp := by
  obtain ⟨⟨i, r⟩, e1, h⟩ := am_bd h
  obtain ⟨hb, h⟩ := am_if_eq h
  cases h
  obtain rfl := am_pi_eq e1
  obtain rfl : a = 1 := Nat.eq_of_beq_eq_true hck
  rw [Bool.and_eq_true] at hb
  have h0 : ¬ i < 0 := by simpa using hb.1
  have hN : i.toNatClampNeg ≤ 65536 := Nat.le_of_ble_eq_true hb.2
  have k := k _ rfl
  obtain ⟨hR1, hR2⟩ := hR _ rfl
  rw [am_sl_push] at hR2
  rw [List.length_append] at hR1
  have hR1 : hp.length + 1 ≤ R.cells + c0 := hR1
  have hR2 : am_sl hp + i.toNatClampNeg ≤ R.slots + s0 := hR2
  intro ls H locs cells slots hl hz hP hS hc hs
  refine am_newa (D := (dC, dI)) (cl := vwCl) (tys := am_tys cT) (ws := am_W sa S cT hp) (atype := .byte) (a0 := (i.toNatClampNeg, .inl (fun _ => 0))) C.1 C.2.1 (C.2.2.2.2.1 _ (am_G_of am_w_abyte rfl)) rfl (fun _ q => by cases q) C.2.2.2.2.2.1.1 hP hS 1 rfl (fun _ => rfl) h0 (by show i.toNatClampNeg * 1 ≤ 536870912; omega) (by omega) (by omega) hdg (fun H1 hP1 hS1 hz1 => ?_)
  rw [hz] at hP1 ⊢
  have hP2 : va_P (dC, dI) vwCl (am_W sa S cT (hp ++ [.inl (1, i.toNatClampNeg, .inl (fun _ => 0))])) H1 := by rw [← am_W_push]; exact hP1
  exact k ls H1 locs (cells + 1) (slots + i.toNatClampNeg) hl (by rw [hz1, hz, List.length_append]; rfl) hP2 hS1 (by rw [List.length_append]; show cells + 1 + c0 = hp.length + 1; omega) (by rw [am_sl_push]; show slots + i.toNatClampNeg + s0 = am_sl hp + i.toNatClampNeg; omega)
theorem ao_newarray_long (C : am_Cx p s m args meth c y sa S L xs dC dI cT) (hdg : decode (am_bc y) pc = .ok (.newarray .long, 2)) (hck : Nat.beq a 2 = true) (hR : ∀ h', am_app hp z.2.2.2 = some h' → h'.length ≤ R.cells + c0 ∧ am_sl h' ≤ R.slots + s0) (h : am_simple L xs (am_inf y).1 (am_inf y).2.1 (am_inf y).2.2.1 (.newarray .long) a b pc lv st hp = some z) (k : ∀ h', am_app hp z.2.2.2 = some h' → am_K p l e R s m args below meth c Q sa S dC dI cT y c0 s0 z.1 z.2.1 z.2.2.1 h') : am_K p l e R s m args below meth c Q sa S dC dI cT y c0 s0 pc lv st hp := by
  obtain ⟨⟨i, r⟩, e1, h⟩ := am_bd h
  obtain ⟨hb, h⟩ := am_if_eq h
  cases h
  obtain rfl := am_pi_eq e1
  obtain rfl : a = 2 := Nat.eq_of_beq_eq_true hck
  rw [Bool.and_eq_true] at hb
  have h0 : ¬ i < 0 := by simpa using hb.1
  have hN : i.toNatClampNeg ≤ 65536 := Nat.le_of_ble_eq_true hb.2
  have k := k _ rfl
  obtain ⟨hR1, hR2⟩ := hR _ rfl
  rw [am_sl_push] at hR2
  rw [List.length_append] at hR1
  have hR1 : hp.length + 1 ≤ R.cells + c0 := hR1
  have hR2 : am_sl hp + i.toNatClampNeg ≤ R.slots + s0 := hR2
  intro ls H locs cells slots hl hz hP hS hc hs
  refine am_newa (D := (dC, dI)) (cl := vwCl) (tys := am_tys cT) (ws := am_W sa S cT hp) (atype := .long) (a0 := (i.toNatClampNeg, .inr (.inl (fun _ => 0)))) C.1 C.2.1 (C.2.2.2.2.1 _ (am_G_of am_w_along rfl)) rfl (fun _ q => by cases q) C.2.2.2.2.2.1.1 hP hS 2 rfl (fun _ => rfl) h0 (by show i.toNatClampNeg * 8 ≤ 536870912; omega) (by omega) (by omega) hdg (fun H1 hP1 hS1 hz1 => ?_)
  rw [hz] at hP1 ⊢
  have hP2 : va_P (dC, dI) vwCl (am_W sa S cT (hp ++ [.inl (2, i.toNatClampNeg, .inr (.inl (fun _ => 0)))])) H1 := by rw [← am_W_push]; exact hP1
  exact k ls H1 locs (cells + 1) (slots + i.toNatClampNeg) hl (by rw [hz1, hz, List.length_append]; rfl) hP2 hS1 (by rw [List.length_append]; show cells + 1 + c0 = hp.length + 1; omega) (by rw [am_sl_push]; show slots + i.toNatClampNeg + s0 = am_sl hp + i.toNatClampNeg; omega)
theorem ao_anewarray {n : Nat} (C : am_Cx p s m args meth c y sa S L xs dC dI cT) (hdg : decode (am_bc y) pc = .ok (.anewarray n, 3)) (hck : (am_hN (am_inf y).1 n b && Nat.beq (am_tq a) b && Nat.ble 3 a && Nat.blt a 9) = true) (hR : ∀ h', am_app hp z.2.2.2 = some h' → h'.length ≤ R.cells + c0 ∧ am_sl h' ≤ R.slots + s0) (h : am_simple L xs (am_inf y).1 (am_inf y).2.1 (am_inf y).2.2.1 (.anewarray n) a b pc lv st hp = some z) (k : ∀ h', am_app hp z.2.2.2 = some h' → am_K p l e R s m args below meth c Q sa S dC dI cT y c0 s0 z.1 z.2.1 z.2.2.1 h') : am_K p l e R s m args below meth c Q sa S dC dI cT y c0 s0 pc lv st hp := by
  obtain ⟨⟨i, r⟩, e1, h⟩ := am_bd h
  obtain ⟨hb, h⟩ := am_if_eq h
  cases h
  obtain rfl := am_pi_eq e1
  simp only [Bool.and_eq_true] at hck
  obtain ⟨⟨⟨c1, c2⟩, c3⟩, c4⟩ := hck
  have w1 := am_hN_spec c1
  have c2 := Nat.eq_of_beq_eq_true c2
  have c3 := Nat.le_of_ble_eq_true c3
  have c4 := Nat.blt_eq.mp c4
  rw [Bool.and_eq_true] at hb
  have h0 : ¬ i < 0 := by simpa using hb.1
  have hN : i.toNatClampNeg ≤ 65536 := Nat.le_of_ble_eq_true hb.2
  have k := k _ rfl
  obtain ⟨hR1, hR2⟩ := hR _ rfl
  rw [am_sl_push] at hR2
  rw [List.length_append] at hR1
  have hR1 : hp.length + 1 ≤ R.cells + c0 := hR1
  have hR2 : am_sl hp + i.toNatClampNeg ≤ R.slots + s0 := hR2
  intro ls H locs cells slots hl hz hP hS hc hs
  refine am_newq (D := (dC, dI)) (cl := vwCl) (tys := am_tys cT) (ws := am_W sa S cT hp) (C := am_cn (am_tq a)) C.1 C.2.1 C.2.2.2.1 (C.2.2.2.2.1 _ (am_G_of (by rw [c2]; exact w1) rfl)) (C.2.2.2.2.2.1.2.2 a c3 c4) C.2.2.2.2.2.1.1 hP hS a (am_tys_q cT c3 c4) h0 (by omega) (by omega) (by omega) hdg (fun H1 hP1 hS1 hz1 => ?_)
  rw [hz] at hP1 ⊢
  have hP2 : va_P (dC, dI) vwCl (am_W sa S cT (hp ++ [.inl (a, i.toNatClampNeg, .inr (.inr (.inr (.inr (fun _ => none)))))])) H1 := by rw [← am_W_push]; exact hP1
  exact k ls H1 locs (cells + 1) (slots + i.toNatClampNeg) hl (by rw [hz1, hz, List.length_append]; rfl) hP2 hS1 (by rw [List.length_append]; show cells + 1 + c0 = hp.length + 1; omega) (by rw [am_sl_push]; show slots + i.toNatClampNeg + s0 = am_sl hp + i.toNatClampNeg; omega)
end AO
