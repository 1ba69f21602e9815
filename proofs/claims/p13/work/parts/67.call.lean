theorem am_nest {dC : Nat → ClassId} {dI : Nat → Nat → Nat} {cT : Nat → ClassId} {U : State} (k : am_TB dC dI cT U) {o ix a b p : Nat} (he : (o, ix, a, 2, b, p) ∈ am_M) : va_Nw (.methodLinkNest (am_cn o) ix (am_nm a) "LastLayer") U := k.2.1 (o, ix, a, 2, b, p) he rfl
section AC
variable {p : Program} {l : Launch} {e : Env} {R : Room} {s : State} {m : MethodId} {args : Array Value} {below : List Frame} {meth : Method} {c : Code} {Q : State → Prop} {sa S L : Nat} {xs : Nat → Int32} {dC : Nat → ClassId} {dI : Nat → Nat → Nat} {cT : Nat → ClassId} {y c0 s0 a b pc n : Nat} {lv : am_L} {st : List Value} {hp : List am_E}
theorem am_callz {H : Heap} {locs : List Loc} {cells slots mc ms : Nat} {ls : Array Slot} {st0 rest : List Value} {A : Array Value} {r : Option Value} {h' : List am_E} (hr : va_Run p l e R s m args below meth c H locs cells slots mc ms (F0 m pc ls st0) rest (am_Po sa S dC dI cT r h' A) (fun q => S ≤ q)) (hS : va_S (fun q => S ≤ q) s.heap H locs)
    (kk : ∀ (H1 : Heap) (locs1 : List Loc), H1.size = S + h'.length → va_P (dC, dI) vwCl (am_W sa S cT h') H1 → va_S (fun q => S ≤ q) s.heap H1 locs1 → W p l e R s m args below meth c H1 locs1 (cells + mc) (slots + ms) Q (F0 m (pc + 3) ls ((r.map (am_sh sa S)).toList ++ rest))) : W p l e R s m args below meth c H locs cells slots Q (F0 m pc ls st0) := by
  intro T hT X
  obtain ⟨v, st₀, t, T', L, h0, X', hL, e1, e2, ⟨hv, ⟨hz, hP⟩, hz2, hk⟩, st⟩ := hr T hT X
  cases hv
  rw [h0] at hz2 hk
  obtain ⟨t2, a1, b1⟩ := kk T'.heap (locs ++ L) (by rw [e1]; exact hz) (by rw [e1]; exact hP)
    ⟨Nat.le_trans hS.1 (by rw [e1]; exact hz2), fun q h1 h2 => by rw [e1, hk q (Nat.lt_of_lt_of_le h1 hS.1) h2]; exact hS.2.1 q h1 h2, fun q hq => by
      rcases List.mem_append.mp hq with h | h
      · exact hS.2.2 q h
      · exact hL q h⟩ T' rfl X'
  exact ⟨t2, st t2 a1, b1⟩
set_option maxHeartbeats 8000000 in
set_option maxRecDepth 100000 in
/-- a call of a method whose run is known -/
theorem am_call_ok (C : am_Cx p s m args meth c y sa S L xs dC dI cT) {i : Instr} (hdg : decode (am_bc y) pc = .ok (i, am_len i b)) (hck : am_chk2 (am_inf y).1 pc i a b = true) (hC : am_isC i = true) (ha : Nat.ble 1000 a = false) {d : Nat} (hf : d + 1 + 4 ≤ R.frames) (hlo : 100 * (d + 1) + 400 ≤ R.locals)
    (hb1 : am_pop i b ≤ st.length) (hb2 : am_cats (st.drop (am_pop i b)) ≤ 8) (hb3 : am_rcv i a (st.take (am_pop i b)).reverse hp (am_inf a).1 = true) {r : Option Value} {h1 : List am_E}
    (M : Met l (am_nm a) (am_ws a) (am_rm d (h1.length - hp.length) (am_sl h1 - am_sl hp)) (am_Pr sa S L xs dC dI cT (st.take (am_pop i b)).reverse hp) (am_Po sa S dC dI cT r h1) (h1.length - hp.length) (am_sl h1 - am_sl hp) (fun q => S ≤ q))
    (hal : a ≠ am_law) (hm : hp.length ≤ h1.length ∧ am_sl hp ≤ am_sl h1) (hR1 : h1.length ≤ R.cells + c0) (hR2 : am_sl h1 ≤ R.slots + s0)
    (k : am_K p l e R s m args below meth c Q sa S dC dI cT y c0 s0 (pc + 3) lv (r.toList ++ st.drop (am_pop i b)) h1) : am_K p l e R s m args below meth c Q sa S dC dI cT y c0 s0 pc lv st hp := by
  rw [am_len_C hC] at hdg
  have hlt : ¬ 1000 ≤ a := fun q => by rw [Nat.ble_eq_true_of_le q] at ha; cases ha
  intro ls H locs cells slots hl hz hP hS hc hs
  have hF : CallFix p m c (am_bc y) (am_inf y).2.2.1 s args am_G (am_cn (am_inf y).1) := ⟨C.1, C.2.1, C.2.2.1, C.2.2.2.1, C.2.2.2.2.1⟩
  have hX : ∀ U : State, U.heap = H → s.WarmedH U.vm → am_XS sa S L xs U U.heap := fun U hU hW => by
    rw [hU]
    exact am_XS.warm hW C.2.2.2.2.2.2.2.1 C.2.2.2.2.2.2.2.2.1 (fun q h1 h2 => hS.2.1 q h1 h2) C.2.2.2.2.2.2.1
  have hPc : ∀ U : State, U.heap = H → s.WarmedH U.vm → am_Pr sa S L xs dC dI cT (st.take (am_pop i b)).reverse hp ((st.take (am_pop i b)).reverse.map (am_sh sa S)).toArray U := fun U hU hW => ⟨rfl, by rw [hU]; exact hz, by rw [hU]; exact hP, am_TB.warm hW C.2.2.2.2.2.1, hX U hU hW⟩
  have hW8 : 2 * (F0 m pc ls (st.map (am_sh sa S))).monitorRoom + (((st.drop (am_pop i b)).map (am_sh sa S)).map fun v => v.category).sum ≤ 8 := by
    show 2 * 0 + _ ≤ 8
    rw [am_cats_sh]; omega
  have hroom : cells + (h1.length - hp.length) ≤ R.cells ∧ slots + (am_sl h1 - am_sl hp) ≤ R.slots := ⟨by omega, by omega⟩
  have fin : ∀ (H1 : Heap) (locs1 : List Loc), H1.size = S + h1.length → va_P (dC, dI) vwCl (am_W sa S cT h1) H1 → va_S (fun q => S ≤ q) s.heap H1 locs1 → W p l e R s m args below meth c H1 locs1 (cells + (h1.length - hp.length)) (slots + (am_sl h1 - am_sl hp)) Q (F0 m (pc + 3) ls ((r.map (am_sh sa S)).toList ++ (st.drop (am_pop i b)).map (am_sh sa S))) := by
    intro H1 locs1 z1 p1 s1
    have e1 : (r.map (am_sh sa S)).toList ++ (st.drop (am_pop i b)).map (am_sh sa S) = (r.toList ++ st.drop (am_pop i b)).map (am_sh sa S) := by cases r <;> rfl
    rw [e1]
    exact k ls H1 locs1 _ _ hl z1 p1 s1 (by omega) (by omega)
  have hstk : st.map (am_sh sa S) = ((st.take (am_pop i b)).reverse.map (am_sh sa S)).reverse ++ (st.drop (am_pop i b)).map (am_sh sa S) := by
    rw [List.map_reverse, List.reverse_reverse, ← List.map_append, List.take_append_drop]
  have hlen : ((st.take (am_pop i b)).reverse).length = am_pop i b := by simp; omega
  generalize hvs : (st.take (am_pop i b)).reverse = vs at *
  generalize hrest : (st.drop (am_pop i b)).map (am_sh sa S) = rest at *
  have key : ∀ {kd p0 : Nat}, a < am_nM → am_PP a ∧ (am_rm d (h1.length - hp.length) (am_sl h1 - am_sl hp)).frames + 1 ≤ R.frames ∧ 8 + ((am_inf a).2.2.1 + 11) + (am_rm d (h1.length - hp.length) (am_sl h1 - am_sl hp)).locals ≤ R.locals := by
    intro kd p0 hy
    rcases am_P_ok hy with h | h
    · exact absurd h hal
    · refine ⟨h, by show d + 4 + 1 ≤ R.frames; omega, ?_⟩
      have := h.2.2.2.2.1
      show 8 + ((am_inf a).2.2.1 + 11) + (100 * d + 400) ≤ R.locals
      omega
  cases i with
  | invokevirtual ix =>
    obtain ⟨p0, he, hpm, hkk⟩ := am_hM_spec hck
    obtain ⟨w1, hy⟩ := hpm.1 (Or.inl rfl)
    obtain ⟨hpp, hr1, hr2⟩ := key (kd := 0) (p0 := p0) hy
    simp only [am_kk, Bool.and_eq_true] at hkk
    obtain ⟨⟨k1, k2⟩, k3⟩ := hkk
    obtain ⟨wi, wse⟩ := am_VL_ok a (by simpa using k1)
    have h13 := Nat.blt_eq.mp k2
    have har := Nat.eq_of_beq_eq_true k3
    simp only [am_rcv] at hb3
    split at hb3
    · rename_i q tl
      obtain ⟨fs, hfs⟩ := Option.isSome_iff_exists.mp hb3
      obtain ⟨j, rfl, hj⟩ := am_ob_eq hfs
      have hasl : tl.length = b := by simp [am_pop] at hlen; exact hlen
      have hcw : CallW R s args (am_cn (am_inf y).1) (am_nm a).cls ix (am_nm a) (am_bc a) (am_inf a).2.2.1 (am_rt a) (am_ws a) (am_rm d (h1.length - hp.length) (am_sl h1 - am_sl hp)) (h1.length - hp.length) (am_sl h1 - am_sl hp) b :=
        ⟨callB_of b C.2.2.2.2.1 (am_goodIn hpp.2.2.1) rfl rfl rfl (C.2.2.2.2.1 _ (am_G_of hpp.2.2.2.1 rfl)) (C.2.2.2.2.1 _ (am_G_of w1 rfl)) ⟨hpp.2.2.2.2.2.2.2.1.1, hpp.2.2.2.2.2.2.2.1.2, (hpp.2.2.2.2.2.2.2.2 b).mpr har⟩ ⟨hr1, hr2⟩, C.2.2.2.2.1 _ (am_G_of wi rfl), C.2.2.2.2.1 _ (am_G_of wse rfl)⟩
      have hrecv := va_recv C.2.2.2.2.2.1.1 hP (am_vw h13) (am_W_at hj)
      rw [← hpp.1] at hrecv
      exact am_callz (va_runV (As := tl.map (am_sh sa S)) (rest := rest) hF M hcw ⟨am_blind sa S L xs dC dI cT _ hp, hrecv, fun U hU hW => hPc U hU hW⟩ rfl (by rw [List.length_map]; exact hasl) hl.1 (by show st.map (am_sh sa S) = _; rw [hstk]; simp [am_sh, am_ad]) hW8 hdg hroom) hS fin
    · cases hb3
  | invokespecial ix =>
    simp only [am_rcv] at hb3
    split at hb3
    · rename_i q tl
      have hasl : tl.length = b := by simp [am_pop] at hlen; exact hlen
      have hst2 : st.map (am_sh sa S) = (tl.map (am_sh sa S)).reverse ++ .ref (am_ad sa S q) :: rest := by rw [hstk]; simp [am_sh]
      simp only [am_chk2, Bool.or_eq_true, Bool.and_eq_true] at hck
      rcases hck with (hck | hck) | hck
      · obtain ⟨p0, he, hpm, hkk⟩ := am_hM_spec hck
        obtain ⟨w1, hy⟩ := hpm.1 (Or.inr (Or.inl rfl))
        obtain ⟨hpp, hr1, hr2⟩ := key (kd := 0) (p0 := p0) hy
        simp only [am_kk, Bool.and_eq_true] at hkk
        obtain ⟨⟨⟨k1, k2⟩, k4⟩, k3⟩ := hkk
        have wi := am_IL_ok a (by simpa using k1)
        have har := Nat.eq_of_beq_eq_true k3
        have hrt : am_rt a = none := by unfold am_rt; rw [Nat.eq_of_beq_eq_true k4]; rfl
        have hwe : am_ws a = Cond.code (am_nm a) (am_bc a) (am_inf a).2.2.1 none :: am_G := by unfold am_ws; rw [hrt]
        have hcw : CallB R s args (am_cn (am_inf y).1) ix (am_nm a) (am_bc a) (am_inf a).2.2.1 none (am_ws a) (am_rm d (h1.length - hp.length) (am_sl h1 - am_sl hp)) (h1.length - hp.length) (am_sl h1 - am_sl hp) b ∧ (am_nm a).name = "<init>" ∧ (Cond.instanceMethod (am_nm a)).before args s = true :=
          cwI b C.2.2.2.2.1 (am_goodIn hpp.2.2.1) hwe rfl rfl (C.2.2.2.2.1 _ (am_G_of hpp.2.2.2.1 rfl)) (C.2.2.2.2.1 _ (am_G_of w1 rfl)) (C.2.2.2.2.1 _ (am_G_of wi rfl)) (hpp.2.2.2.2.2.1 k2) ⟨hpp.2.2.2.2.2.2.2.1.1, hpp.2.2.2.2.2.2.2.1.2, (hpp.2.2.2.2.2.2.2.2 b).mpr har⟩ ⟨hr1, hr2⟩
        exact am_callz (va_runI (As := tl.map (am_sh sa S)) (rest := rest) (b := am_ad sa S q) hF M hcw ⟨am_blind sa S L xs dC dI cT _ hp, fun U hU hW => hPc U hU hW⟩ rfl (by rw [List.length_map]; exact hasl) hl.1 hst2 hW8 hdg hroom) hS fin
      · obtain ⟨p0, he, hpm, hkk⟩ := am_hM_spec hck
        obtain ⟨w1, hy⟩ := hpm.2.1 rfl
        obtain ⟨hpp, hr1, hr2⟩ := key (kd := 0) (p0 := p0) hy
        simp only [am_kk, Bool.and_eq_true] at hkk
        obtain ⟨⟨⟨k1, k2⟩, k4⟩, k3⟩ := hkk
        have wi := am_IL_ok a (by simpa using k1)
        have har := Nat.eq_of_beq_eq_true k3
        have hrt : am_rt a = none := by unfold am_rt; rw [Nat.eq_of_beq_eq_true k4]; rfl
        have hwe : am_ws a = Cond.code (am_nm a) (am_bc a) (am_inf a).2.2.1 none :: am_G := by unfold am_ws; rw [hrt]
        have hGI := am_goodIn hpp.2.2.1
        have hini : (Cond.initialized (am_nm a).cls).before args s = true := C.2.2.2.2.1 _ (am_G_of hpp.2.2.2.1 rfl)
        have hdd : (am_nm a).cls ≠ "java/lang/invoke/MethodHandle" ∧ (am_nm a).cls ≠ "java/lang/invoke/VarHandle" ∧ (parseMethodDescriptor (am_nm a).desc).map (fun d => d.parameters.length) = some b := ⟨hpp.2.2.2.2.2.2.2.1.1, hpp.2.2.2.2.2.2.2.1.2, (hpp.2.2.2.2.2.2.2.2 b).mpr har⟩
        have hrc : (am_rm d (h1.length - hp.length) (am_sl h1 - am_sl hp)).cells = h1.length - hp.length := rfl
        have hrs : (am_rm d (h1.length - hp.length) (am_sl h1 - am_sl hp)).slots = am_sl h1 - am_sl hp := rfl
        have hnw : va_Nw (.methodLinkNest (am_cn (am_inf y).1) ix (am_nm a) "LastLayer") s := am_nest C.2.2.2.2.2.1 he
        have hcw : va_CN R s args (am_cn (am_inf y).1) ix (am_nm a) "LastLayer" (am_bc a) (am_inf a).2.2.1 none (am_ws a) (am_rm d (h1.length - hp.length) (am_sl h1 - am_sl hp)) (h1.length - hp.length) (am_sl h1 - am_sl hp) b :=
          va_cnB (own := am_cn (am_inf y).1) (host := "LastLayer") (index := ix) (maxL := (am_inf a).2.2.1) (mc := h1.length - hp.length) (ms := am_sl h1 - am_sl hp) (y := am_nm a) (bytes := am_bc a) (ret := none) (Ts := am_G) (ws := am_ws a) (ws' := am_G) (rm := (am_rm d (h1.length - hp.length) (am_sl h1 - am_sl hp))) b C.2.2.2.2.1 hGI hwe hrc hrs hnw hini hdd ⟨hr1, hr2⟩
        exact am_callz (va_runIN (As := tl.map (am_sh sa S)) (rest := rest) (b := am_ad sa S q) hF M ⟨hcw, hpp.2.2.2.2.2.1 k2, C.2.2.2.2.1 _ (am_G_of wi rfl)⟩ ⟨am_blind sa S L xs dC dI cT _ hp, fun U hU hW => hPc U hU hW⟩ rfl (by rw [List.length_map]; exact hasl) hl.1 hst2 hW8 hdg hroom) hS fin
      · have := Nat.eq_of_beq_eq_true hck.2
        omega
    · cases hb3
  | invokestatic ix =>
    simp only [am_chk2, Bool.or_eq_true, Bool.and_eq_true] at hck
    rcases hck with hck | hck
    · obtain ⟨p0, he, hpm, hkk⟩ := am_hM_spec hck
      obtain ⟨w1, hy⟩ := hpm.1 (Or.inr (Or.inr rfl))
      obtain ⟨hpp, hr1, hr2⟩ := key (kd := 0) (p0 := p0) hy
      simp only [am_kk, Bool.and_eq_true] at hkk
      obtain ⟨k1, k3⟩ := hkk
      have wi := am_SL_ok a (by simpa using k1)
      have har := Nat.eq_of_beq_eq_true k3
      exact am_callz (va_runS (As := vs.map (am_sh sa S)) (rest := rest) hF M ⟨callB_of b C.2.2.2.2.1 (am_goodIn hpp.2.2.1) rfl rfl rfl (C.2.2.2.2.1 _ (am_G_of hpp.2.2.2.1 rfl)) (C.2.2.2.2.1 _ (am_G_of w1 rfl)) ⟨hpp.2.2.2.2.2.2.2.1.1, hpp.2.2.2.2.2.2.2.1.2, (hpp.2.2.2.2.2.2.2.2 b).mpr har⟩ ⟨hr1, hr2⟩, C.2.2.2.2.1 _ (am_G_of wi rfl)⟩ ⟨am_blind sa S L xs dC dI cT _ hp, fun U hU hW => hPc U hU hW⟩ rfl (by rw [List.length_map]; exact hlen) hl.1 hstk hW8 hdg hroom) hS fin
    · have := Nat.le_of_ble_eq_true hck.2
      omega
  | _ => cases hC
end AC
