/-! A step of one thread -/
abbrev ap_P : Type := ae_Mo × List ae_Ct × List ae_Sp
abbrev ap_P.mo (P : ap_P) : ae_Mo := P.1
abbrev ap_P.cts (P : ap_P) : List ae_Ct := P.2.1
abbrev ap_P.sps (P : ap_P) : List ae_Sp := P.2.2
abbrev ap_O : Type := ae_K × List ae_M × ap_T
noncomputable def ap_nx (dd y : Nat) (fs : List ap_F) (z : ae_R) : ap_O := (z.2.1, z.2.2.1, ((dd, y, z.1, z.2.2.2.1, z.2.2.2.2) :: fs, none))
noncomputable def ap_pop (v : Option ae_V) (fs : List ap_F) : ap_T := match fs with
  | [] => ([], v)
  | c :: r => ((c.1, c.2.1, c.2.2.1, c.2.2.2.1, v.toList ++ c.2.2.2.2) :: r, none)
noncomputable def ap_own1 (s : Bool) (M : List ae_M) : List ae_M := M.filter fun m => am_sd ap_b s m.1
noncomputable def ap_oth1 (s : Bool) (M : List ae_M) : List ae_M := M.filter fun m => !(am_sd ap_b s m.1)
noncomputable def ap_ca (ex : Bool) (P : ap_P) (s : Bool) (dd y : Nat) (i : Instr) (a b pc : Nat) (k : ae_K) (M : List ae_M) (lv : ae_L) (st : List ae_V) (fs : List ap_F) : Option (List ap_O) :=
  bif Nat.ble 1000 a then (bif Nat.ble 1 dd && Nat.ble (ae_cats st) 16 then (ae_sy ex P.mo a pc k M lv st).bind fun l => some (l.map (ap_nx dd y fs)) else none)
  else match dd with
    | 0 => none
    | e + 1 => bif Nat.ble (am_pop i b) st.length && Nat.ble (ae_cats (st.drop (am_pop i b))) 8 && ae_rcv i (st.take (am_pop i b)).reverse (am_inf a).1 && Nat.ble (ae_cats (st.take (am_pop i b))) (am_inf a).2.2.1 then
      (match P.cts.find? fun c => Nat.beq c.1 a && ae_fas k c.2.1 (st.take (am_pop i b)).reverse with
        | some c => bif Nat.ble c.2.2.2.2.2.2.2 e && c.2.2.2.1.all (fun r => am_sd ap_b s r.1) then
            (ae_cc ex P.mo c (fun _ _ => true) (pc + 3) k (ap_own1 s M) lv (st.drop (am_pop i b))).bind fun l =>
              bif l.all (fun z => z.2.2.1.all fun m => am_sd ap_b s m.1) then some (l.map fun z => ap_nx (e + 1) y fs (z.1, z.2.1, z.2.2.1 ++ ap_oth1 s M, z.2.2.2)) else none
            else none
        | none => some [(k, M, ((e, a, 0, ae_ag2 0 (st.take (am_pop i b)).reverse, []) :: (e + 1, y, pc + 3, lv, st.drop (am_pop i b)) :: fs, none))])
      else none
noncomputable def ap_s1 (ex : Bool) (P : ap_P) (s : Bool) (f : ap_F) (fs : List ap_F) (k : ae_K) (M : List ae_M) : Option (List ap_O) :=
  (am_code f.2.1 f.2.2.1).bind fun q =>
    bif f.2.2.2.2.all (fun a => !(Nat.beq a.1 2) || am_sd ap_b s a.2.1) then
      (bif am_isR q.1 then (ae_re q.1 (am_inf f.2.1).2.2.2 k M f.2.2.2.2).bind fun l => some (l.map fun o => (o.1, o.2.1, ap_pop o.2.2 fs))
      else bif am_isC q.1 then ap_ca ex P s f.1 f.2.1 q.1 q.2.1 q.2.2 f.2.2.1 k M f.2.2.2.1 f.2.2.2.2 fs
      else (ae_sp ex P.mo (am_inf f.2.1).2.2.1 q.1 q.2.1 q.2.2 f.2.2.1 k M f.2.2.2.1 f.2.2.2.2).bind fun l => some (l.map (ap_nx f.1 f.2.1 fs)))
    else none
noncomputable def ap_s2 (ex : Bool) (P : ap_P) (s : Bool) (f : ap_F) (fs : List ap_F) (k : ae_K) (M : List ae_M) : Option (List ap_O) :=
  match P.sps.filter fun z => Nat.beq z.1 f.2.1 && Nat.beq z.2.1 f.2.2.1 with
  | [] => ap_s1 ex P s f fs k M
  | z :: r => (ae_sx ex f.2.2.2.2 (z :: r) k M).bind (ae_cat fun q => ap_s1 ex P s f fs q.1 q.2)
theorem ap_aif {b : Bool} {r r' : Option Value} {h h' : List am_E} (q : am_if b (some (r', h)) = some (r, h)) : am_if b (some (r', h')) = some (r, h') := by
  cases b with
  | false => cases q
  | true =>
    have q : some (r', h) = some (r, h) := q
    have e : r' = r := by injection q with q; injection q
    show some (r', h') = some (r, h')
    rw [e]
theorem ap_ret {i : Instr} {rk : Nat} {sw : List Value} {h h' : List am_E} {r : Option Value} (q : am_ret i rk sw h = some (r, h)) : am_ret i rk sw h' = some (r, h') := by
  cases i with
  | return_ =>
    cases sw with
    | nil => exact ap_aif (h := h) (h' := h') (r' := none) q
    | cons _ _ => cases q
  | ireturn =>
    cases sw with
    | nil => cases q
    | cons v t =>
      cases t with
      | nil =>
        cases v with
        | int x => exact ap_aif (h := h) (h' := h') (r' := some (.int x)) q
        | _ => cases q
      | cons _ _ => cases v <;> cases q
  | lreturn =>
    cases sw with
    | nil => cases q
    | cons v t =>
      cases t with
      | nil =>
        cases v with
        | long x => exact ap_aif (h := h) (h' := h') (r' := some (.long x)) q
        | _ => cases q
      | cons _ _ => cases v <;> cases q
  | _ => cases q
/-- how a step goes on -/
noncomputable def ap_G (ex : Bool) (mo : ae_Mo) (s : Bool) (L : Nat) (xs : Nat → Int32) (ρ : Nat → Int) (k : ae_K) (outs : List ap_O) (g : ap_cT) (ho hx : List am_E) : Prop :=
  ∃ o ∈ outs, ∃ ρ' g' ho', ae_up2 ρ k ρ' o.1 ∧ ae_k0 ρ' L o.1 ∧ ae_hp ex o.1.1 ρ' L xs o.2.1 (am_mX2 ap_b s ho' hx) ∧ ap_tt o.1.1 ρ' o.2.2 g' ∧ ae_fr mo L xs (am_mX2 ap_b s ho hx) (am_mX2 ap_b s ho' hx) ∧ ap_sm L xs s ho ho' ∧ ap_hx ex L xs s ho' ∧ ∀ x, ap_run L xs g' ho' x → ap_run L xs g ho x
section APB
variable {ex : Bool} {P : ap_P} {L : Nat} {xs : Nat → Int32} {s : Bool} {ho hx : List am_E} {ρ : Nat → Int} {k : ae_K} {M : List ae_M}
theorem ap_st_refs {n : Nat} : ∀ {st : List ae_V} {sw : List Value}, ae_sr n ρ st sw → st.all (fun a => !(Nat.beq a.1 2) || am_sd ap_b s a.2.1) = true → ∀ q, Value.ref q ∈ sw → am_sd ap_b s q = true
  | [], [], _, _, q, hq => absurd hq List.not_mem_nil
  | a :: r, v :: t, g, h, q, hq => by
    rw [List.all_cons, Bool.and_eq_true] at h
    rcases List.mem_cons.mp hq with e | hq
    · have g1 := g.1
      rw [← e] at g1
      obtain ⟨a1, a2, a3⟩ := a
      unfold ae_ok at g1
      match a1, g1, h.1 with
      | 0, g1, _ => obtain ⟨x, h1, -⟩ := g1; cases h1
      | 1, g1, _ => obtain ⟨x, h1, -⟩ := g1; cases h1
      | 2, g1, h1 =>
        have g1 : Value.ref q = Value.ref a2 := g1
        cases g1
        simpa using h1
      | 3, g1, _ =>
        have g1 : Value.ref q = Value.null := g1
        cases g1
      | 4, g1, _ => obtain ⟨x, -, h1⟩ := g1; cases h1
      | n + 5, g1, _ => exact absurd g1 id
    · exact ap_st_refs g.2 h.2 q hq
  | [], _ :: _, g, _, _, _ => absurd g id
  | _ :: _, [], g, _, _, _ => absurd g id
theorem ap_shp_own {ho' : List am_E} (O : ap_hx ex L xs s ho) (e1 : ho'.length = ae_np) (e2 : hx.length = ae_np) (ha : ∀ p, am_sd ap_b s p = false → am_at ho' p = am_at ho p) (H : ae_shp (am_mX2 ap_b s ho' hx)) : ae_shp ho' := by
  refine ⟨e1, fun q hq => ?_⟩
  cases hs : am_sd ap_b s (q + 1) with
  | true =>
    have h1 : (am_mX2 ap_b s ho' hx)[q]? = ho'[q]? := ap_at (s := s) e1 e2 hs
    rw [← h1]
    exact H.2 q hq
  | false =>
    have h1 : ho'[q]? = ho[q]? := ha (q + 1) hs
    rw [h1]
    exact O.1.2 q hq
/-- from an instruction's effect on both to the thread's own -/
theorem ap_lift {l : List ae_R} {dd y pc : Nat} {fs : List ap_F} {gs : List am_Fr} {d : Nat} {lw : am_L} {sw : List Value} {o0 : Option am_R4} (hdd : dd ≤ d) (hfs : ap_ff k.1 ρ fs gs) (O : ap_hx ex L xs s ho) (e2 : hx.length = ae_np)
    (q : ae_G ex P.mo ρ L xs k l o0 (am_mX2 ap_b s ho hx))
    (own : ∀ z h2, o0 = some z → h2.length = ho.length → am_app (am_mX2 ap_b s ho hx) z.2.2.2 = some h2 → ∃ h1, am_app ho z.2.2.2 = some h1 ∧ h2 = am_mX2 ap_b s h1 hx ∧ h1.length = ho.length ∧ (∀ o e, z.2.2.2 = some (o, e) → ∃ k, o = some k ∧ am_sd ap_b s (k + 1) = true) ∧ ∀ x, am_fn L xs (d, y, z.1, z.2.1, z.2.2.1) gs h1 x → am_fn L xs (d, y, pc, lw, sw) gs ho x) :
    ap_G ex P.mo s L xs ρ k (l.map (ap_nx dd y fs)) ((d, y, pc, lw, sw) :: gs, none) ho hx := by
  obtain ⟨z, h2, q1, q2, q3, r, m, e4, ρ', u, gm⟩ := q
  have e1 := O.1.1
  obtain ⟨h1, w1, w2, w3, w4, w5⟩ := own z h2 q1 (gm.2.2.1.1.1.trans e1.symm) q2
  subst w2
  have ha : ∀ p, am_sd ap_b s p = false → am_at h1 p = am_at ho p := fun p hp => ap_app w4 w1 hp
  have sm : ap_sm L xs s ho h1 := fun p j hp => ap_cell_at (ha p hp)
  have sh := ap_shp_own O (w3.trans e1) e2 ha gm.2.2.1.1
  refine ⟨_, List.mem_map.mpr ⟨r, m, rfl⟩, ρ', ((d, y, r.1, z.2.1, z.2.2.1) :: gs, none), h1, u, gm.2.1, gm.2.2.1, ⟨⟨⟨hdd, rfl, rfl, gm.2.2.2.1, gm.2.2.2.2⟩, ap_ff_ext u.1 u.2.1 hfs⟩, fun e => by cases e⟩, q3, sm, ap_hs_sm O sm sh, fun x hxx => ?_⟩
  have hxx : am_fn L xs (d, y, r.1, z.2.1, z.2.2.1) gs h1 x := hxx
  rw [e4] at hxx
  exact w5 x hxx
theorem ap_k0_ext {ρ' : Nat → Int} {k' : ae_K} (q : ae_k0 ρ L k) (u : ae_up2 ρ k ρ' k') : ae_k0 ρ' L k' := ae_k0_up q u
theorem ap_s1_ok (hr : ae_rok = true) (hf : ae_fok = true) (hL : L ≤ 3072) (hct : ∀ c ∈ P.cts, ae_CT c) {f : ap_F} {fs : List ap_F} {g : am_Fr} {gs : List am_Fr} {outs : List ap_O} (q : ap_s1 ex P s f fs k M = some outs) (K : ae_okK ρ k) (K0 : ae_k0 ρ L k) (H : ae_hp ex k.1 ρ L xs M (am_mX2 ap_b s ho hx)) (F : ap_f1 k.1 ρ f g) (Fs : ap_ff k.1 ρ fs gs) (O : ap_hx ex L xs s ho) (e2 : hx.length = ae_np) :
    ap_G ex P.mo s L xs ρ k outs (g :: gs, none) ho hx := by
  obtain ⟨dd, y, pc, lv, st⟩ := f
  obtain ⟨d, y', pc', lw, sw⟩ := g
  obtain ⟨F1, F2, F3, F4, F5⟩ := F
  have F1 : dd ≤ d := F1
  have F2 : y = y' := F2
  have F3 : pc = pc' := F3
  subst F2; subst F3
  have F4 : ae_lr k.1 ρ lv lw := F4
  have F5 : ae_sr k.1 ρ st sw := F5
  have e1 := O.1.1
  obtain ⟨⟨i, a, b⟩, hc, q⟩ := Option.bind_eq_some_iff.mp q
  have hc : am_code y pc = some (i, a, b) := hc
  obtain ⟨hs, q⟩ := ae_bif q
  have hs := ap_st_refs (s := s) F5 hs
  have gm : ae_mm ex ρ L xs k M lv st lw sw (am_mX2 ap_b s ho hx) := ⟨K, K0, H, F4, F5⟩
  have q : (bif am_isR i then (ae_re i (am_inf y).2.2.2 k M st).bind fun l => some (l.map fun o => (o.1, o.2.1, ap_pop o.2.2 fs))
      else bif am_isC i then ap_ca ex P s dd y i a b pc k M lv st fs
      else (ae_sp ex P.mo (am_inf y).2.2.1 i a b pc k M lv st).bind fun l => some (l.map (ap_nx dd y fs))) = some outs := q
  have hb : ap_b ≤ ho.length + 1 := by rw [e1]; decide
  have el : ho.length = hx.length := by omega
  cases hR : am_isR i with
  | true =>
    rw [hR] at q
    obtain ⟨l, q1, q2⟩ := Option.bind_eq_some_iff.mp q
    cases q2
    obtain ⟨r, g1, z, g2, g3, g4, g5⟩ := ae_re_ok gm q1
    -- the same answer on one's own heap
    have g1' : am_ret i (am_inf y).2.2.2 sw ho = some (r, ho) := by
      exact ap_ret g1
    refine ⟨(k, M, ap_pop z.2.2 fs), List.mem_map.mpr ⟨z, g2, by rw [g3, g4]⟩, ρ, ?_⟩
    cases gs with
    | nil =>
      cases fs with
      | cons _ _ => exact absurd Fs id
      | nil =>
        refine ⟨([], r), ho, ⟨Nat.le_refl _, ae_ag_rf _ _, K⟩, K0, H, ⟨trivial, fun _ => g5⟩, ae_fr_rf _ _ _ _, ap_sm_rf, O, fun x hxx => ?_⟩
        have hxx : x = (r, ho) := hxx
        rw [hxx]
        exact am_fnE hc hR g1'
    | cons c gs =>
      cases fs with
      | nil => exact absurd Fs id
      | cons c' fs =>
        refine ⟨(am_psh r c :: gs, none), ho, ⟨Nat.le_refl _, ae_ag_rf _ _, K⟩, K0, H, ⟨⟨⟨Fs.1.1, Fs.1.2.1, Fs.1.2.2.1, Fs.1.2.2.2.1, ?_⟩, Fs.2⟩, fun e => by cases e⟩, ae_fr_rf _ _ _ _, ap_sm_rf, O, fun x hxx => ?_⟩
        · have hre := Fs.1.2.2.2.2
          unfold ae_ro at g5
          split at g5
          · rename_i ho'
            rw [ho', g5]
            exact hre
          · rename_i a' ho'
            obtain ⟨v, rfl, hv⟩ := g5
            rw [ho']
            exact ⟨hv, hre⟩
        · exact am_fn0 hc hR g1' hxx
  | false =>
    rw [hR] at q
    cases hC : am_isC i with
    | false =>
      rw [hC] at q
      obtain ⟨l, h1, q⟩ := Option.bind_eq_some_iff.mp q
      cases q
      have w := ae_sp_ok (own := (am_inf y).1) (ini := (am_inf y).2.1) hr hf gm h1
      refine ap_lift F1 Fs O e2 w (fun z h2 z1 z2 z3 => ?_)
      obtain ⟨t1, h1, t2, t3, t4⟩ := am_th1 el hb (by decide) hs z2 z1 z3
      have eff := ap_eff (s := s) hs (z2.trans ((am_mx_len el).symm)) z3 (fun k e he => am_simple_eff z1 he)
      exact ⟨h1, t2, t3, t4, eff, fun x hxx => am_fn1 hc hR hC t1 t2 hxx⟩
    | true =>
      rw [hC] at q
      have q : ap_ca ex P s dd y i a b pc k M lv st fs = some outs := q
      unfold ap_ca at q
      cases hA : Nat.ble 1000 a with
      | true =>
        rw [hA] at q
        obtain ⟨hb2, q⟩ := ae_bif (show (bif Nat.ble 1 dd && Nat.ble (ae_cats st) 16 then _ else none) = some outs from q)
        rw [Bool.and_eq_true] at hb2
        obtain ⟨l, h1, q⟩ := Option.bind_eq_some_iff.mp q
        cases q
        have w := ae_sy_ok gm h1
        refine ap_lift F1 Fs O e2 w (fun z h2 z1 z2 z3 => ?_)
        obtain ⟨t1, h1, t2, t3, t4⟩ := am_th2 el hb (by decide) hs z1 z3
        have eff : ∀ o e, z.2.2.2 = some (o, e) → ∃ k, o = some k ∧ am_sd ap_b s (k + 1) = true := by
          intro o e he
          obtain ⟨k', hk1, hk2⟩ := am_sys_eff z1 he
          exact ⟨k', hk1, hs _ hk2⟩
        have hd1 : Nat.ble 1 d = true := Nat.ble_eq_true_of_le (by have := Nat.le_of_ble_eq_true hb2.1; omega)
        exact ⟨h1, t2, t3, t4, eff, fun x hxx => am_fn2 hc hR hC hA hd1 (by rw [ae_sr_cats F5]; exact hb2.2) t1 t2 hxx⟩
      | false =>
        rw [hA] at q
        cases dd with
        | zero => cases q
        | succ e =>
          obtain ⟨hb2, q⟩ := ae_bif (show (bif _ then _ else none) = some outs from q)
          simp only [Bool.and_eq_true] at hb2
          obtain ⟨⟨⟨b1, b2⟩, b3⟩, b4⟩ := hb2
          obtain ⟨d, rfl⟩ : ∃ d', d = d' + 1 := ⟨d - 1, by omega⟩
          have hargs := ae_sr_rev (ae_sr_take (am_pop i b) F5)
          have hrest := ae_sr_drop (am_pop i b) F5
          have hcond : (Nat.ble (am_pop i b) sw.length && Nat.ble (am_cats (sw.drop (am_pop i b))) 8 && am_rcv i a (sw.take (am_pop i b)).reverse ho (am_inf a).1 && Nat.ble (am_cats (sw.take (am_pop i b))) (am_inf a).2.2.1) = true := by
            rw [← ae_sr_len F5, b1, ae_sr_cats hrest, b2, ae_rcv_ok O.1 hargs b3, ae_sr_cats (ae_sr_take (am_pop i b) F5), b4]; rfl
          split at q
          · rename_i c hcq
            have hm := List.mem_of_find?_eq_some hcq
            have hs2 := List.find?_some hcq
            rw [Bool.and_eq_true] at hs2
            obtain ⟨hdep, q⟩ := ae_bif q
            rw [Bool.and_eq_true] at hdep
            have hdp := Nat.le_of_ble_eq_true hdep.1
            obtain ⟨l, h1, q⟩ := Option.bind_eq_some_iff.mp q
            obtain ⟨hall, q⟩ := ae_bif q
            cases q
            have Hown := ap_own H O e2
            have gmo : ae_mm ex ρ L xs k (ap_own1 s M) lv st lw sw ho := ⟨K, K0, Hown, F4, F5⟩
            obtain ⟨g1, ρ1, k1, es, g2, g3, g4, g5⟩ := ae_cc_ok hr hf gmo hrest h1
            obtain ⟨n1, r, ho', z1, z2, z3, z4, z5⟩ := hct c hm L xs _ ho d hL (ae_fas_ok K hargs hs2.2) g1 (by omega)
            obtain ⟨f1, z, m, e4, ρ', u, gm2⟩ := g5 r ho' z2 z3 z4 z5
            have hMz : ∀ q ∈ z.2.2.1, am_sd ap_b s q.1 = true := fun q hq => List.all_eq_true.mp (List.all_eq_true.mp hall z m) q hq
            have sm : ap_sm L xs s ho ho' := by
              intro p j hp
              refine z3 p j ?_
              cases hin : ae_inm c.2.2.2.1 p j with
              | false => rfl
              | true =>
                obtain ⟨r', hr', h5⟩ := List.any_eq_true.mp hin
                simp only [Bool.and_eq_true] at h5
                have h6 := List.all_eq_true.mp hdep.2 r' hr'
                rw [Nat.eq_of_beq_eq_true h5.1.1, hp] at h6
                cases h6
            have hca := Nat.eq_of_beq_eq_true hs2.1
            rw [hca] at z1
            refine ⟨_, List.mem_map.mpr ⟨z, m, rfl⟩, ρ', ((d + 1, y, z.1, lw, r.toList ++ sw.drop (am_pop i b)) :: gs, none), ho', u, gm2.2.1, ap_back H e1 e2 u.1 u.2.1 gm2.2.2.1 hMz, ⟨⟨⟨F1, rfl, rfl, gm2.2.2.2.1, gm2.2.2.2.2⟩, ap_ff_ext u.1 u.2.1 Fs⟩, fun e => by cases e⟩, ap_fr e1 gm2.2.2.1.1.1 e2 f1, sm, ap_hs_sm O sm gm2.2.2.1.1, fun x hxx => ?_⟩
            have hxx : am_fn L xs (d + 1, y, z.1, lw, r.toList ++ sw.drop (am_pop i b)) gs ho' x := hxx
            rw [e4] at hxx
            exact am_fn_of (f' := (d + 1, y, pc + 3, lw, r.toList ++ sw.drop (am_pop i b))) (h' := ho') (fun n x hg => ⟨n1 + n + 1, am_st3 hc hR hC hA hcond z1 hg⟩) hxx
          · cases q
            refine ⟨_, List.mem_singleton.mpr rfl, ρ, ((d, a, 0, lv_args 0 (sw.take (am_pop i b)).reverse, []) :: (d + 1, y, pc + 3, lw, sw.drop (am_pop i b)) :: gs, none), ho, ⟨Nat.le_refl _, ae_ag_rf _ _, K⟩, K0, H, ⟨⟨⟨by show e ≤ d; omega, rfl, rfl, ae_ag2_ok 0 hargs, trivial⟩, ⟨F1, rfl, rfl, F4, hrest⟩, Fs⟩, fun e => by cases e⟩, ae_fr_rf _ _ _ _, ap_sm_rf, O, fun x hxx => ?_⟩
            exact am_fn3 hc hR hC hA hcond hxx
theorem ap_s2_ok (hr : ae_rok = true) (hf : ae_fok = true) (hL : L ≤ 3072) (hct : ∀ c ∈ P.cts, ae_CT c) {f : ap_F} {fs : List ap_F} {g : am_Fr} {gs : List am_Fr} {outs : List ap_O} (q : ap_s2 ex P s f fs k M = some outs) (K : ae_okK ρ k) (K0 : ae_k0 ρ L k) (H : ae_hp ex k.1 ρ L xs M (am_mX2 ap_b s ho hx)) (F : ap_f1 k.1 ρ f g) (Fs : ap_ff k.1 ρ fs gs) (O : ap_hx ex L xs s ho) (e2 : hx.length = ae_np) :
    ap_G ex P.mo s L xs ρ k outs (g :: gs, none) ho hx := by
  unfold ap_s2 at q
  split at q
  · exact ap_s1_ok hr hf hL hct q K K0 H F Fs O e2
  · obtain ⟨l, h1, q⟩ := Option.bind_eq_some_iff.mp q
    obtain ⟨z, m, ρ', u, gm⟩ := ae_sx_ok hr (lv := f.2.2.2.1) (lw := g.2.2.2.1) ⟨K, K0, H, F.2.2.2.1, F.2.2.2.2⟩ h1
    obtain ⟨x, g1, g2⟩ := ae_cat_ok q m
    obtain ⟨o, m2, ρ2, g', ho', w1, w2⟩ := ap_s1_ok hr hf hL hct g1 gm.1 gm.2.1 gm.2.2.1 ⟨F.1, F.2.1, F.2.2.1, gm.2.2.2.1, gm.2.2.2.2⟩ (ap_ff_ext u.1 u.2.1 Fs) O e2
    exact ⟨o, g2 o m2, ρ2, g', ho', u.tr w1, w2⟩
end APB
