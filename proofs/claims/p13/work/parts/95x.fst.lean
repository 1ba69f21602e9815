/-! The older walk of both threads (clauses may break): each instruction is looked up once, by its place -/
noncomputable def ai_xca (P : ap_P) (s : Bool) (dd y : Nat) (i : Instr) (a b pc : Nat) (k : ae_K) (M : List ae_M) (lv : ae_L) (st : List ae_V) (fs : List ap_F) : Option (List ap_O) :=
  bif Nat.ble 1000 a then (bif Nat.ble 1 dd && Nat.ble (ae_cats st) 16 then (ae_sy true P.mo a pc k M lv st).bind fun l => some (ai_map (af_nx dd y fs) l) else none)
  else match dd with
    | 0 => none
    | e + 1 => bif ai_ble (am_pop i b) st && Nat.ble (ae_cats (ai_drp (am_pop i b) st)) 8 && af_rcv i (ai_rev (ai_tak (am_pop i b) st)) (am_inf a).1 && Nat.ble (ae_cats (ai_tak (am_pop i b) st)) (am_inf a).2.2.1 then
      (match ai_fnd (fun c => Nat.beq c.1 a && ae_fas k c.2.1 (ai_rev (ai_tak (am_pop i b) st))) P.cts with
        | some c => bif Nat.ble c.2.2.2.2.2.2.2 e && c.2.2.2.1.all (fun r => am_sd ap_b s r.1) then
            (ae_cc true P.mo c (fun _ _ => true) (pc + 3) k (ap_own1 s M) lv (ai_drp (am_pop i b) st)).bind fun l =>
              bif l.all (fun z => z.2.2.1.all fun m => am_sd ap_b s m.1) then some (ai_map (fun z => af_nx (e + 1) y fs (z.1, z.2.1, z.2.2.1 ++ ap_oth1 s M, z.2.2.2)) l) else none
            else none
        | none => some [(k, M, ((e, a, 0, ai_ag 0 (ai_rev (ai_tak (am_pop i b) st)), []) :: (e + 1, y, pc + 3, lv, ai_drp (am_pop i b) st) :: fs, none))])
      else none
theorem ai_xca_e (P : ap_P) (s : Bool) (dd y : Nat) (i : Instr) (a b pc : Nat) (k : ae_K) (M : List ae_M) (lv : ae_L) (st : List ae_V) (fs : List ap_F) : ai_xca P s dd y i a b pc k M lv st fs = ap_ca true P s dd y i a b pc k M lv st fs := by
  unfold ai_xca
  simp only [ai_map_e, ai_ble_e, ai_drp_e, ai_rev_e, ai_tak_e, ai_fnd_e, ai_ag_e, af_rcv_eq]
  cases dd <;> rfl
noncomputable def ai_x1 (P : ap_P) (s : Bool) (dd y pc : Nat) (lv : ae_L) (st : List ae_V) (fs : List ap_F) (k : ae_K) (M : List ae_M) : Option (List ap_O) := match am_code y pc with
  | some (i, a, b) => bif ai_all (fun a => Bool.rec (motive := fun _ => Bool) true (am_sd ap_b s a.2.1) (Nat.beq a.1 2)) st then (match af_a (am_inf y).2.2.1 i a pc with
      | some (p, g) => (match g k lv st with
        | some (lv, st) => some [(k, M, ((dd, y, p, lv, st) :: fs, none))]
        | none => none)
      | none => bif am_isR i then (match af_rt i (am_inf y).2.2.2 with
          | some g => (match g k st with
            | some v => some [(k, M, af_pop v fs)]
            | none => none)
          | none => none)
        else bif am_isC i then ai_xca P s dd y i a b pc k M lv st fs
        else (match ae_sp true P.mo (am_inf y).2.2.1 i a b pc k M lv st with
          | some l => some (ai_map (af_nx dd y fs) l)
          | none => none)) else none
  | none => none
theorem ai_x1_e (P : ap_P) (s : Bool) (dd y pc : Nat) (lv : ae_L) (st : List ae_V) (fs : List ap_F) (k : ae_K) (M : List ae_M) : ai_x1 P s dd y pc lv st fs k M = ap_s1 true P s (dd, y, pc, lv, st) fs k M := by
  have h : (fun a : ae_V => Bool.rec (motive := fun _ => Bool) true (am_sd ap_b s a.2.1) (Nat.beq a.1 2)) = fun a => !(Nat.beq a.1 2) || am_sd ap_b s a.2.1 := funext fun a => by cases Nat.beq a.1 2 <;> rfl
  unfold ai_x1
  show _ = (am_code y pc).bind _
  cases hc : am_code y pc with
  | none => rfl
  | some q =>
    obtain ⟨i, a, b⟩ := q
    show (bif ai_all _ st then _ else none) = (bif st.all (fun a => !(Nat.beq a.1 2) || am_sd ap_b s a.2.1) then
      (bif am_isR i then (ae_re i (am_inf y).2.2.2 k M st).bind fun l => some (l.map fun o => (o.1, o.2.1, ap_pop o.2.2 fs))
      else bif am_isC i then ap_ca true P s dd y i a b pc k M lv st fs
      else (ae_sp true P.mo (am_inf y).2.2.1 i a b pc k M lv st).bind fun l => some (l.map (ap_nx dd y fs))) else none)
    rw [ai_all_e, h]
    cases st.all (fun a => !(Nat.beq a.1 2) || am_sd ap_b s a.2.1) with
    | false => rfl
    | true =>
      show (match af_a (am_inf y).2.2.1 i a pc with
        | some (p, g) => _
        | none => _) = (bif am_isR i then (ae_re i (am_inf y).2.2.2 k M st).bind fun l => some (l.map fun o => (o.1, o.2.1, ap_pop o.2.2 fs))
        else bif am_isC i then ap_ca true P s dd y i a b pc k M lv st fs
        else (ae_sp true P.mo (am_inf y).2.2.1 i a b pc k M lv st).bind fun l => some (l.map (ap_nx dd y fs)))
      cases hA : af_a (am_inf y).2.2.1 i a pc with
      | some q =>
        obtain ⟨p, g⟩ := q
        obtain ⟨h1, h2, h3⟩ := af_a_sp (b := b) hA
        rw [h1, h2]
        show _ = (ae_sp true P.mo (am_inf y).2.2.1 i a b pc k M lv st).bind fun l => some (l.map (ap_nx dd y fs))
        rw [h3 true]
        show (match g k lv st with
          | some (lv, st) => some [(k, M, ((dd, y, p, lv, st) :: fs, none))]
          | none => none) = (af_ou p k M (g k lv st)).bind _
        cases g k lv st with
        | none => rfl
        | some r => rfl
      | none =>
        show (bif am_isR i then _ else bif am_isC i then ai_xca P s dd y i a b pc k M lv st fs else _) = _
        cases hR : am_isR i with
        | true =>
          show (match af_rt i (am_inf y).2.2.2 with
            | some g => (match g k st with
              | some v => some [(k, M, af_pop v fs)]
              | none => none)
            | none => none) = (ae_re i (am_inf y).2.2.2 k M st).bind fun l => some (l.map fun o => (o.1, o.2.1, ap_pop o.2.2 fs))
          rw [← af_rt_ok]
          cases af_rt i (am_inf y).2.2.2 with
          | none => rfl
          | some g =>
            show (match g k st with
              | some v => some [(k, M, af_pop v fs)]
              | none => none) = (match g k st with
              | some v => some [(k, M, v)]
              | none => none).bind _
            cases g k st with
            | none => rfl
            | some v =>
              show some [(k, M, af_pop v fs)] = some [(k, M, ap_pop v fs)]
              rw [af_pop_eq]
        | false =>
          show (bif am_isC i then ai_xca P s dd y i a b pc k M lv st fs else _) = (bif am_isC i then ap_ca true P s dd y i a b pc k M lv st fs else _)
          cases am_isC i with
          | true => exact ai_xca_e P s dd y i a b pc k M lv st fs
          | false =>
            show (match ae_sp true P.mo (am_inf y).2.2.1 i a b pc k M lv st with
              | some l => some (ai_map (af_nx dd y fs) l)
              | none => none) = (ae_sp true P.mo (am_inf y).2.2.1 i a b pc k M lv st).bind fun l => some (l.map (ap_nx dd y fs))
            cases ae_sp true P.mo (am_inf y).2.2.1 i a b pc k M lv st with
            | none => rfl
            | some l =>
              show some (ai_map (af_nx dd y fs) l) = some (l.map (ap_nx dd y fs))
              rw [ai_map_e]
              rfl
noncomputable def ai_xo (s : Bool) (n : Nat) (cl : List (List ae_X)) (t1 t2 : ap_T) (o : ap_O) : ap_St := match o with
  | (k, M, th) => bif Nat.beq n (ai_len k.2.2.1) then (bif s then (k, cl, M, t1, th) else (k, cl, M, th, t2)) else (bif s then ((k.1, k.2.1, ap_df k.2.2.1, k.2.2.2), cl, M, t1, th) else ((k.1, k.2.1, ap_df k.2.2.1, k.2.2.2), cl, M, th, t2))
noncomputable def ai_xs (W : ap_W) (s : Bool) (k : ae_K) (cl : List (List ae_X)) (M : List ae_M) (t1 t2 t : ap_T) : Option (List ap_St) := match t with
  | ([], _) => none
  | ((dd, y, pc, lv, st) :: fs, _) => (match W.p.sps.filter fun q => Nat.beq q.1 y && Nat.beq q.2.1 pc with
    | _ :: _ => ap_stp W s (k, cl, M, t1, t2)
    | [] => bif W.pr y pc then ap_stp W s (k, cl, M, t1, t2) else (match ai_x1 W.p s dd y pc lv st fs k M with
      | some l => some (ai_map (ai_xo s (ai_len k.2.2.1) cl t1 t2) l)
      | none => none))
theorem ai_xs_e (W : ap_W) (s : Bool) (k : ae_K) (cl : List (List ae_X)) (M : List ae_M) (t1 t2 : ap_T) : ai_xs W s k cl M t1 t2 (bif s then t2 else t1) = ap_stp W s (k, cl, M, t1, t2) := by
  have e : ap_stp W s (k, cl, M, t1, t2) = (match (bif s then t2 else t1).1 with
    | [] => none
    | f :: fs => ae_cat (fun k' => (ap_s2 true W.p s f fs k' M).bind fun l => some (l.map fun o => bif s then (ap_kd k.2.2.1.length o.1, cl, o.2.1, t1, o.2.2) else (ap_kd k.2.2.1.length o.1, cl, o.2.1, o.2.2, t2))) (bif W.pr f.2.1 f.2.2.1 then ap_un k cl else [k])) := rfl
  cases ht : (bif s then t2 else t1) with
  | mk l v =>
    rw [ht] at e
    cases l with
    | nil => rw [e]; rfl
    | cons f fs =>
      obtain ⟨dd, y, pc, lv, st⟩ := f
      show (match W.p.sps.filter fun q => Nat.beq q.1 y && Nat.beq q.2.1 pc with
        | _ :: _ => ap_stp W s (k, cl, M, t1, t2)
        | [] => bif W.pr y pc then ap_stp W s (k, cl, M, t1, t2) else (match ai_x1 W.p s dd y pc lv st fs k M with
          | some l => some (ai_map (ai_xo s (ai_len k.2.2.1) cl t1 t2) l)
          | none => none)) = _
      cases hsp : W.p.sps.filter (fun q => Nat.beq q.1 y && Nat.beq q.2.1 pc) with
      | cons _ _ => rfl
      | nil =>
        cases hp : W.pr y pc with
        | true => rfl
        | false =>
          have e : ap_stp W s (k, cl, M, t1, t2) = ae_cat (fun k' => (ap_s2 true W.p s (dd, y, pc, lv, st) fs k' M).bind fun l => some (l.map fun o => bif s then (ap_kd k.2.2.1.length o.1, cl, o.2.1, t1, o.2.2) else (ap_kd k.2.2.1.length o.1, cl, o.2.1, o.2.2, t2))) (bif W.pr y pc then ap_un k cl else [k]) := e
          rw [hp] at e
          have e : ap_stp W s (k, cl, M, t1, t2) = ((ap_s2 true W.p s (dd, y, pc, lv, st) fs k M).bind fun l => some (l.map fun o => bif s then (ap_kd k.2.2.1.length o.1, cl, o.2.1, t1, o.2.2) else (ap_kd k.2.2.1.length o.1, cl, o.2.1, o.2.2, t2))).bind fun a => (some []).bind fun b => some (a ++ b) := e
          have s2E : ap_s2 true W.p s (dd, y, pc, lv, st) fs k M = ap_s1 true W.p s (dd, y, pc, lv, st) fs k M := by
            show (match W.p.sps.filter fun q => Nat.beq q.1 y && Nat.beq q.2.1 pc with
              | [] => ap_s1 true W.p s (dd, y, pc, lv, st) fs k M
              | z :: r => (ae_sx true st (z :: r) k M).bind (ae_cat fun q => ap_s1 true W.p s (dd, y, pc, lv, st) fs q.1 q.2)) = _
            rw [hsp]
          rw [e, s2E]
          show (match ai_x1 W.p s dd y pc lv st fs k M with
            | some l => some (ai_map (ai_xo s (ai_len k.2.2.1) cl t1 t2) l)
            | none => none) = _
          rw [ai_x1_e]
          cases ap_s1 true W.p s (dd, y, pc, lv, st) fs k M with
          | none => rfl
          | some l =>
            show some (ai_map (ai_xo s (ai_len k.2.2.1) cl t1 t2) l) = some ((l.map fun o => bif s then (ap_kd k.2.2.1.length o.1, cl, o.2.1, t1, o.2.2) else (ap_kd k.2.2.1.length o.1, cl, o.2.1, o.2.2, t2)) ++ [])
            rw [List.append_nil, ai_map_e]
            refine congrArg some (List.map_congr_left fun o _ => ?_)
            obtain ⟨k', M', th⟩ := o
            show (bif Nat.beq (ai_len k.2.2.1) (ai_len k'.2.2.1) then _ else _) = (bif s then (ap_kd k.2.2.1.length k', cl, M', t1, th) else (ap_kd k.2.2.1.length k', cl, M', th, t2))
            rw [ai_len_e, ai_len_e]
            unfold ap_kd
            cases Nat.beq k.2.2.1.length k'.2.2.1.length <;> cases s <;> rfl
noncomputable def ai_xw (W : ap_W) (t : ap_T) : Bool := match t with
  | ([], _) => true
  | ((_, y, pc, _, _) :: _, _) => W.wt y pc
theorem ai_xw_e (W : ap_W) (t : ap_T) : ai_xw W t = ap_w W t := by
  obtain ⟨l, v⟩ := t
  cases l <;> rfl
noncomputable def ai_xg (W : ap_W) (w0 : ae_X) (ih : ap_Go) : ap_Go := fun f1 f2 nh z => match z with
  | (k, cl, M, t1, t2) => bif (bif nh then false else W.hf f1 f2 (k, cl, M, t1, t2)) then ap_al (ih f1 f2 true) (W.hk (k, cl, M, t1, t2))
    else bif (bif f1 then false else ai_xw W t1) then
      (bif (bif f2 then false else ai_xw W t2) then W.tms.any (ap_mt W.r w0 (k, cl, M, t1, t2)) || (match W.ov (k, cl, M, t1, t2) with
        | some b => ih b.1 b.2 true (k, cl, M, t1, t2)
        | none => false)
      else ap_al (ih f1 false false) (ai_xs W true k cl M t1 t2 t2))
    else ap_al (ih false f2 false) (ai_xs W false k cl M t1 t2 t1)
theorem ai_xg_e (W : ap_W) (w0 : ae_X) (ih : ap_Go) (f1 f2 nh : Bool) (z : ap_St) : ai_xg W w0 ih f1 f2 nh z = ap_g1 W w0 ih f1 f2 nh z := by
  obtain ⟨k, cl, M, t1, t2⟩ := z
  have h4 : ai_xs W true k cl M t1 t2 t2 = ap_stp W true (k, cl, M, t1, t2) := ai_xs_e W true k cl M t1 t2
  have h5 : ai_xs W false k cl M t1 t2 t1 = ap_stp W false (k, cl, M, t1, t2) := ai_xs_e W false k cl M t1 t2
  show (bif (bif nh then false else W.hf f1 f2 (k, cl, M, t1, t2)) then _ else bif (bif f1 then false else ai_xw W t1) then (bif (bif f2 then false else ai_xw W t2) then _ else ap_al (ih f1 false false) (ai_xs W true k cl M t1 t2 t2)) else ap_al (ih false f2 false) (ai_xs W false k cl M t1 t2 t1)) = (bif !nh && W.hf f1 f2 (k, cl, M, t1, t2) then _ else bif (!f1 && ap_w W t1) then (bif (!f2 && ap_w W t2) then _ else ap_al (ih f1 false false) (ap_stp W true (k, cl, M, t1, t2))) else ap_al (ih false f2 false) (ap_stp W false (k, cl, M, t1, t2)))
  rw [h4, h5, ai_xw_e, ai_xw_e]
  cases nh <;> cases f1 <;> cases f2 <;> rfl
noncomputable def ai_xgo (W : ap_W) (w0 : ae_X) (n : Nat) : ap_Go :=
  Nat.rec (motive := fun _ => ap_Go) (fun _ _ _ _ => false) (fun _ ih => ai_xg W w0 ih) n
theorem ai_xgo_e (W : ap_W) (w0 : ae_X) : ∀ n : Nat, ai_xgo W w0 n = ap_go W w0 n
  | 0 => rfl
  | n + 1 => by
    funext f1 f2 nh z
    show ai_xg W w0 (ai_xgo W w0 n) f1 f2 nh z = ap_g1 W w0 (ap_go W w0 n) f1 f2 nh z
    rw [ai_xgo_e W w0 n]
    exact ai_xg_e W w0 _ f1 f2 nh z
noncomputable def ai_xck (W : ap_W) (n : Nat) (f1 f2 : Bool) (t : ap_Tm) : Bool := ae_wb t.st.k.1 t.rk.2 && (match t with
  | (z, _, _) => ai_xgo W t.rk n f1 f2 false z)
theorem ai_xck_ok {W : ap_W} {n : Nat} {f1 f2 : Bool} {t : ap_Tm} (q : ai_xck W n f1 f2 t = true) : ap_chk W n f1 f2 t = true := by
  obtain ⟨z, si, rk⟩ := t
  have q : (ae_wb z.k.1 rk.2 && ai_xgo W rk n f1 f2 false z) = true := q
  rw [ai_xgo_e] at q
  exact q
