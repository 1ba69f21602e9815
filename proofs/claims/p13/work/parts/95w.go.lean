/-! The fast walk: the step -/
noncomputable def af_ld (T : List ab_Ti) (w : ae_Mo) (k : ae_K) (M O : List ae_M) (p : Nat) (e0 e : ae_X) : Option ab_Lz :=
  match ae_fd M p e with
  | some _ => some (k, M, O)
  | none => (match ab_fa k M p e with
    | some m => some (k, (p, e, m.2.2.1, false) :: M, O)
    | none => bif ab_ou k w p e then (match ab_fa k O p e with
        | some m => some (k, (p, e, m.2.2.1, false) :: M, O)
        | none => ab_lt T w p e (ab_tpe T p e) (k, M, O))
      else ab_l0 [] w k M O p e0)
theorem af_ld_eq (T : List ab_Ti) (w : ae_Mo) (k : ae_K) (M O : List ae_M) (p : Nat) (e : ae_X) : af_ld T w k M O p e (ae_nr k e) = ab_ld T w k M O p e := rfl
noncomputable def af_put (s : Bool) (k : ae_K) (M O : List ae_M) (w : ae_Mo) (T : List ab_Ti) (t1 t2 th : ap_T) : ab_St := bif s then (k, M, O, w, T, t1, th) else (k, M, O, w, T, th, t2)
noncomputable def af_ss (s : Bool) (n : Nat) (O : List ae_M) (w : ae_Mo) (T : List ab_Ti) (t1 t2 : ap_T) (dd y : Nat) (fs : List ap_F) (r : ae_R) : ab_St := match r with
  | (pc, k, M, lv, st) => af_put s (ap_kd n k) M O w T t1 t2 ((dd, y, pc, lv, st) :: fs, none)
noncomputable def af_so2 (s : Bool) (n : Nat) (O : List ae_M) (w : ae_Mo) (T : List ab_Ti) (t1 t2 : ap_T) (o : ap_O) : ab_St := match o with
  | (k, M, th) => af_put s (ap_kd n k) M O w T t1 t2 th
noncomputable def af_pop (v : Option ae_V) (fs : List ap_F) : ap_T := match fs with
  | [] => ([], v)
  | (d, y, pc, lv, st) :: r => ((d, y, pc, lv, (match v with
    | some x => x :: st
    | none => st)) :: r, none)
theorem af_pop_eq (v : Option ae_V) (fs : List ap_F) : af_pop v fs = ap_pop v fs := by
  cases fs with
  | nil => rfl
  | cons f r => cases v <;> rfl
noncomputable def af_nx (dd y : Nat) (fs : List ap_F) (z : ae_R) : ap_O := match z with
  | (pc, k, M, lv, st) => (k, M, ((dd, y, pc, lv, st) :: fs, none))
noncomputable def af_ca (P : ap_P) (s : Bool) (dd y : Nat) (i : Instr) (a b pc : Nat) (k : ae_K) (M : List ae_M) (lv : ae_L) (st : List ae_V) (fs : List ap_F) : Option (List ap_O) :=
  bif Nat.ble 1000 a then (bif Nat.ble 1 dd && Nat.ble (ae_cats st) 16 then (ae_sy false P.mo a pc k M lv st).bind fun l => some (l.map (af_nx dd y fs)) else none)
  else match dd with
    | 0 => none
    | e + 1 => bif Nat.ble (am_pop i b) st.length && Nat.ble (ae_cats (st.drop (am_pop i b))) 8 && af_rcv i (st.take (am_pop i b)).reverse (am_inf a).1 && Nat.ble (ae_cats (st.take (am_pop i b))) (am_inf a).2.2.1 then
      (match P.cts.find? fun c => Nat.beq c.1 a && ae_fas k c.2.1 (st.take (am_pop i b)).reverse with
        | some c => bif Nat.ble c.2.2.2.2.2.2.2 e && c.2.2.2.1.all (fun r => am_sd ap_b s r.1) then
            (ae_cc false P.mo c (fun _ _ => true) (pc + 3) k (ap_own1 s M) lv (st.drop (am_pop i b))).bind fun l =>
              bif l.all (fun z => z.2.2.1.all fun m => am_sd ap_b s m.1) then some (l.map fun z => af_nx (e + 1) y fs (z.1, z.2.1, z.2.2.1 ++ ap_oth1 s M, z.2.2.2)) else none
            else none
        | none => some [(k, M, ((e, a, 0, ae_ag2 0 (st.take (am_pop i b)).reverse, []) :: (e + 1, y, pc + 3, lv, st.drop (am_pop i b)) :: fs, none))])
      else none
theorem af_ca_eq (P : ap_P) (s : Bool) (dd y : Nat) (i : Instr) (a b pc : Nat) (k : ae_K) (M : List ae_M) (lv : ae_L) (st : List ae_V) (fs : List ap_F) : af_ca P s dd y i a b pc k M lv st fs = ap_ca false P s dd y i a b pc k M lv st fs := by
  unfold af_ca
  rw [af_rcv_eq]
  cases dd <;> rfl
/-- the step of an instruction that is found -/
noncomputable def af_s4 (s : Bool) (nL : Nat) (w1 : ae_Mo) (mo : ae_Mo) (k : ae_K) (M O : List ae_M) (T : List ab_Ti) (t1 t2 : ap_T) (dd y pc : Nat) (lv : ae_L) (st : List ae_V) (fs : List ap_F) (i : Instr) (a b : Nat) : Option (List ab_St) :=
  match af_sp nL i a b pc with
  | some f => (match f mo k M lv st with
    | some l => some (l.map (af_ss s k.2.2.1.length O w1 T t1 t2 dd y fs))
    | none => none)
  | none => none
noncomputable def af_s3 (W : ab_W) (s : Bool) (nL : Nat) (k : ae_K) (M O : List ae_M) (w : ae_Mo) (T : List ab_Ti) (t1 t2 : ap_T) (dd y pc : Nat) (lv : ae_L) (st : List ae_V) (fs : List ap_F) (i : Instr) (a b : Nat) : Option (List ab_St) :=
  match af_wr i b with
  | some g => bif ae_sub2 (g k st) W.p.mo then af_s4 s nL (ab_jn (g k st) w) (g k st) k M O T t1 t2 dd y pc lv st fs i a b else none
  | none => (match af_lk i a b with
    | some g => (match g k st with
      | some (p, e) => af_pl p fun p => (match af_ld T w k M O p e (ae_nr k e) with
        | some (k, M, O) => af_s4 s nL w [] k M O T t1 t2 dd y pc lv st fs i a b
        | none => none)
      | none => af_s4 s nL w [] k M O T t1 t2 dd y pc lv st fs i a b)
    | none => af_s4 s nL w [] k M O T t1 t2 dd y pc lv st fs i a b)
noncomputable def af_s2 (W : ab_W) (s : Bool) (k : ae_K) (M O : List ae_M) (w : ae_Mo) (T : List ab_Ti) (t1 t2 : ap_T) (dd y pc : Nat) (lv : ae_L) (st : List ae_V) (fs : List ap_F) (i : Instr) (a b : Nat) : Option (List ab_St) :=
  match af_a (am_inf y).2.2.1 i a pc with
  | some (p, g) => (match g k lv st with
    | some (lv, st) => some [af_put s k M O w T t1 t2 ((dd, y, p, lv, st) :: fs, none)]
    | none => none)
  | none => bif am_isR i then (match af_rt i (am_inf y).2.2.2 with
      | some g => (match g k st with
        | some v => some [af_put s k M O w T t1 t2 (af_pop v fs)]
        | none => none)
      | none => none)
    else bif am_isC i then (bif ae_sub2 (af_cw W.p y pc i a b k st) W.p.mo then (match af_ca (af_cw W.p y pc i a b k st, W.p.cts, W.p.sps) s dd y i a b pc k M lv st fs with
      | some l => some (l.map (af_so2 s k.2.2.1.length O (ab_jn (af_cw W.p y pc i a b k st) w) T t1 t2))
      | none => none) else none)
    else af_s3 W s (am_inf y).2.2.1 k M O w T t1 t2 dd y pc lv st fs i a b
noncomputable def af_t1 (W : ab_W) (s : Bool) (k : ae_K) (M O : List ae_M) (w : ae_Mo) (T : List ab_Ti) (t1 t2 : ap_T) (dd y pc : Nat) (lv : ae_L) (st : List ae_V) (fs : List ap_F) : Option (List ab_St) :=
  match W.p.sps.filter fun q => Nat.beq q.1 y && Nat.beq q.2.1 pc with
  | _ :: _ => ab_stp W s (k, M, O, w, T, t1, t2)
  | [] => (match am_code y pc with
    | some (i, a, b) => bif st.all (fun a => !(Nat.beq a.1 2) || am_sd ap_b s a.2.1) then af_s2 W s k M O w T t1 t2 dd y pc lv st fs i a b else none
    | none => none)
noncomputable def af_s0 (W : ab_W) (s : Bool) (k : ae_K) (M O : List ae_M) (w : ae_Mo) (T : List ab_Ti) (t1 t2 t : ap_T) : Option (List ab_St) := match t with
  | ([], _) => none
  | ((dd, y, pc, lv, st) :: fs, _) => af_t1 W s k M O w T t1 t2 dd y pc lv st fs
noncomputable def af_sx (W : ab_W) (s : Bool) (f : ap_F) (fs : List ap_F) (z : ab_St) : Option (List ab_St) := (ab_ps (W.p.sps.filter fun q => Nat.beq q.1 f.2.1 && Nat.beq q.2.1 f.2.2.1) z).bind fun z0 => (ab_pl z0 f).bind fun z1 =>
    bif ae_sub2 (ab_wr W.p f z1.k) W.p.mo then (ap_s2 false (ab_wr W.p f z1.k, W.p.cts, W.p.sps) s f fs z1.k z1.m).bind fun l => some (l.map (ab_mk s z1.k.2.2.1.length (ab_wr W.p f z1.k) z1)) else none
theorem af_kd0 (k : ae_K) : ap_kd k.2.2.1.length k = k := by
  unfold ap_kd
  rw [Nat.beq_refl]
  rfl
theorem af_a_ok {nL a b pc p : Nat} {i : Instr} {g : af_An} (q : af_a nL i a pc = some (p, g)) : af_lk i a b = none ∧ af_wr i b = none ∧ am_isR i = false ∧ am_isC i = false ∧ ∀ (mo : ae_Mo) (k : ae_K) (M : List ae_M) (lv : ae_L) (st : List ae_V), ae_sp false mo nL i a b pc k M lv st = af_ou p k M (g k lv st) := by
  obtain ⟨h1, h2, h3⟩ := af_a_sp (b := b) q
  refine ⟨?_, ?_, h1, h2, h3 false⟩
  · cases i <;> first
      | rfl
      | (cases q; done)
  · cases i <;> first
      | rfl
      | (cases q; done)
theorem af_R_ok {i : Instr} {a b : Nat} (q : am_isR i = true) : af_lk i a b = none ∧ af_wr i b = none ∧ am_isC i = false := by
  cases i <;> first
    | exact ⟨rfl, rfl, rfl⟩
    | (cases q; done)
theorem af_C_ok {i : Instr} {a b : Nat} (q : am_isC i = true) : af_lk i a b = none ∧ af_wr i b = none := by
  cases i <;> first
    | exact ⟨rfl, rfl⟩
    | (cases q; done)
theorem af_wr_lk {i : Instr} {a b : Nat} {g : ae_K → List ae_V → ae_Mo} (q : af_wr i b = some g) : af_lk i a b = none := by
  cases i <;> first
    | rfl
    | (cases q; done)
theorem af_s4_eq (s : Bool) (nL : Nat) (w mo : ae_Mo) (k : ae_K) (M O : List ae_M) (T : List ab_Ti) (t1 t2 : ap_T) (dd y pc : Nat) (lv : ae_L) (st : List ae_V) (fs : List ap_F) (i : Instr) (a b : Nat) :
    af_s4 s nL (ab_jn mo w) mo k M O T t1 t2 dd y pc lv st fs i a b = ((ae_sp false mo nL i a b pc k M lv st).bind fun l => some (l.map (ap_nx dd y fs))).bind fun l => some (l.map (ab_mk s k.2.2.1.length mo (k, M, O, w, T, t1, t2))) := by
  rw [← af_sp_ok]
  unfold af_s4
  cases af_sp nL i a b pc with
  | none => rfl
  | some f =>
    show (match f mo k M lv st with
      | some l => some (l.map (af_ss s k.2.2.1.length O (ab_jn mo w) T t1 t2 dd y fs))
      | none => none) = ((f mo k M lv st).bind _).bind _
    cases f mo k M lv st with
    | none => rfl
    | some l =>
      show some (l.map _) = some ((l.map _).map _)
      rw [List.map_map]
      refine congrArg some (List.map_congr_left fun r _ => ?_)
      obtain ⟨r1, r2, r3, r4, r5⟩ := r
      cases s <;> rfl
theorem af_t1_eq {W : ab_W} {s : Bool} {k : ae_K} {M O : List ae_M} {w : ae_Mo} {T : List ab_Ti} {t1 t2 : ap_T} {dd y pc : Nat} {lv : ae_L} {st : List ae_V} {fs : List ap_F} (hfs : (bif s then t2 else t1).1 = (dd, y, pc, lv, st) :: fs) :
    af_t1 W s k M O w T t1 t2 dd y pc lv st fs = ab_stp W s (k, M, O, w, T, t1, t2) := by
  have e : ab_stp W s (k, M, O, w, T, t1, t2) = (match (bif s then t2 else t1).1 with
    | [] => none
    | f :: fs => af_sx W s f fs (k, M, O, w, T, t1, t2)) := rfl
  unfold af_t1
  cases hsp : W.p.sps.filter (fun q => Nat.beq q.1 y && Nat.beq q.2.1 pc) with
  | cons _ _ => rfl
  | nil =>
    have e0 : ab_stp W s (k, M, O, w, T, t1, t2) = (ab_pl (k, M, O, w, T, t1, t2) (dd, y, pc, lv, st)).bind fun z1 => bif ae_sub2 (ab_wr W.p (dd, y, pc, lv, st) z1.k) W.p.mo then (ap_s2 false (ab_wr W.p (dd, y, pc, lv, st) z1.k, W.p.cts, W.p.sps) s (dd, y, pc, lv, st) fs z1.k z1.m).bind fun l => some (l.map (ab_mk s z1.k.2.2.1.length (ab_wr W.p (dd, y, pc, lv, st) z1.k) z1)) else none := by
      rw [e, hfs]
      show (ab_ps (W.p.sps.filter fun q => Nat.beq q.1 y && Nat.beq q.2.1 pc) (k, M, O, w, T, t1, t2)).bind _ = _
      rw [hsp]
      rfl
    have s2E : ∀ (mo : ae_Mo) (k : ae_K) (M : List ae_M), ap_s2 false (mo, W.p.cts, W.p.sps) s (dd, y, pc, lv, st) fs k M = ap_s1 false (mo, W.p.cts, W.p.sps) s (dd, y, pc, lv, st) fs k M := by
      intro mo k M
      show (match W.p.sps.filter fun q => Nat.beq q.1 y && Nat.beq q.2.1 pc with
        | [] => ap_s1 false (mo, W.p.cts, W.p.sps) s (dd, y, pc, lv, st) fs k M
        | z :: r => (ae_sx false st (z :: r) k M).bind (ae_cat fun q => ap_s1 false (mo, W.p.cts, W.p.sps) s (dd, y, pc, lv, st) fs q.1 q.2)) = _
      rw [hsp]
    cases hc : am_code y pc with
    | none =>
      have c0 : ab_cell k (dd, y, pc, lv, st) = none := by
        unfold ab_cell
        rw [show am_code (dd, y, pc, lv, st).2.1 (dd, y, pc, lv, st).2.2.1 = none from hc]
      have c1 : ab_pl (k, M, O, w, T, t1, t2) (dd, y, pc, lv, st) = some (k, M, O, w, T, t1, t2) := by
        unfold ab_pl
        rw [show ab_cell (ab_St.k (k, M, O, w, T, t1, t2)) (dd, y, pc, lv, st) = none from c0]
      have c2 : ∀ (mo : ae_Mo) (k : ae_K) (M : List ae_M), ap_s1 false (mo, W.p.cts, W.p.sps) s (dd, y, pc, lv, st) fs k M = none := by
        intro mo k M
        show (am_code y pc).bind _ = none
        rw [hc]
        rfl
      rw [e0, c1]
      show none = (bif _ then (ap_s2 _ _ _ _ _ _ _).bind _ else none)
      rw [s2E, c2]
      cases ae_sub2 _ _ <;> rfl
    | some q =>
      obtain ⟨i, a, b⟩ := q
      have cellE : ∀ k, ab_cell k (dd, y, pc, lv, st) = (match af_lk i a b with
          | some g => g k st
          | none => none) := by
        intro k
        show (match am_code y pc with
          | some q => (match q.1 with
            | .getfield _ => ab_gfl q.2.1 q.2.2 st
            | .iaload => ab_ra k st
            | .baload => ab_ra k st
            | .laload => ab_ra k st
            | _ => none)
          | none => none) = _
        rw [hc]
        cases i <;> rfl
      have wrE : ∀ k, ab_wr W.p (dd, y, pc, lv, st) k = (match af_wr i b with
          | some g => g k st
          | none => bif am_isC i then af_cw W.p y pc i a b k st else []) := by
        intro k
        unfold ab_wr
        rw [show am_code (dd, y, pc, lv, st).2.1 (dd, y, pc, lv, st).2.2.1 = some (i, a, b) from hc]
        cases i <;> rfl
      have s1E : ∀ (mo : ae_Mo) (k : ae_K) (M : List ae_M), ap_s1 false (mo, W.p.cts, W.p.sps) s (dd, y, pc, lv, st) fs k M = bif st.all (fun a => !(Nat.beq a.1 2) || am_sd ap_b s a.2.1) then
          (bif am_isR i then (ae_re i (am_inf y).2.2.2 k M st).bind fun l => some (l.map fun o => (o.1, o.2.1, ap_pop o.2.2 fs))
          else bif am_isC i then ap_ca false (mo, W.p.cts, W.p.sps) s dd y i a b pc k M lv st fs
          else (ae_sp false mo (am_inf y).2.2.1 i a b pc k M lv st).bind fun l => some (l.map (ap_nx dd y fs))) else none := by
        intro mo k M
        show (am_code y pc).bind _ = _
        rw [hc]
        rfl
      rw [e0]
      show (bif st.all (fun a => !(Nat.beq a.1 2) || am_sd ap_b s a.2.1) then af_s2 W s k M O w T t1 t2 dd y pc lv st fs i a b else none) = _
      cases hall : st.all (fun a => !(Nat.beq a.1 2) || am_sd ap_b s a.2.1) with
      | false =>
        rw [hall] at s1E
        show none = _
        cases ab_pl (k, M, O, w, T, t1, t2) (dd, y, pc, lv, st) with
        | none => rfl
        | some z1 =>
          show none = (bif _ then (ap_s2 _ _ _ _ _ _ _).bind _ else none)
          rw [s2E, s1E]
          cases ae_sub2 _ _ <;> rfl
      | true =>
        rw [hall] at s1E
        -- nothing is looked at, nothing of the kind is written
        have pl0 : af_lk i a b = none → ab_pl (k, M, O, w, T, t1, t2) (dd, y, pc, lv, st) = some (k, M, O, w, T, t1, t2) := by
          intro h
          unfold ab_pl
          rw [show ab_cell (ab_St.k (k, M, O, w, T, t1, t2)) (dd, y, pc, lv, st) = none by rw [cellE, h]]
        show af_s2 W s k M O w T t1 t2 dd y pc lv st fs i a b = _
        unfold af_s2
        cases hA : af_a (am_inf y).2.2.1 i a pc with
        | some q =>
          obtain ⟨p, g⟩ := q
          obtain ⟨a1, a2, a3, a4, a5⟩ := af_a_ok (b := b) hA
          have w0 : ∀ k, ab_wr W.p (dd, y, pc, lv, st) k = [] := by intro k; rw [wrE, a2, a4]; rfl
          rw [pl0 a1]
          show _ = (bif ae_sub2 (ab_wr W.p (dd, y, pc, lv, st) k) W.p.mo then (ap_s2 false (ab_wr W.p (dd, y, pc, lv, st) k, W.p.cts, W.p.sps) s (dd, y, pc, lv, st) fs k M).bind fun l => some (l.map (ab_mk s k.2.2.1.length (ab_wr W.p (dd, y, pc, lv, st) k) (k, M, O, w, T, t1, t2))) else none)
          rw [w0, s2E, s1E, a3, a4]
          show _ = ((ae_sp false [] (am_inf y).2.2.1 i a b pc k M lv st).bind _).bind _
          rw [a5]
          show (match g k lv st with
            | some (lv, st) => some [af_put s k M O w T t1 t2 ((dd, y, p, lv, st) :: fs, none)]
            | none => none) = _
          cases g k lv st with
          | none => rfl
          | some r =>
            obtain ⟨lv', st'⟩ := r
            show some [af_put s k M O w T t1 t2 ((dd, y, p, lv', st') :: fs, none)] = some [ab_mk s k.2.2.1.length [] (k, M, O, w, T, t1, t2) (k, M, ((dd, y, p, lv', st') :: fs, none))]
            unfold ab_mk
            rw [show ap_kd k.2.2.1.length ((k, M, ((dd, y, p, lv', st') :: fs, none)) : ap_O).1 = k from af_kd0 k]
            rfl
        | none =>
          show (bif am_isR i then (match af_rt i (am_inf y).2.2.2 with
              | some g => (match g k st with
                | some v => some [af_put s k M O w T t1 t2 (af_pop v fs)]
                | none => none)
              | none => none)
            else bif am_isC i then (bif ae_sub2 (af_cw W.p y pc i a b k st) W.p.mo then (match af_ca (af_cw W.p y pc i a b k st, W.p.cts, W.p.sps) s dd y i a b pc k M lv st fs with
              | some l => some (l.map (af_so2 s k.2.2.1.length O (ab_jn (af_cw W.p y pc i a b k st) w) T t1 t2))
              | none => none) else none)
            else af_s3 W s (am_inf y).2.2.1 k M O w T t1 t2 dd y pc lv st fs i a b) = _
          cases hR : am_isR i with
          | true =>
            rw [hR] at s1E
            obtain ⟨a1, a2, a4⟩ := af_R_ok (a := a) (b := b) hR
            have w0 : ∀ k, ab_wr W.p (dd, y, pc, lv, st) k = [] := by intro k; rw [wrE, a2, a4]; rfl
            rw [pl0 a1]
            show _ = (bif ae_sub2 (ab_wr W.p (dd, y, pc, lv, st) k) W.p.mo then (ap_s2 false (ab_wr W.p (dd, y, pc, lv, st) k, W.p.cts, W.p.sps) s (dd, y, pc, lv, st) fs k M).bind fun l => some (l.map (ab_mk s k.2.2.1.length (ab_wr W.p (dd, y, pc, lv, st) k) (k, M, O, w, T, t1, t2))) else none)
            rw [w0, s2E, s1E]
            show _ = ((ae_re i (am_inf y).2.2.2 k M st).bind _).bind _
            rw [← af_rt_ok]
            show (match af_rt i (am_inf y).2.2.2 with
              | some g => (match g k st with
                | some v => some [af_put s k M O w T t1 t2 (af_pop v fs)]
                | none => none)
              | none => none) = _
            cases af_rt i (am_inf y).2.2.2 with
            | none => rfl
            | some g =>
              show (match g k st with
                | some v => some [af_put s k M O w T t1 t2 (af_pop v fs)]
                | none => none) = ((match g k st with
                | some v => some [(k, M, v)]
                | none => none).bind _).bind _
              cases g k st with
              | none => rfl
              | some v =>
                show some [af_put s k M O w T t1 t2 (af_pop v fs)] = some [ab_mk s k.2.2.1.length [] (k, M, O, w, T, t1, t2) (k, M, ap_pop v fs)]
                unfold ab_mk
                rw [show ap_kd k.2.2.1.length ((k, M, ap_pop v fs) : ap_O).1 = k from af_kd0 k, af_pop_eq]
                rfl
          | false =>
            rw [hR] at s1E
            cases hC : am_isC i with
            | true =>
              rw [hC] at s1E wrE
              obtain ⟨a1, a2⟩ := af_C_ok (a := a) (b := b) hC
              have w0 : ∀ k, ab_wr W.p (dd, y, pc, lv, st) k = af_cw W.p y pc i a b k st := by intro k; rw [wrE, a2]; rfl
              rw [pl0 a1]
              show _ = (bif ae_sub2 (ab_wr W.p (dd, y, pc, lv, st) k) W.p.mo then (ap_s2 false (ab_wr W.p (dd, y, pc, lv, st) k, W.p.cts, W.p.sps) s (dd, y, pc, lv, st) fs k M).bind fun l => some (l.map (ab_mk s k.2.2.1.length (ab_wr W.p (dd, y, pc, lv, st) k) (k, M, O, w, T, t1, t2))) else none)
              rw [w0, s2E, s1E]
              show (bif ae_sub2 (af_cw W.p y pc i a b k st) W.p.mo then (match af_ca (af_cw W.p y pc i a b k st, W.p.cts, W.p.sps) s dd y i a b pc k M lv st fs with
                | some l => some (l.map (af_so2 s k.2.2.1.length O (ab_jn (af_cw W.p y pc i a b k st) w) T t1 t2))
                | none => none) else none) = (bif ae_sub2 (af_cw W.p y pc i a b k st) W.p.mo then (ap_ca false (af_cw W.p y pc i a b k st, W.p.cts, W.p.sps) s dd y i a b pc k M lv st fs).bind _ else none)
              rw [af_ca_eq]
              cases ae_sub2 (af_cw W.p y pc i a b k st) W.p.mo with
              | false => rfl
              | true =>
                show (match ap_ca false (af_cw W.p y pc i a b k st, W.p.cts, W.p.sps) s dd y i a b pc k M lv st fs with
                  | some l => some (l.map (af_so2 s k.2.2.1.length O (ab_jn (af_cw W.p y pc i a b k st) w) T t1 t2))
                  | none => none) = (ap_ca false (af_cw W.p y pc i a b k st, W.p.cts, W.p.sps) s dd y i a b pc k M lv st fs).bind _
                cases ap_ca false (af_cw W.p y pc i a b k st, W.p.cts, W.p.sps) s dd y i a b pc k M lv st fs with
                | none => rfl
                | some l =>
                  refine congrArg some (List.map_congr_left fun r _ => ?_)
                  obtain ⟨r1, r2, r3⟩ := r
                  cases s <;> rfl
            | false =>
              rw [hC] at s1E wrE
              show af_s3 W s (am_inf y).2.2.1 k M O w T t1 t2 dd y pc lv st fs i a b = _
              unfold af_s3
              cases hw : af_wr i b with
              | some g =>
                have a1 := af_wr_lk (a := a) hw
                have w0 : ∀ k, ab_wr W.p (dd, y, pc, lv, st) k = g k st := by intro k; rw [wrE, hw]
                rw [pl0 a1]
                show _ = (bif ae_sub2 (ab_wr W.p (dd, y, pc, lv, st) k) W.p.mo then (ap_s2 false (ab_wr W.p (dd, y, pc, lv, st) k, W.p.cts, W.p.sps) s (dd, y, pc, lv, st) fs k M).bind fun l => some (l.map (ab_mk s k.2.2.1.length (ab_wr W.p (dd, y, pc, lv, st) k) (k, M, O, w, T, t1, t2))) else none)
                rw [w0, s2E, s1E]
                show (bif ae_sub2 (g k st) W.p.mo then af_s4 s (am_inf y).2.2.1 (ab_jn (g k st) w) (g k st) k M O T t1 t2 dd y pc lv st fs i a b else none) = _
                rw [af_s4_eq]
                rfl
              | none =>
                have w0 : ∀ k, ab_wr W.p (dd, y, pc, lv, st) k = [] := by intro k; rw [wrE, hw]; rfl
                have fin : ∀ (k : ae_K) (M O : List ae_M), af_s4 s (am_inf y).2.2.1 w [] k M O T t1 t2 dd y pc lv st fs i a b = (bif ae_sub2 (ab_wr W.p (dd, y, pc, lv, st) k) W.p.mo then (ap_s2 false (ab_wr W.p (dd, y, pc, lv, st) k, W.p.cts, W.p.sps) s (dd, y, pc, lv, st) fs k M).bind fun l => some (l.map (ab_mk s k.2.2.1.length (ab_wr W.p (dd, y, pc, lv, st) k) (k, M, O, w, T, t1, t2))) else none) := by
                  intro k M O
                  rw [w0, s2E, s1E]
                  exact af_s4_eq s (am_inf y).2.2.1 w [] k M O T t1 t2 dd y pc lv st fs i a b
                show (match af_lk i a b with
                  | some g => (match g k st with
                    | some (p, e) => af_pl p fun p => (match af_ld T w k M O p e (ae_nr k e) with
                      | some (k, M, O) => af_s4 s (am_inf y).2.2.1 w [] k M O T t1 t2 dd y pc lv st fs i a b
                      | none => none)
                    | none => af_s4 s (am_inf y).2.2.1 w [] k M O T t1 t2 dd y pc lv st fs i a b)
                  | none => af_s4 s (am_inf y).2.2.1 w [] k M O T t1 t2 dd y pc lv st fs i a b) = _
                have plE : ab_pl (k, M, O, w, T, t1, t2) (dd, y, pc, lv, st) = (match ab_cell k (dd, y, pc, lv, st) with
                  | some c => (ab_ld T w k M O c.1 c.2).bind fun y => some (y.1, y.2.1, y.2.2, w, T, t1, t2)
                  | none => some (k, M, O, w, T, t1, t2)) := rfl
                rw [plE, cellE]
                cases af_lk i a b with
                | none => exact fin k M O
                | some g =>
                  show (match g k st with
                    | some (p, e) => af_pl p fun p => (match af_ld T w k M O p e (ae_nr k e) with
                      | some (k, M, O) => af_s4 s (am_inf y).2.2.1 w [] k M O T t1 t2 dd y pc lv st fs i a b
                      | none => none)
                    | none => af_s4 s (am_inf y).2.2.1 w [] k M O T t1 t2 dd y pc lv st fs i a b) = (match g k st with
                    | some c => (ab_ld T w k M O c.1 c.2).bind fun y => some (y.1, y.2.1, y.2.2, w, T, t1, t2)
                    | none => some (k, M, O, w, T, t1, t2)).bind _
                  cases g k st with
                  | none => exact fin k M O
                  | some c =>
                    obtain ⟨p, e⟩ := c
                    show (af_pl p fun p => (match af_ld T w k M O p e (ae_nr k e) with
                      | some (k, M, O) => af_s4 s (am_inf y).2.2.1 w [] k M O T t1 t2 dd y pc lv st fs i a b
                      | none => none)) = ((ab_ld T w k M O p e).bind fun y => some (y.1, y.2.1, y.2.2, w, T, t1, t2)).bind _
                    rw [af_pl_ok, af_ld_eq]
                    cases ab_ld T w k M O p e with
                    | none => rfl
                    | some y => exact fin y.1 y.2.1 y.2.2
theorem af_s0_eq (W : ab_W) (s : Bool) (k : ae_K) (M O : List ae_M) (w : ae_Mo) (T : List ab_Ti) (t1 t2 : ap_T) : af_s0 W s k M O w T t1 t2 (bif s then t2 else t1) = ab_stp W s (k, M, O, w, T, t1, t2) := by
  have e : ab_stp W s (k, M, O, w, T, t1, t2) = (match (bif s then t2 else t1).1 with
    | [] => none
    | f :: fs => af_sx W s f fs (k, M, O, w, T, t1, t2)) := rfl
  cases ht : (bif s then t2 else t1) with
  | mk l v =>
    cases l with
    | nil => rw [e, ht]; rfl
    | cons f fs =>
      obtain ⟨dd, y, pc, lv, st⟩ := f
      exact af_t1_eq (by rw [ht])
/-! the meeting points: those that stand at the same places; the ties that can have been touched -/
/-! the same step, lists by their recursor; the numbers known stay the same term where nothing is learnt -/
noncomputable def ai_ss (s : Bool) (n : Nat) (O : List ae_M) (w : ae_Mo) (T : List ab_Ti) (t1 t2 : ap_T) (dd y : Nat) (fs : List ap_F) (r : ae_R) : ab_St := match r with
  | (pc, k, M, lv, st) => bif Nat.beq n (ai_len k.2.2.1) then af_put s k M O w T t1 t2 ((dd, y, pc, lv, st) :: fs, none) else af_put s (k.1, k.2.1, ap_df k.2.2.1, k.2.2.2) M O w T t1 t2 ((dd, y, pc, lv, st) :: fs, none)
theorem ai_ss_e (s : Bool) (n : Nat) (O : List ae_M) (w : ae_Mo) (T : List ab_Ti) (t1 t2 : ap_T) (dd y : Nat) (fs : List ap_F) : ai_ss s n O w T t1 t2 dd y fs = af_ss s n O w T t1 t2 dd y fs := by
  funext r
  obtain ⟨pc, k, M, lv, st⟩ := r
  show (bif Nat.beq n (ai_len k.2.2.1) then _ else _) = af_put s (bif Nat.beq n k.2.2.1.length then k else (k.1, k.2.1, ap_df k.2.2.1, k.2.2.2)) M O w T t1 t2 ((dd, y, pc, lv, st) :: fs, none)
  rw [ai_len_e]
  cases Nat.beq n k.2.2.1.length <;> rfl
noncomputable def ai_so (s : Bool) (n : Nat) (O : List ae_M) (w : ae_Mo) (T : List ab_Ti) (t1 t2 : ap_T) (o : ap_O) : ab_St := match o with
  | (k, M, th) => bif Nat.beq n (ai_len k.2.2.1) then af_put s k M O w T t1 t2 th else af_put s (k.1, k.2.1, ap_df k.2.2.1, k.2.2.2) M O w T t1 t2 th
theorem ai_so_e (s : Bool) (n : Nat) (O : List ae_M) (w : ae_Mo) (T : List ab_Ti) (t1 t2 : ap_T) : ai_so s n O w T t1 t2 = af_so2 s n O w T t1 t2 := by
  funext r
  obtain ⟨k, M, th⟩ := r
  show (bif Nat.beq n (ai_len k.2.2.1) then _ else _) = af_put s (bif Nat.beq n k.2.2.1.length then k else (k.1, k.2.1, ap_df k.2.2.1, k.2.2.2)) M O w T t1 t2 th
  rw [ai_len_e]
  cases Nat.beq n k.2.2.1.length <;> rfl
noncomputable def ai_ag (i : Nat) (l : List ae_V) : ae_L := List.rec (motive := fun _ => Nat → ae_L) (fun _ => []) (fun a _ ih i => (i, a) :: ih (bif Nat.beq a.1 1 then i + 2 else i + 1)) l i
theorem ai_ag_e : ∀ (l : List ae_V) (i : Nat), ai_ag i l = ae_ag2 i l
  | [], _ => rfl
  | a :: r, i => by
    show (i, a) :: ai_ag (bif Nat.beq a.1 1 then i + 2 else i + 1) r = (i, a) :: ae_ag2 (bif Nat.beq a.1 1 then i + 2 else i + 1) r
    rw [ai_ag_e r]
noncomputable def ai_ca (P : ap_P) (s : Bool) (dd y : Nat) (i : Instr) (a b pc : Nat) (k : ae_K) (M : List ae_M) (lv : ae_L) (st : List ae_V) (fs : List ap_F) : Option (List ap_O) :=
  bif Nat.ble 1000 a then (bif Nat.ble 1 dd && Nat.ble (ae_cats st) 16 then (ae_sy false P.mo a pc k M lv st).bind fun l => some (ai_map (af_nx dd y fs) l) else none)
  else match dd with
    | 0 => none
    | e + 1 => bif ai_ble (am_pop i b) st && Nat.ble (ae_cats (ai_drp (am_pop i b) st)) 8 && af_rcv i (ai_rev (ai_tak (am_pop i b) st)) (am_inf a).1 && Nat.ble (ae_cats (ai_tak (am_pop i b) st)) (am_inf a).2.2.1 then
      (match ai_fnd (fun c => Nat.beq c.1 a && ae_fas k c.2.1 (ai_rev (ai_tak (am_pop i b) st))) P.cts with
        | some c => bif Nat.ble c.2.2.2.2.2.2.2 e && c.2.2.2.1.all (fun r => am_sd ap_b s r.1) then
            (ae_cc false P.mo c (fun _ _ => true) (pc + 3) k (ap_own1 s M) lv (ai_drp (am_pop i b) st)).bind fun l =>
              bif l.all (fun z => z.2.2.1.all fun m => am_sd ap_b s m.1) then some (ai_map (fun z => af_nx (e + 1) y fs (z.1, z.2.1, z.2.2.1 ++ ap_oth1 s M, z.2.2.2)) l) else none
            else none
        | none => some [(k, M, ((e, a, 0, ai_ag 0 (ai_rev (ai_tak (am_pop i b) st)), []) :: (e + 1, y, pc + 3, lv, ai_drp (am_pop i b) st) :: fs, none))])
      else none
theorem ai_ca_e (P : ap_P) (s : Bool) (dd y : Nat) (i : Instr) (a b pc : Nat) (k : ae_K) (M : List ae_M) (lv : ae_L) (st : List ae_V) (fs : List ap_F) : ai_ca P s dd y i a b pc k M lv st fs = af_ca P s dd y i a b pc k M lv st fs := by
  unfold ai_ca af_ca
  simp only [ai_map_e, ai_ble_e, ai_drp_e, ai_rev_e, ai_tak_e, ai_fnd_e, ai_ag_e]
noncomputable def ai_s4 (s : Bool) (nL : Nat) (w1 : ae_Mo) (mo : ae_Mo) (k : ae_K) (M O : List ae_M) (T : List ab_Ti) (t1 t2 : ap_T) (dd y pc : Nat) (lv : ae_L) (st : List ae_V) (fs : List ap_F) (i : Instr) (a b : Nat) : Option (List ab_St) :=
  match af_sp nL i a b pc with
  | some f => (match f mo k M lv st with
    | some l => some (ai_map (ai_ss s (ai_len k.2.2.1) O w1 T t1 t2 dd y fs) l)
    | none => none)
  | none => none
theorem ai_s4_e (s : Bool) (nL : Nat) (w1 : ae_Mo) (mo : ae_Mo) (k : ae_K) (M O : List ae_M) (T : List ab_Ti) (t1 t2 : ap_T) (dd y pc : Nat) (lv : ae_L) (st : List ae_V) (fs : List ap_F) (i : Instr) (a b : Nat) : ai_s4 s nL w1 mo k M O T t1 t2 dd y pc lv st fs i a b = af_s4 s nL w1 mo k M O T t1 t2 dd y pc lv st fs i a b := by
  unfold ai_s4 af_s4
  simp only [ai_map_e, ai_len_e, ai_ss_e]
noncomputable def ai_s3 (W : ab_W) (s : Bool) (nL : Nat) (k : ae_K) (M O : List ae_M) (w : ae_Mo) (T : List ab_Ti) (t1 t2 : ap_T) (dd y pc : Nat) (lv : ae_L) (st : List ae_V) (fs : List ap_F) (i : Instr) (a b : Nat) : Option (List ab_St) :=
  match af_wr i b with
  | some g => bif ae_sub2 (g k st) W.p.mo then ai_s4 s nL (ab_jn (g k st) w) (g k st) k M O T t1 t2 dd y pc lv st fs i a b else none
  | none => (match af_lk i a b with
    | some g => (match g k st with
      | some (p, e) => af_pl p fun p => (match af_ld T w k M O p e (ae_nr k e) with
        | some (k, M, O) => ai_s4 s nL w [] k M O T t1 t2 dd y pc lv st fs i a b
        | none => none)
      | none => ai_s4 s nL w [] k M O T t1 t2 dd y pc lv st fs i a b)
    | none => ai_s4 s nL w [] k M O T t1 t2 dd y pc lv st fs i a b)
theorem ai_s3_e (W : ab_W) (s : Bool) (nL : Nat) (k : ae_K) (M O : List ae_M) (w : ae_Mo) (T : List ab_Ti) (t1 t2 : ap_T) (dd y pc : Nat) (lv : ae_L) (st : List ae_V) (fs : List ap_F) (i : Instr) (a b : Nat) : ai_s3 W s nL k M O w T t1 t2 dd y pc lv st fs i a b = af_s3 W s nL k M O w T t1 t2 dd y pc lv st fs i a b := by
  unfold ai_s3 af_s3
  simp only [ai_s4_e]
noncomputable def ai_s2 (W : ab_W) (s : Bool) (k : ae_K) (M O : List ae_M) (w : ae_Mo) (T : List ab_Ti) (t1 t2 : ap_T) (dd y pc : Nat) (lv : ae_L) (st : List ae_V) (fs : List ap_F) (i : Instr) (a b : Nat) : Option (List ab_St) :=
  match af_a (am_inf y).2.2.1 i a pc with
  | some (p, g) => (match g k lv st with
    | some (lv, st) => some [af_put s k M O w T t1 t2 ((dd, y, p, lv, st) :: fs, none)]
    | none => none)
  | none => bif am_isR i then (match af_rt i (am_inf y).2.2.2 with
      | some g => (match g k st with
        | some v => some [af_put s k M O w T t1 t2 (af_pop v fs)]
        | none => none)
      | none => none)
    else bif am_isC i then (bif ae_sub2 (af_cw W.p y pc i a b k st) W.p.mo then (match ai_ca (af_cw W.p y pc i a b k st, W.p.cts, W.p.sps) s dd y i a b pc k M lv st fs with
      | some l => some (ai_map (ai_so s (ai_len k.2.2.1) O (ab_jn (af_cw W.p y pc i a b k st) w) T t1 t2) l)
      | none => none) else none)
    else ai_s3 W s (am_inf y).2.2.1 k M O w T t1 t2 dd y pc lv st fs i a b
theorem ai_s2_e (W : ab_W) (s : Bool) (k : ae_K) (M O : List ae_M) (w : ae_Mo) (T : List ab_Ti) (t1 t2 : ap_T) (dd y pc : Nat) (lv : ae_L) (st : List ae_V) (fs : List ap_F) (i : Instr) (a b : Nat) : ai_s2 W s k M O w T t1 t2 dd y pc lv st fs i a b = af_s2 W s k M O w T t1 t2 dd y pc lv st fs i a b := by
  unfold ai_s2 af_s2
  simp only [ai_s3_e, ai_ca_e, ai_map_e, ai_len_e, ai_so_e]
noncomputable def ai_t1 (W : ab_W) (s : Bool) (k : ae_K) (M O : List ae_M) (w : ae_Mo) (T : List ab_Ti) (t1 t2 : ap_T) (dd y pc : Nat) (lv : ae_L) (st : List ae_V) (fs : List ap_F) : Option (List ab_St) :=
  match W.p.sps.filter fun q => Nat.beq q.1 y && Nat.beq q.2.1 pc with
  | _ :: _ => ab_stp W s (k, M, O, w, T, t1, t2)
  | [] => (match am_code y pc with
    | some (i, a, b) => bif ai_all (fun a => Bool.rec (motive := fun _ => Bool) true (am_sd ap_b s a.2.1) (Nat.beq a.1 2)) st then ai_s2 W s k M O w T t1 t2 dd y pc lv st fs i a b else none
    | none => none)
theorem ai_t1_e (W : ab_W) (s : Bool) (k : ae_K) (M O : List ae_M) (w : ae_Mo) (T : List ab_Ti) (t1 t2 : ap_T) (dd y pc : Nat) (lv : ae_L) (st : List ae_V) (fs : List ap_F) : ai_t1 W s k M O w T t1 t2 dd y pc lv st fs = af_t1 W s k M O w T t1 t2 dd y pc lv st fs := by
  have h : (fun a : ae_V => Bool.rec (motive := fun _ => Bool) true (am_sd ap_b s a.2.1) (Nat.beq a.1 2)) = fun a => !(Nat.beq a.1 2) || am_sd ap_b s a.2.1 := funext fun a => by cases Nat.beq a.1 2 <;> rfl
  unfold ai_t1 af_t1
  simp only [ai_s2_e, ai_all_e]
  rw [h]
noncomputable def ai_s0 (W : ab_W) (s : Bool) (k : ae_K) (M O : List ae_M) (w : ae_Mo) (T : List ab_Ti) (t1 t2 t : ap_T) : Option (List ab_St) := match t with
  | ([], _) => none
  | ((dd, y, pc, lv, st) :: fs, _) => ai_t1 W s k M O w T t1 t2 dd y pc lv st fs
theorem ai_s0_e (W : ab_W) (s : Bool) (k : ae_K) (M O : List ae_M) (w : ae_Mo) (T : List ab_Ti) (t1 t2 t : ap_T) : ai_s0 W s k M O w T t1 t2 t = af_s0 W s k M O w T t1 t2 t := by
  obtain ⟨l, v⟩ := t
  cases l with
  | nil => rfl
  | cons f fs =>
    obtain ⟨dd, y, pc, lv, st⟩ := f
    exact ai_t1_e W s k M O w T t1 t2 dd y pc lv st fs
theorem af_np_sub {w mo : ae_Mo} (h : ae_sub2 w mo = true) {p a b : Nat} (q : ab_np mo p a b = true) : ab_np w p a b = true := by
  refine List.all_eq_true.mpr fun r hr => ?_
  obtain ⟨s, hs, e⟩ := List.any_eq_true.mp (List.all_eq_true.mp h r hr)
  simp only [Bool.and_eq_true] at e
  have e1 := Nat.eq_of_beq_eq_true e.1.1
  have e2 := ae_le_iff.mp e.1.2
  have e3 := ae_le_iff.mp e.2
  have h4 := List.all_eq_true.mp q s hs
  rcases Bool.or_eq_true_iff.mp h4 with h5 | h5
  · rw [e1, h5]; rfl
  · refine Bool.or_eq_true_iff.mpr (Or.inr ?_)
    rcases Bool.or_eq_true_iff.mp h5 with h6 | h6
    · have h6 := ae_le_iff.mp h6
      exact Bool.or_eq_true_iff.mpr (Or.inl (ae_le_iff.mpr (by omega)))
    · have h6 := ae_le_iff.mp h6
      exact Bool.or_eq_true_iff.mpr (Or.inr (ae_le_iff.mpr (by omega)))
theorem af_nt_sub {w mo : ae_Mo} (h : ae_sub2 w mo = true) {m : Nat} {l : List ab_Tt} (q : ab_nt mo m l = true) : ab_nt w m l = true :=
  List.all_eq_true.mpr fun t ht => af_np_sub h (List.all_eq_true.mp q t ht)
theorem af_nw_sub {w mo : ae_Mo} (h : ae_sub2 w mo = true) {t : ab_Ti} (q : ab_nw mo t = true) : ab_nw w t = true := by
  unfold ab_nw at q ⊢
  simp only [Bool.and_eq_true] at q ⊢
  exact ⟨⟨af_np_sub h q.1.1, af_nt_sub h q.1.2⟩, List.all_eq_true.mpr fun g hg => af_nt_sub h (List.all_eq_true.mp q.2 g hg)⟩
theorem af_all_f {α : Type} {f g : α → Bool} (h : ∀ x, f x = false → g x = true) : ∀ {l : List α}, (l.filter f).all g = l.all g
  | [] => rfl
  | a :: r => by
    cases hf : f a with
    | true => rw [List.filter_cons_of_pos (by exact hf), List.all_cons, List.all_cons, af_all_f h]
    | false => rw [List.filter_cons_of_neg (by rw [hf]; exact Bool.false_ne_true), List.all_cons, af_all_f h, h a hf, Bool.true_and]
noncomputable def af_ric (_ : ae_Mo) (k : ae_K) (M O : List ae_M) (w : ae_Mo) (T T' : List ab_Ti) : Bool := ab_ric2 k M O w T T'
theorem af_ric_eq (mo : ae_Mo) (k : ae_K) (M O : List ae_M) (w : ae_Mo) (T T' : List ab_Ti) : af_ric mo k M O w T T' = ab_ric2 k M O w T T' := rfl
/-- the ties as the meeting point names them -/
noncomputable def af_tT (t : ab_Tm) (κ : List ab_Ti → Bool) : Bool := match t with
  | ((_, _, _, _, T, _, _), _, _) => κ T
theorem af_tT_eq (t : ab_Tm) (κ : List ab_Ti → Bool) : af_tT t κ = κ t.st.T := by
  obtain ⟨⟨k, M, O, w, T, t1, t2⟩, si, rk⟩ := t
  rfl
noncomputable def af_in (t : ab_Tm) (κ : ab_St → Bool) : Bool := match t with
  | ((k, M, _, _, T, t1, t2), _, _) => κ (k, M, M, [], T, t1, t2)
theorem af_in_eq (t : ab_Tm) (κ : ab_St → Bool) : af_in t κ = κ (ab_ini t.st) := by
  obtain ⟨⟨k, M, O, w, T, t1, t2⟩, si, rk⟩ := t
  rfl
noncomputable def af_mt (mo : ae_Mo) (R : Nat) (w0 : ae_X) (k : ae_K) (M O : List ae_M) (w : ae_Mo) (T : List ab_Ti) (t1 t2 : ap_T) (t : ab_Tm) : Bool := af_tT t fun T' => aw_mt (fun k M O => af_ric mo k M O w T T') R w0 k M O w T t1 t2 t
theorem af_mt_eq (mo : ae_Mo) (R : Nat) (w0 : ae_X) (k : ae_K) (M O : List ae_M) (w : ae_Mo) (T : List ab_Ti) (t1 t2 : ap_T) (t : ab_Tm) : af_mt mo R w0 k M O w T t1 t2 t = ab_mt R w0 (k, M, O, w, T, t1, t2) t := by
  have h : (fun (k1 : ae_K) (M1 O1 : List ae_M) => af_ric mo k1 M1 O1 w T t.st.T) = fun k1 M1 O1 => ab_ric2 k1 M1 O1 w T t.st.T := funext fun k1 => funext fun M1 => funext fun O1 => af_ric_eq mo k1 M1 O1 w T t.st.T
  unfold af_mt
  rw [af_tT_eq, h]
  rfl
/-- where a thread stands -/
noncomputable def af_at {α : Type} (t : ap_T) (κ : Nat → Nat → α) : α := match t with
  | ([], _) => κ 1000 0
  | ((_, y, pc, _, _) :: _, _) => κ y pc
noncomputable def af_tq (t : ap_T) (y p : Nat) : Bool := af_at t fun a b => Nat.beq a y && Nat.beq b p
theorem af_ctl_at {f t : ap_T} (q : ab_ctl f.1 t.1 = true) : af_at f (af_tq t) = true := by
  obtain ⟨l, v⟩ := f
  obtain ⟨m, u⟩ := t
  cases l with
  | nil =>
    cases m with
    | nil => rfl
    | cons _ _ => cases q
  | cons a r =>
    cases m with
    | nil => cases q
    | cons b s =>
      obtain ⟨a1, a2, a3, a4, a5⟩ := a
      obtain ⟨b1, b2, b3, b4, b5⟩ := b
      obtain ⟨q1, q⟩ := ai_bif (show (bif Nat.beq a2 b2 then (bif Nat.beq a3 b3 then (bif ab_ctl r s then ai_all (ab_qk a4) b4 else false) else false) else false) = true from q)
      have e1 := Nat.eq_of_beq_eq_true q1
      have e2 := Nat.eq_of_beq_eq_true (ai_bif q).1
      subst e1
      subst e2
      show (Nat.beq a2 a2 && Nat.beq a3 a3) = true
      rw [Nat.beq_refl, Nat.beq_refl]
      rfl
theorem af_any_imp {α : Type} {f g : α → Bool} (h : ∀ x, g x = true → f x = true) {l : List α} : (l.filter f).any g = l.any g := by
  rw [af_any_f]
  congr 1
  funext x
  cases hg : g x with
  | true => rw [h x hg]; rfl
  | false => cases f x <;> rfl
noncomputable def ai_tms (tms : List ab_Tm) (y p : Nat) : List ab_Tm := ai_flt (fun t => af_tq t.st.t1 y p) tms
noncomputable def af_tms (tms : List ab_Tm) (y1 p1 y2 p2 : Nat) : List ab_Tm := ai_flt (fun t => af_tq t.st.t2 y2 p2) (ai_tms tms y1 p1)
noncomputable def af_fit (tms : List ab_Tm) (mo : ae_Mo) (R : Nat) (w0 : ae_X) (k : ae_K) (M O : List ae_M) (w : ae_Mo) (T : List ab_Ti) (t1 t2 : ap_T) : Bool :=
  af_at t1 fun y1 p1 => af_at t2 fun y2 p2 => (af_tms tms y1 p1 y2 p2).any (af_mt mo R w0 k M O w T t1 t2)
theorem af_fit_eq (tms : List ab_Tm) (mo : ae_Mo) (R : Nat) (w0 : ae_X) (k : ae_K) (M O : List ae_M) (w : ae_Mo) (T : List ab_Ti) (t1 t2 : ap_T) : af_fit tms mo R w0 k M O w T t1 t2 = tms.any (ab_mt R w0 (k, M, O, w, T, t1, t2)) := by
  have hm : (fun t => af_mt mo R w0 k M O w T t1 t2 t) = ab_mt R w0 (k, M, O, w, T, t1, t2) := funext fun t => af_mt_eq mo R w0 k M O w T t1 t2 t
  have im : ∀ t : ab_Tm, ab_mt R w0 (k, M, O, w, T, t1, t2) t = true → ab_ctl t1.1 t.st.t1.1 = true ∧ ab_ctl t2.1 t.st.t2.1 = true := by
    intro t q
    unfold ab_mt aw_mt at q
    obtain ⟨hb, -⟩ := aw_bif q
    simp only [Bool.and_eq_true] at hb
    exact ⟨hb.1.1.1.2, hb.1.1.2⟩
  unfold af_fit
  obtain ⟨l1, v1⟩ := t1
  obtain ⟨l2, v2⟩ := t2
  have fin : ∀ y1 p1 y2 p2, (∀ t : ap_T, af_at (l1, v1) (af_tq t) = af_tq t y1 p1) → (∀ t : ap_T, af_at (l2, v2) (af_tq t) = af_tq t y2 p2) → (af_tms tms y1 p1 y2 p2).any (af_mt mo R w0 k M O w T (l1, v1) (l2, v2)) = tms.any (ab_mt R w0 (k, M, O, w, T, (l1, v1), (l2, v2))) := by
    intro y1 p1 y2 p2 h1 h2
    rw [show af_mt mo R w0 k M O w T (l1, v1) (l2, v2) = ab_mt R w0 (k, M, O, w, T, (l1, v1), (l2, v2)) from hm]
    unfold af_tms ai_tms
    rw [ai_flt_e, ai_flt_e, af_any_imp (fun t q => ?_), af_any_imp (fun t q => ?_)]
    · obtain ⟨q1, q2⟩ := im t q
      rw [← h1, af_ctl_at q1]
    · obtain ⟨q1, q2⟩ := im t q
      rw [← h2, af_ctl_at q2]
  cases l1 with
  | nil =>
    cases l2 with
    | nil => exact fin 1000 0 1000 0 (fun _ => rfl) (fun _ => rfl)
    | cons f2 r2 =>
      obtain ⟨a2, b2, c2, d2, e2⟩ := f2
      exact fin 1000 0 b2 c2 (fun _ => rfl) (fun _ => rfl)
  | cons f1 r1 =>
    obtain ⟨a1, b1, c1, d1, e1⟩ := f1
    cases l2 with
    | nil => exact fin b1 c1 1000 0 (fun _ => rfl) (fun _ => rfl)
    | cons f2 r2 =>
      obtain ⟨a2, b2, c2, d2, e2⟩ := f2
      exact fin b1 c1 b2 c2 (fun _ => rfl) (fun _ => rfl)
/-! the walk -/
noncomputable def af_w (W : ab_W) (t : ap_T) : Bool := match t with
  | ([], _) => true
  | ((_, y, pc, _, _) :: _, _) => W.wt y pc
theorem af_w_eq (W : ab_W) (t : ap_T) : af_w W t = ab_w W t := by
  obtain ⟨l, v⟩ := t
  cases l with
  | nil => rfl
  | cons f r => rfl
noncomputable def af_all (f : ab_St → Bool) (l : List ab_St) : Bool := List.rec (motive := fun _ => Bool) true (fun h _ r => bif f h then r else false) l
theorem af_all_eq (f : ab_St → Bool) : ∀ l : List ab_St, af_all f l = l.all f
  | [] => rfl
  | h :: r => by
    rw [List.all_cons, ← af_all_eq f r]
    show (bif f h then af_all f r else false) = _
    cases f h <;> rfl
noncomputable def af_al' (f : ab_St → Bool) (o : Option (List ab_St)) : Bool := match o with
  | some l => af_all f l
  | none => false
theorem af_al'_eq (f : ab_St → Bool) (o : Option (List ab_St)) : af_al' f o = ab_al f o := by
  cases o with
  | none => rfl
  | some l => exact af_all_eq f l
/-- the ties, by their name if they are those -/
noncomputable def af_nT (C T : List ab_Ti) (κ : List ab_Ti → Bool) : Bool := bif ab_ql ab_qt T C then κ C else κ T
theorem af_nT_eq (C T : List ab_Ti) (κ : List ab_Ti → Bool) : af_nT C T κ = κ T := by
  unfold af_nT
  cases h : ab_ql ab_qt T C with
  | false => rfl
  | true =>
    have e := ab_ql_ok ab_qt_ok h
    subst e
    rfl
noncomputable def af_nz (C : List ab_Ti) (g : ab_St → Bool) (z : ab_St) : Bool := match z with
  | (k, M, O, w, T, t1, t2) => af_nT C T fun T => g (k, M, O, w, T, t1, t2)
theorem af_nz_eq (C : List ab_Ti) (g : ab_St → Bool) : af_nz C g = g := by
  funext z
  obtain ⟨k, M, O, w, T, t1, t2⟩ := z
  exact af_nT_eq C T (fun T => g (k, M, O, w, T, t1, t2))
abbrev af_Hq : Type := Bool → Bool → Nat → Nat → Nat → Nat → Bool
noncomputable def af_hq (hq : af_Hq) (f1 f2 : Bool) (t1 t2 : ap_T) : Bool := af_at t1 fun y1 p1 => af_at t2 fun y2 p2 => hq f1 f2 y1 p1 y2 p2
noncomputable def af_hqok (W : ab_W) (hq : af_Hq) : Prop := ∀ f1 f2 z, W.hf f1 f2 z = true → af_hq hq f1 f2 z.t1 z.t2 = true
noncomputable def af_b (W : ab_W) (hq : af_Hq) (C : List ab_Ti) (w0 : ae_X) (ih : ab_Go) (f1 f2 nh : Bool) (k : ae_K) (M O : List ae_M) (w : ae_Mo) (T : List ab_Ti) (t1 t2 : ap_T) : Bool :=
  bif (bif nh then false else (bif af_hq hq f1 f2 t1 t2 then W.hf f1 f2 (k, M, O, w, T, t1, t2) else false)) then af_al' (af_nz C (ih f1 f2 true)) (W.hk (k, M, O, w, T, t1, t2))
  else bif (bif f1 then false else af_w W t1) then
    (bif (bif f2 then false else af_w W t2) then af_fit W.tms W.mo W.r w0 k M O w T t1 t2 || (match W.ov (k, M, O, w, T, t1, t2) with
      | some b => ih b.1 b.2 true (k, M, O, w, T, t1, t2)
      | none => false)
    else af_al' (ih f1 false false) (ai_s0 W true k M O w T t1 t2 t2))
  else af_al' (ih false f2 false) (ai_s0 W false k M O w T t1 t2 t1)
noncomputable def af_g1 (W : ab_W) (hq : af_Hq) (C : List ab_Ti) (w0 : ae_X) (ih : ab_Go) : ab_Go := fun f1 f2 nh z => match z with
  | (k, M, O, w, T, t1, t2) => af_b W hq C w0 ih f1 f2 nh k M O w T t1 t2
noncomputable def af_go (W : ab_W) (hq : af_Hq) (C : List ab_Ti) (w0 : ae_X) (n : Nat) : ab_Go :=
  Nat.rec (motive := fun _ => ab_Go) (fun _ _ _ _ => false) (fun _ ih => af_g1 W hq C w0 ih) n
theorem af_g1_eq {W : ab_W} {hq : af_Hq} (h : af_hqok W hq) (C : List ab_Ti) (w0 : ae_X) (ih : ab_Go) (f1 f2 nh : Bool) (z : ab_St) : af_g1 W hq C w0 ih f1 f2 nh z = ab_g1 W w0 ih f1 f2 nh z := by
  obtain ⟨k, M, O, w, T, t1, t2⟩ := z
  show af_b W hq C w0 ih f1 f2 nh k M O w T t1 t2 = _
  unfold af_b ab_g1
  rw [af_nz_eq]
  have h1 : (bif nh then false else (bif af_hq hq f1 f2 t1 t2 then W.hf f1 f2 (k, M, O, w, T, t1, t2) else false)) = (!nh && W.hf f1 f2 (k, M, O, w, T, t1, t2)) := by
    cases nh with
    | true => rfl
    | false =>
      show (bif af_hq hq f1 f2 t1 t2 then W.hf f1 f2 (k, M, O, w, T, t1, t2) else false) = W.hf f1 f2 (k, M, O, w, T, t1, t2)
      cases hh : W.hf f1 f2 (k, M, O, w, T, t1, t2) with
      | true => rw [show af_hq hq f1 f2 t1 t2 = true from h f1 f2 _ hh]; rfl
      | false => cases af_hq hq f1 f2 t1 t2 <;> rfl
  have h2 : (bif f1 then false else af_w W t1) = (!f1 && ab_w W t1) := by rw [af_w_eq]; cases f1 <;> rfl
  have h3 : (bif f2 then false else af_w W t2) = (!f2 && ab_w W t2) := by rw [af_w_eq]; cases f2 <;> rfl
  have h4 : ai_s0 W true k M O w T t1 t2 t2 = ab_stp W true (k, M, O, w, T, t1, t2) := (ai_s0_e W true k M O w T t1 t2 t2).trans (af_s0_eq W true k M O w T t1 t2)
  have h5 : ai_s0 W false k M O w T t1 t2 t1 = ab_stp W false (k, M, O, w, T, t1, t2) := (ai_s0_e W false k M O w T t1 t2 t1).trans (af_s0_eq W false k M O w T t1 t2)
  rw [h1, h2, h3, h4, h5, af_fit_eq, af_al'_eq, af_al'_eq, af_al'_eq]
  rfl
theorem af_go_eq {W : ab_W} {hq : af_Hq} (h : af_hqok W hq) (C : List ab_Ti) (w0 : ae_X) : ∀ n : Nat, af_go W hq C w0 n = ab_go W w0 n
  | 0 => rfl
  | n + 1 => by
    funext f1 f2 nh z
    show af_g1 W hq C w0 (af_go W hq C w0 n) f1 f2 nh z = ab_g1 W w0 (ab_go W w0 n) f1 f2 nh z
    rw [af_go_eq h C w0 n]
    exact af_g1_eq h C w0 _ f1 f2 nh z
noncomputable def af_chk (W : ab_W) (hq : af_Hq) (n : Nat) (f1 f2 : Bool) (t : ab_Tm) : Bool := ab_nl t.st.w && ae_wb t.st.k.1 t.rk.2 && af_tT t fun C => af_in t (af_go W hq C t.rk n f1 f2 false)
theorem af_ck {W : ab_W} {hq : af_Hq} (h : af_hqok W hq) {n : Nat} {f1 f2 : Bool} {t : ab_Tm} (q : af_chk W hq n f1 f2 t = true) : ab_chk W n f1 f2 t = true := by
  unfold af_chk at q
  rw [af_tT_eq, af_go_eq h, af_in_eq] at q
  exact q
noncomputable def af_h1 : af_Hq := fun _ _ _ _ _ _ => true
theorem af_h1_ok {W : ab_W} : af_hqok W af_h1 := by
  intro f1 f2 z _
  obtain ⟨k, M, O, w, T, ⟨l1, v1⟩, ⟨l2, v2⟩⟩ := z
  cases l1 <;> cases l2 <;> rfl
