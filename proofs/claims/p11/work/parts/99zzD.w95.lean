/-! The fast walk: the step -/
noncomputable def bf_ld (T : List bb_Ti) (w : ae_Mo) (k : ae_K) (M O : List ae_M) (p : Nat) (e0 e : ae_X) : Option bb_Lz :=
  match ae_fd M p e with
  | some _ => some (k, M, O)
  | none => (match bb_fa k M p e with
    | some m => some (k, (p, e, m.2.2.1, false) :: M, O)
    | none => bif bb_ou k w p e then (match bb_fa k O p e with
        | some m => some (k, (p, e, m.2.2.1, false) :: M, O)
        | none => bb_lt T w p e (bb_tpe T p e) (k, M, O))
      else bb_l0 [] w k M O p e0)
theorem bf_ld_eq (T : List bb_Ti) (w : ae_Mo) (k : ae_K) (M O : List ae_M) (p : Nat) (e : ae_X) : bf_ld T w k M O p e (ae_nr k e) = bb_ld T w k M O p e := rfl
noncomputable def bf_put (s : Bool) (k : ae_K) (M O : List ae_M) (w : ae_Mo) (T : List bb_Ti) (t1 t2 th : ap_T) : bb_St := bif s then (k, M, O, w, T, t1, th) else (k, M, O, w, T, th, t2)
noncomputable def bf_ss (s : Bool) (n : Nat) (O : List ae_M) (w : ae_Mo) (T : List bb_Ti) (t1 t2 : ap_T) (dd y : Nat) (fs : List ap_F) (r : ae_R) : bb_St := match r with
  | (pc, k, M, lv, st) => bf_put s (ap_kd n k) M O w T t1 t2 ((dd, y, pc, lv, st) :: fs, none)
noncomputable def bf_so2 (s : Bool) (n : Nat) (O : List ae_M) (w : ae_Mo) (T : List bb_Ti) (t1 t2 : ap_T) (o : ap_O) : bb_St := match o with
  | (k, M, th) => bf_put s (ap_kd n k) M O w T t1 t2 th
noncomputable def bf_pop (v : Option ae_V) (fs : List ap_F) : ap_T := match fs with
  | [] => ([], v)
  | (d, y, pc, lv, st) :: r => ((d, y, pc, lv, (match v with
    | some x => x :: st
    | none => st)) :: r, none)
theorem bf_pop_eq (v : Option ae_V) (fs : List ap_F) : bf_pop v fs = ap_pop v fs := by
  cases fs with
  | nil => rfl
  | cons f r => cases v <;> rfl
noncomputable def bf_nx (dd y : Nat) (fs : List ap_F) (z : ae_R) : ap_O := match z with
  | (pc, k, M, lv, st) => (k, M, ((dd, y, pc, lv, st) :: fs, none))
noncomputable def bf_ca (P : ap_P) (s : Bool) (dd y : Nat) (i : Instr) (a b pc : Nat) (k : ae_K) (M : List ae_M) (lv : ae_L) (st : List ae_V) (fs : List ap_F) : Option (List ap_O) :=
  bif Nat.ble 1000 a then (bif Nat.ble 1 dd && Nat.ble (ae_cats st) 16 then (ae_sy false P.mo a pc k M lv st).bind fun l => some (l.map (bf_nx dd y fs)) else none)
  else match dd with
    | 0 => none
    | e + 1 => bif Nat.ble (am_pop i b) st.length && Nat.ble (ae_cats (st.drop (am_pop i b))) 8 && af_rcv i (st.take (am_pop i b)).reverse (am_inf a).1 && Nat.ble (ae_cats (st.take (am_pop i b))) (am_inf a).2.2.1 then
      (match P.cts.find? fun c => Nat.beq c.1 a && ae_fas k c.2.1 (st.take (am_pop i b)).reverse with
        | some c => bif Nat.ble c.2.2.2.2.2.2.2 e && c.2.2.2.1.all (fun r => am_sd ap_b s r.1) then
            (ae_cc false P.mo c (fun _ _ => true) (pc + 3) k (ap_own1 s M) lv (st.drop (am_pop i b))).bind fun l =>
              bif l.all (fun z => z.2.2.1.all fun m => am_sd ap_b s m.1) then some (l.map fun z => bf_nx (e + 1) y fs (z.1, z.2.1, z.2.2.1 ++ ap_oth1 s M, z.2.2.2)) else none
            else none
        | none => some [(k, M, ((e, a, 0, ae_ag2 0 (st.take (am_pop i b)).reverse, []) :: (e + 1, y, pc + 3, lv, st.drop (am_pop i b)) :: fs, none))])
      else none
theorem bf_ca_eq (P : ap_P) (s : Bool) (dd y : Nat) (i : Instr) (a b pc : Nat) (k : ae_K) (M : List ae_M) (lv : ae_L) (st : List ae_V) (fs : List ap_F) : bf_ca P s dd y i a b pc k M lv st fs = ap_ca false P s dd y i a b pc k M lv st fs := by
  unfold bf_ca
  rw [af_rcv_eq]
  cases dd <;> rfl
/-- the step of an instruction that is found -/
noncomputable def bf_s4 (s : Bool) (nL : Nat) (w1 : ae_Mo) (mo : ae_Mo) (k : ae_K) (M O : List ae_M) (T : List bb_Ti) (t1 t2 : ap_T) (dd y pc : Nat) (lv : ae_L) (st : List ae_V) (fs : List ap_F) (i : Instr) (a b : Nat) : Option (List bb_St) :=
  match af_sp nL i a b pc with
  | some f => (match f mo k M lv st with
    | some l => some (l.map (bf_ss s k.2.2.1.length O w1 T t1 t2 dd y fs))
    | none => none)
  | none => none
noncomputable def bf_s3 (W : bb_W) (s : Bool) (nL : Nat) (k : ae_K) (M O : List ae_M) (w : ae_Mo) (T : List bb_Ti) (t1 t2 : ap_T) (dd y pc : Nat) (lv : ae_L) (st : List ae_V) (fs : List ap_F) (i : Instr) (a b : Nat) : Option (List bb_St) :=
  match bf_wr i b with
  | some g => bif ae_sub2 (g k st) W.p.mo then bf_s4 s nL (bb_jn (g k st) w) (g k st) k M O T t1 t2 dd y pc lv st fs i a b else none
  | none => (match bf_lk i a b with
    | some g => (match g k st with
      | some (p, e) => af_pl p fun p => (match bf_ld T w k M O p e (ae_nr k e) with
        | some (k, M, O) => bf_s4 s nL w [] k M O T t1 t2 dd y pc lv st fs i a b
        | none => none)
      | none => bf_s4 s nL w [] k M O T t1 t2 dd y pc lv st fs i a b)
    | none => bf_s4 s nL w [] k M O T t1 t2 dd y pc lv st fs i a b)
noncomputable def bf_s2 (W : bb_W) (s : Bool) (k : ae_K) (M O : List ae_M) (w : ae_Mo) (T : List bb_Ti) (t1 t2 : ap_T) (dd y pc : Nat) (lv : ae_L) (st : List ae_V) (fs : List ap_F) (i : Instr) (a b : Nat) : Option (List bb_St) :=
  match af_a (am_inf y).2.2.1 i a pc with
  | some (p, g) => (match g k lv st with
    | some (lv, st) => some [bf_put s k M O w T t1 t2 ((dd, y, p, lv, st) :: fs, none)]
    | none => none)
  | none => bif am_isR i then (match af_rt i (am_inf y).2.2.2 with
      | some g => (match g k st with
        | some v => some [bf_put s k M O w T t1 t2 (bf_pop v fs)]
        | none => none)
      | none => none)
    else bif am_isC i then (bif ae_sub2 (bf_cw W.p y pc i a b k st) W.p.mo then (match bf_ca (bf_cw W.p y pc i a b k st, W.p.cts, W.p.sps) s dd y i a b pc k M lv st fs with
      | some l => some (l.map (bf_so2 s k.2.2.1.length O (bb_jn (bf_cw W.p y pc i a b k st) w) T t1 t2))
      | none => none) else none)
    else bf_s3 W s (am_inf y).2.2.1 k M O w T t1 t2 dd y pc lv st fs i a b
noncomputable def bf_t1 (W : bb_W) (s : Bool) (k : ae_K) (M O : List ae_M) (w : ae_Mo) (T : List bb_Ti) (t1 t2 : ap_T) (dd y pc : Nat) (lv : ae_L) (st : List ae_V) (fs : List ap_F) : Option (List bb_St) :=
  match W.p.sps.filter fun q => Nat.beq q.1 y && Nat.beq q.2.1 pc with
  | _ :: _ => bb_stp W s (k, M, O, w, T, t1, t2)
  | [] => (match am_code y pc with
    | some (i, a, b) => bif st.all (fun a => !(Nat.beq a.1 2) || am_sd ap_b s a.2.1) then bf_s2 W s k M O w T t1 t2 dd y pc lv st fs i a b else none
    | none => none)
noncomputable def bf_s0 (W : bb_W) (s : Bool) (k : ae_K) (M O : List ae_M) (w : ae_Mo) (T : List bb_Ti) (t1 t2 t : ap_T) : Option (List bb_St) := match t with
  | ([], _) => none
  | ((dd, y, pc, lv, st) :: fs, _) => bf_t1 W s k M O w T t1 t2 dd y pc lv st fs
noncomputable def bf_sx (W : bb_W) (s : Bool) (f : ap_F) (fs : List ap_F) (z : bb_St) : Option (List bb_St) := (bb_ps (W.p.sps.filter fun q => Nat.beq q.1 f.2.1 && Nat.beq q.2.1 f.2.2.1) z).bind fun z0 => (bb_pl z0 f).bind fun z1 =>
    bif ae_sub2 (bb_wr W.p f z1.k) W.p.mo then (ap_s2 false (bb_wr W.p f z1.k, W.p.cts, W.p.sps) s f fs z1.k z1.m).bind fun l => some (l.map (bb_mk s z1.k.2.2.1.length (bb_wr W.p f z1.k) z1)) else none
theorem bf_kd0 (k : ae_K) : ap_kd k.2.2.1.length k = k := by
  unfold ap_kd
  rw [Nat.beq_refl]
  rfl
theorem bf_a_ok {nL a b pc p : Nat} {i : Instr} {g : af_An} (q : af_a nL i a pc = some (p, g)) : bf_lk i a b = none ∧ bf_wr i b = none ∧ am_isR i = false ∧ am_isC i = false ∧ ∀ (mo : ae_Mo) (k : ae_K) (M : List ae_M) (lv : ae_L) (st : List ae_V), ae_sp false mo nL i a b pc k M lv st = af_ou p k M (g k lv st) := by
  obtain ⟨h1, h2, h3⟩ := af_a_sp (b := b) q
  refine ⟨?_, ?_, h1, h2, h3 false⟩
  · cases i <;> first
      | rfl
      | (cases q; done)
  · cases i <;> first
      | rfl
      | (cases q; done)
theorem bf_R_ok {i : Instr} {a b : Nat} (q : am_isR i = true) : bf_lk i a b = none ∧ bf_wr i b = none ∧ am_isC i = false := by
  cases i <;> first
    | exact ⟨rfl, rfl, rfl⟩
    | (cases q; done)
theorem bf_C_ok {i : Instr} {a b : Nat} (q : am_isC i = true) : bf_lk i a b = none ∧ bf_wr i b = none := by
  cases i <;> first
    | exact ⟨rfl, rfl⟩
    | (cases q; done)
theorem bf_wr_lk {i : Instr} {a b : Nat} {g : ae_K → List ae_V → ae_Mo} (q : bf_wr i b = some g) : bf_lk i a b = none := by
  cases i <;> first
    | rfl
    | (cases q; done)
theorem bf_s4_eq (s : Bool) (nL : Nat) (w mo : ae_Mo) (k : ae_K) (M O : List ae_M) (T : List bb_Ti) (t1 t2 : ap_T) (dd y pc : Nat) (lv : ae_L) (st : List ae_V) (fs : List ap_F) (i : Instr) (a b : Nat) :
    bf_s4 s nL (bb_jn mo w) mo k M O T t1 t2 dd y pc lv st fs i a b = ((ae_sp false mo nL i a b pc k M lv st).bind fun l => some (l.map (ap_nx dd y fs))).bind fun l => some (l.map (bb_mk s k.2.2.1.length mo (k, M, O, w, T, t1, t2))) := by
  rw [← af_sp_ok]
  unfold bf_s4
  cases af_sp nL i a b pc with
  | none => rfl
  | some f =>
    show (match f mo k M lv st with
      | some l => some (l.map (bf_ss s k.2.2.1.length O (bb_jn mo w) T t1 t2 dd y fs))
      | none => none) = ((f mo k M lv st).bind _).bind _
    cases f mo k M lv st with
    | none => rfl
    | some l =>
      show some (l.map _) = some ((l.map _).map _)
      rw [List.map_map]
      refine congrArg some (List.map_congr_left fun r _ => ?_)
      obtain ⟨r1, r2, r3, r4, r5⟩ := r
      cases s <;> rfl
theorem bf_t1_eq {W : bb_W} {s : Bool} {k : ae_K} {M O : List ae_M} {w : ae_Mo} {T : List bb_Ti} {t1 t2 : ap_T} {dd y pc : Nat} {lv : ae_L} {st : List ae_V} {fs : List ap_F} (hfs : (bif s then t2 else t1).1 = (dd, y, pc, lv, st) :: fs) :
    bf_t1 W s k M O w T t1 t2 dd y pc lv st fs = bb_stp W s (k, M, O, w, T, t1, t2) := by
  have e : bb_stp W s (k, M, O, w, T, t1, t2) = (match (bif s then t2 else t1).1 with
    | [] => none
    | f :: fs => bf_sx W s f fs (k, M, O, w, T, t1, t2)) := rfl
  unfold bf_t1
  cases hsp : W.p.sps.filter (fun q => Nat.beq q.1 y && Nat.beq q.2.1 pc) with
  | cons _ _ => rfl
  | nil =>
    have e0 : bb_stp W s (k, M, O, w, T, t1, t2) = (bb_pl (k, M, O, w, T, t1, t2) (dd, y, pc, lv, st)).bind fun z1 => bif ae_sub2 (bb_wr W.p (dd, y, pc, lv, st) z1.k) W.p.mo then (ap_s2 false (bb_wr W.p (dd, y, pc, lv, st) z1.k, W.p.cts, W.p.sps) s (dd, y, pc, lv, st) fs z1.k z1.m).bind fun l => some (l.map (bb_mk s z1.k.2.2.1.length (bb_wr W.p (dd, y, pc, lv, st) z1.k) z1)) else none := by
      rw [e, hfs]
      show (bb_ps (W.p.sps.filter fun q => Nat.beq q.1 y && Nat.beq q.2.1 pc) (k, M, O, w, T, t1, t2)).bind _ = _
      rw [hsp]
      rfl
    have s2E : ∀ (mo : ae_Mo) (k : ae_K) (M : List ae_M), ap_s2 false (mo, W.p.cts, W.p.sps) s (dd, y, pc, lv, st) fs k M = ap_s1 false (mo, W.p.cts, W.p.sps) s (dd, y, pc, lv, st) fs k M := by
      intro mo k M
      show (match W.p.sps.filter fun q => Nat.beq q.1 y && Nat.beq q.2.1 pc with
        | [] => ap_s1 false (mo, W.p.cts, W.p.sps) s (dd, y, pc, lv, st) fs k M
        | z :: r => (ae_sx false st (z :: r) k M).bind (ae_cat fun q => ap_s1 false (mo, W.p.cts, W.p.sps) s (dd, y, pc, lv, st) fs q.1 q.2)) = _
      rw [hsp]
    cases hc : am_code y pc with
    | none =>
      have c0 : bb_cell k (dd, y, pc, lv, st) = none := by
        unfold bb_cell
        rw [show am_code (dd, y, pc, lv, st).2.1 (dd, y, pc, lv, st).2.2.1 = none from hc]
      have c1 : bb_pl (k, M, O, w, T, t1, t2) (dd, y, pc, lv, st) = some (k, M, O, w, T, t1, t2) := by
        unfold bb_pl
        rw [show bb_cell (bb_St.k (k, M, O, w, T, t1, t2)) (dd, y, pc, lv, st) = none from c0]
      have c2 : ∀ (mo : ae_Mo) (k : ae_K) (M : List ae_M), ap_s1 false (mo, W.p.cts, W.p.sps) s (dd, y, pc, lv, st) fs k M = none := by
        intro mo k M
        show (am_code y pc).bind _ = none
        rw [hc]
        rfl
      rw [e0, c1]
      show none = (bif _ then (ap_s2 _ _ _ _ _ _ _).bind _ else none)
      rw [s2E, c2]
      cases ae_sub2 _ _ <;> rfl
    | some q =>
      obtain ⟨i, a, b⟩ := q
      have cellE : ∀ k, bb_cell k (dd, y, pc, lv, st) = (match bf_lk i a b with
          | some g => g k st
          | none => none) := by
        intro k
        show (match am_code y pc with
          | some q => (match q.1 with
            | .getfield _ => bb_gfl q.2.1 q.2.2 st
            | .iaload => bb_ra k st
            | .baload => bb_ra k st
            | .laload => bb_ra k st
            | _ => none)
          | none => none) = _
        rw [hc]
        cases i <;> rfl
      have wrE : ∀ k, bb_wr W.p (dd, y, pc, lv, st) k = (match bf_wr i b with
          | some g => g k st
          | none => bif am_isC i then bf_cw W.p y pc i a b k st else []) := by
        intro k
        unfold bb_wr
        rw [show am_code (dd, y, pc, lv, st).2.1 (dd, y, pc, lv, st).2.2.1 = some (i, a, b) from hc]
        cases i <;> rfl
      have s1E : ∀ (mo : ae_Mo) (k : ae_K) (M : List ae_M), ap_s1 false (mo, W.p.cts, W.p.sps) s (dd, y, pc, lv, st) fs k M = bif st.all (fun a => !(Nat.beq a.1 2) || am_sd ap_b s a.2.1) then
          (bif am_isR i then (ae_re i (am_inf y).2.2.2 k M st).bind fun l => some (l.map fun o => (o.1, o.2.1, ap_pop o.2.2 fs))
          else bif am_isC i then ap_ca false (mo, W.p.cts, W.p.sps) s dd y i a b pc k M lv st fs
          else (ae_sp false mo (am_inf y).2.2.1 i a b pc k M lv st).bind fun l => some (l.map (ap_nx dd y fs))) else none := by
        intro mo k M
        show (am_code y pc).bind _ = _
        rw [hc]
        rfl
      rw [e0]
      show (bif st.all (fun a => !(Nat.beq a.1 2) || am_sd ap_b s a.2.1) then bf_s2 W s k M O w T t1 t2 dd y pc lv st fs i a b else none) = _
      cases hall : st.all (fun a => !(Nat.beq a.1 2) || am_sd ap_b s a.2.1) with
      | false =>
        rw [hall] at s1E
        show none = _
        cases bb_pl (k, M, O, w, T, t1, t2) (dd, y, pc, lv, st) with
        | none => rfl
        | some z1 =>
          show none = (bif _ then (ap_s2 _ _ _ _ _ _ _).bind _ else none)
          rw [s2E, s1E]
          cases ae_sub2 _ _ <;> rfl
      | true =>
        rw [hall] at s1E
        -- nothing is looked at, nothing of the kind is written
        have pl0 : bf_lk i a b = none → bb_pl (k, M, O, w, T, t1, t2) (dd, y, pc, lv, st) = some (k, M, O, w, T, t1, t2) := by
          intro h
          unfold bb_pl
          rw [show bb_cell (bb_St.k (k, M, O, w, T, t1, t2)) (dd, y, pc, lv, st) = none by rw [cellE, h]]
        show bf_s2 W s k M O w T t1 t2 dd y pc lv st fs i a b = _
        unfold bf_s2
        cases hA : af_a (am_inf y).2.2.1 i a pc with
        | some q =>
          obtain ⟨p, g⟩ := q
          obtain ⟨a1, a2, a3, a4, a5⟩ := bf_a_ok (b := b) hA
          have w0 : ∀ k, bb_wr W.p (dd, y, pc, lv, st) k = [] := by intro k; rw [wrE, a2, a4]; rfl
          rw [pl0 a1]
          show _ = (bif ae_sub2 (bb_wr W.p (dd, y, pc, lv, st) k) W.p.mo then (ap_s2 false (bb_wr W.p (dd, y, pc, lv, st) k, W.p.cts, W.p.sps) s (dd, y, pc, lv, st) fs k M).bind fun l => some (l.map (bb_mk s k.2.2.1.length (bb_wr W.p (dd, y, pc, lv, st) k) (k, M, O, w, T, t1, t2))) else none)
          rw [w0, s2E, s1E, a3, a4]
          show _ = ((ae_sp false [] (am_inf y).2.2.1 i a b pc k M lv st).bind _).bind _
          rw [a5]
          show (match g k lv st with
            | some (lv, st) => some [bf_put s k M O w T t1 t2 ((dd, y, p, lv, st) :: fs, none)]
            | none => none) = _
          cases g k lv st with
          | none => rfl
          | some r =>
            obtain ⟨lv', st'⟩ := r
            show some [bf_put s k M O w T t1 t2 ((dd, y, p, lv', st') :: fs, none)] = some [bb_mk s k.2.2.1.length [] (k, M, O, w, T, t1, t2) (k, M, ((dd, y, p, lv', st') :: fs, none))]
            unfold bb_mk
            rw [show ap_kd k.2.2.1.length ((k, M, ((dd, y, p, lv', st') :: fs, none)) : ap_O).1 = k from bf_kd0 k]
            rfl
        | none =>
          show (bif am_isR i then (match af_rt i (am_inf y).2.2.2 with
              | some g => (match g k st with
                | some v => some [bf_put s k M O w T t1 t2 (bf_pop v fs)]
                | none => none)
              | none => none)
            else bif am_isC i then (bif ae_sub2 (bf_cw W.p y pc i a b k st) W.p.mo then (match bf_ca (bf_cw W.p y pc i a b k st, W.p.cts, W.p.sps) s dd y i a b pc k M lv st fs with
              | some l => some (l.map (bf_so2 s k.2.2.1.length O (bb_jn (bf_cw W.p y pc i a b k st) w) T t1 t2))
              | none => none) else none)
            else bf_s3 W s (am_inf y).2.2.1 k M O w T t1 t2 dd y pc lv st fs i a b) = _
          cases hR : am_isR i with
          | true =>
            rw [hR] at s1E
            obtain ⟨a1, a2, a4⟩ := bf_R_ok (a := a) (b := b) hR
            have w0 : ∀ k, bb_wr W.p (dd, y, pc, lv, st) k = [] := by intro k; rw [wrE, a2, a4]; rfl
            rw [pl0 a1]
            show _ = (bif ae_sub2 (bb_wr W.p (dd, y, pc, lv, st) k) W.p.mo then (ap_s2 false (bb_wr W.p (dd, y, pc, lv, st) k, W.p.cts, W.p.sps) s (dd, y, pc, lv, st) fs k M).bind fun l => some (l.map (bb_mk s k.2.2.1.length (bb_wr W.p (dd, y, pc, lv, st) k) (k, M, O, w, T, t1, t2))) else none)
            rw [w0, s2E, s1E]
            show _ = ((ae_re i (am_inf y).2.2.2 k M st).bind _).bind _
            rw [← af_rt_ok]
            show (match af_rt i (am_inf y).2.2.2 with
              | some g => (match g k st with
                | some v => some [bf_put s k M O w T t1 t2 (bf_pop v fs)]
                | none => none)
              | none => none) = _
            cases af_rt i (am_inf y).2.2.2 with
            | none => rfl
            | some g =>
              show (match g k st with
                | some v => some [bf_put s k M O w T t1 t2 (bf_pop v fs)]
                | none => none) = ((match g k st with
                | some v => some [(k, M, v)]
                | none => none).bind _).bind _
              cases g k st with
              | none => rfl
              | some v =>
                show some [bf_put s k M O w T t1 t2 (bf_pop v fs)] = some [bb_mk s k.2.2.1.length [] (k, M, O, w, T, t1, t2) (k, M, ap_pop v fs)]
                unfold bb_mk
                rw [show ap_kd k.2.2.1.length ((k, M, ap_pop v fs) : ap_O).1 = k from bf_kd0 k, bf_pop_eq]
                rfl
          | false =>
            rw [hR] at s1E
            cases hC : am_isC i with
            | true =>
              rw [hC] at s1E wrE
              obtain ⟨a1, a2⟩ := bf_C_ok (a := a) (b := b) hC
              have w0 : ∀ k, bb_wr W.p (dd, y, pc, lv, st) k = bf_cw W.p y pc i a b k st := by intro k; rw [wrE, a2]; rfl
              rw [pl0 a1]
              show _ = (bif ae_sub2 (bb_wr W.p (dd, y, pc, lv, st) k) W.p.mo then (ap_s2 false (bb_wr W.p (dd, y, pc, lv, st) k, W.p.cts, W.p.sps) s (dd, y, pc, lv, st) fs k M).bind fun l => some (l.map (bb_mk s k.2.2.1.length (bb_wr W.p (dd, y, pc, lv, st) k) (k, M, O, w, T, t1, t2))) else none)
              rw [w0, s2E, s1E]
              show (bif ae_sub2 (bf_cw W.p y pc i a b k st) W.p.mo then (match bf_ca (bf_cw W.p y pc i a b k st, W.p.cts, W.p.sps) s dd y i a b pc k M lv st fs with
                | some l => some (l.map (bf_so2 s k.2.2.1.length O (bb_jn (bf_cw W.p y pc i a b k st) w) T t1 t2))
                | none => none) else none) = (bif ae_sub2 (bf_cw W.p y pc i a b k st) W.p.mo then (ap_ca false (bf_cw W.p y pc i a b k st, W.p.cts, W.p.sps) s dd y i a b pc k M lv st fs).bind _ else none)
              rw [bf_ca_eq]
              cases ae_sub2 (bf_cw W.p y pc i a b k st) W.p.mo with
              | false => rfl
              | true =>
                show (match ap_ca false (bf_cw W.p y pc i a b k st, W.p.cts, W.p.sps) s dd y i a b pc k M lv st fs with
                  | some l => some (l.map (bf_so2 s k.2.2.1.length O (bb_jn (bf_cw W.p y pc i a b k st) w) T t1 t2))
                  | none => none) = (ap_ca false (bf_cw W.p y pc i a b k st, W.p.cts, W.p.sps) s dd y i a b pc k M lv st fs).bind _
                cases ap_ca false (bf_cw W.p y pc i a b k st, W.p.cts, W.p.sps) s dd y i a b pc k M lv st fs with
                | none => rfl
                | some l =>
                  refine congrArg some (List.map_congr_left fun r _ => ?_)
                  obtain ⟨r1, r2, r3⟩ := r
                  cases s <;> rfl
            | false =>
              rw [hC] at s1E wrE
              show bf_s3 W s (am_inf y).2.2.1 k M O w T t1 t2 dd y pc lv st fs i a b = _
              unfold bf_s3
              cases hw : bf_wr i b with
              | some g =>
                have a1 := bf_wr_lk (a := a) hw
                have w0 : ∀ k, bb_wr W.p (dd, y, pc, lv, st) k = g k st := by intro k; rw [wrE, hw]
                rw [pl0 a1]
                show _ = (bif ae_sub2 (bb_wr W.p (dd, y, pc, lv, st) k) W.p.mo then (ap_s2 false (bb_wr W.p (dd, y, pc, lv, st) k, W.p.cts, W.p.sps) s (dd, y, pc, lv, st) fs k M).bind fun l => some (l.map (bb_mk s k.2.2.1.length (bb_wr W.p (dd, y, pc, lv, st) k) (k, M, O, w, T, t1, t2))) else none)
                rw [w0, s2E, s1E]
                show (bif ae_sub2 (g k st) W.p.mo then bf_s4 s (am_inf y).2.2.1 (bb_jn (g k st) w) (g k st) k M O T t1 t2 dd y pc lv st fs i a b else none) = _
                rw [bf_s4_eq]
                rfl
              | none =>
                have w0 : ∀ k, bb_wr W.p (dd, y, pc, lv, st) k = [] := by intro k; rw [wrE, hw]; rfl
                have fin : ∀ (k : ae_K) (M O : List ae_M), bf_s4 s (am_inf y).2.2.1 w [] k M O T t1 t2 dd y pc lv st fs i a b = (bif ae_sub2 (bb_wr W.p (dd, y, pc, lv, st) k) W.p.mo then (ap_s2 false (bb_wr W.p (dd, y, pc, lv, st) k, W.p.cts, W.p.sps) s (dd, y, pc, lv, st) fs k M).bind fun l => some (l.map (bb_mk s k.2.2.1.length (bb_wr W.p (dd, y, pc, lv, st) k) (k, M, O, w, T, t1, t2))) else none) := by
                  intro k M O
                  rw [w0, s2E, s1E]
                  exact bf_s4_eq s (am_inf y).2.2.1 w [] k M O T t1 t2 dd y pc lv st fs i a b
                show (match bf_lk i a b with
                  | some g => (match g k st with
                    | some (p, e) => af_pl p fun p => (match bf_ld T w k M O p e (ae_nr k e) with
                      | some (k, M, O) => bf_s4 s (am_inf y).2.2.1 w [] k M O T t1 t2 dd y pc lv st fs i a b
                      | none => none)
                    | none => bf_s4 s (am_inf y).2.2.1 w [] k M O T t1 t2 dd y pc lv st fs i a b)
                  | none => bf_s4 s (am_inf y).2.2.1 w [] k M O T t1 t2 dd y pc lv st fs i a b) = _
                have plE : bb_pl (k, M, O, w, T, t1, t2) (dd, y, pc, lv, st) = (match bb_cell k (dd, y, pc, lv, st) with
                  | some c => (bb_ld T w k M O c.1 c.2).bind fun y => some (y.1, y.2.1, y.2.2, w, T, t1, t2)
                  | none => some (k, M, O, w, T, t1, t2)) := rfl
                rw [plE, cellE]
                cases bf_lk i a b with
                | none => exact fin k M O
                | some g =>
                  show (match g k st with
                    | some (p, e) => af_pl p fun p => (match bf_ld T w k M O p e (ae_nr k e) with
                      | some (k, M, O) => bf_s4 s (am_inf y).2.2.1 w [] k M O T t1 t2 dd y pc lv st fs i a b
                      | none => none)
                    | none => bf_s4 s (am_inf y).2.2.1 w [] k M O T t1 t2 dd y pc lv st fs i a b) = (match g k st with
                    | some c => (bb_ld T w k M O c.1 c.2).bind fun y => some (y.1, y.2.1, y.2.2, w, T, t1, t2)
                    | none => some (k, M, O, w, T, t1, t2)).bind _
                  cases g k st with
                  | none => exact fin k M O
                  | some c =>
                    obtain ⟨p, e⟩ := c
                    show (af_pl p fun p => (match bf_ld T w k M O p e (ae_nr k e) with
                      | some (k, M, O) => bf_s4 s (am_inf y).2.2.1 w [] k M O T t1 t2 dd y pc lv st fs i a b
                      | none => none)) = ((bb_ld T w k M O p e).bind fun y => some (y.1, y.2.1, y.2.2, w, T, t1, t2)).bind _
                    rw [af_pl_ok, bf_ld_eq]
                    cases bb_ld T w k M O p e with
                    | none => rfl
                    | some y => exact fin y.1 y.2.1 y.2.2
theorem bf_s0_eq (W : bb_W) (s : Bool) (k : ae_K) (M O : List ae_M) (w : ae_Mo) (T : List bb_Ti) (t1 t2 : ap_T) : bf_s0 W s k M O w T t1 t2 (bif s then t2 else t1) = bb_stp W s (k, M, O, w, T, t1, t2) := by
  have e : bb_stp W s (k, M, O, w, T, t1, t2) = (match (bif s then t2 else t1).1 with
    | [] => none
    | f :: fs => bf_sx W s f fs (k, M, O, w, T, t1, t2)) := rfl
  cases ht : (bif s then t2 else t1) with
  | mk l v =>
    cases l with
    | nil => rw [e, ht]; rfl
    | cons f fs =>
      obtain ⟨dd, y, pc, lv, st⟩ := f
      exact bf_t1_eq (by rw [ht])
/-! the meeting points: those that stand at the same places; the ties that can have been touched -/
theorem bf_np_sub {w mo : ae_Mo} (h : ae_sub2 w mo = true) {p a b : Nat} (q : bb_np mo p a b = true) : bb_np w p a b = true := by
  refine List.all_eq_true.mpr fun r hr => ?_
  obtain ⟨s, hs, e⟩ := List.any_eq_true.mp (List.all_eq_true.mp h r hr)
  simp only [Bool.and_eq_true] at e
  have e1 := Nat.eq_of_beq_eq_true e.1.1
  have e2 := ae_le_iff.mp e.1.2
  have e3 := ae_le_iff.mp e.2
  have h4 := List.all_eq_true.mp q s hs
  rcases Bool.or_eq_true_iff.mp h4 with h5 | h5
  · rw [e1, h5]; rfl
  · refine Bool.or_eq_true_iff.mpr (Or.inr ?_)
    rcases Bool.or_eq_true_iff.mp h5 with h6 | h6
    · have h6 := ae_le_iff.mp h6
      exact Bool.or_eq_true_iff.mpr (Or.inl (ae_le_iff.mpr (by omega)))
    · have h6 := ae_le_iff.mp h6
      exact Bool.or_eq_true_iff.mpr (Or.inr (ae_le_iff.mpr (by omega)))
theorem bf_nt_sub {w mo : ae_Mo} (h : ae_sub2 w mo = true) {m : Nat} {l : List bb_Tt} (q : bb_nt mo m l = true) : bb_nt w m l = true :=
  List.all_eq_true.mpr fun t ht => bf_np_sub h (List.all_eq_true.mp q t ht)
theorem bf_nw_sub {w mo : ae_Mo} (h : ae_sub2 w mo = true) {t : bb_Ti} (q : bb_nw mo t = true) : bb_nw w t = true := by
  unfold bb_nw at q ⊢
  simp only [Bool.and_eq_true] at q ⊢
  exact ⟨⟨bf_np_sub h q.1.1, bf_nt_sub h q.1.2⟩, List.all_eq_true.mpr fun g hg => bf_nt_sub h (List.all_eq_true.mp q.2 g hg)⟩
theorem bf_all_f {α : Type} {f g : α → Bool} (h : ∀ x, f x = false → g x = true) : ∀ {l : List α}, (l.filter f).all g = l.all g
  | [] => rfl
  | a :: r => by
    cases hf : f a with
    | true => rw [List.filter_cons_of_pos (by exact hf), List.all_cons, List.all_cons, bf_all_f h]
    | false => rw [List.filter_cons_of_neg (by rw [hf]; exact Bool.false_ne_true), List.all_cons, bf_all_f h, h a hf, Bool.true_and]
noncomputable def bf_dy (mo : ae_Mo) (T : List bb_Ti) : List bb_Ti := T.filter fun t => !(bb_nw mo t)
noncomputable def bf_ric (mo : ae_Mo) (k : ae_K) (M O : List ae_M) (w : ae_Mo) (T T' : List bb_Ti) : Bool := bif bb_pf T' T && ae_sub2 w mo then (bf_dy mo T').all (bb_ri2 k M O w T true) else bb_ric2 k M O w T T'
theorem bf_ric_eq (mo : ae_Mo) (k : ae_K) (M O : List ae_M) (w : ae_Mo) (T T' : List bb_Ti) : bf_ric mo k M O w T T' = bb_ric2 k M O w T T' := by
  unfold bf_ric
  cases h1 : bb_pf T' T with
  | false => rfl
  | true =>
    cases h2 : ae_sub2 w mo with
    | false => rfl
    | true =>
      unfold bb_ric2
      rw [h1]
      show (bf_dy mo T').all (bb_ri2 k M O w T true) = T'.all (bb_ri2 k M O w T true)
      refine bf_all_f fun t ht => ?_
      have h3 : bb_nw mo t = true := by
        cases hh : bb_nw mo t with
        | true => rfl
        | false => rw [hh] at ht; cases ht
      unfold bb_ri2
      rw [bf_nw_sub h2 h3]
      rfl
noncomputable def bf_mt (mo : ae_Mo) (R : Nat) (w0 : ae_X) (k : ae_K) (M O : List ae_M) (w : ae_Mo) (T : List bb_Ti) (t1 t2 : ap_T) (t : bb_Tm) : Bool :=
  bif Nat.blt 0 R && bb_ctl t1.1 t.st.t1.1 && bb_ctl t2.1 t.st.t2.1 && bb_nl t.st.o && bb_nl t.st.w then
    (match bb_lds T w t.st.m k (bb_vp k M) O with
    | some (k1, M1, O1) => (match ap_ss k1 M1 t1 t2 t.si (ap_s0 R) with
      | some l => ap_km k1 l t.st.k && bb_mm k1 l M1 t.st.m && ap_tm k1 l t1 t.st.t1 && ap_tm k1 l t2 t.st.t2 && bf_ric mo k1 M1 O1 w T t.st.T && ae_z k1 (ae_pls (ae_sub (ap_su l t.rk) w0) 1) && ae_z k1 (ae_neg (ap_su l t.rk) 0)
      | none => false)
    | none => false)
  else false
theorem bf_mt_eq (mo : ae_Mo) (R : Nat) (w0 : ae_X) (k : ae_K) (M O : List ae_M) (w : ae_Mo) (T : List bb_Ti) (t1 t2 : ap_T) (t : bb_Tm) : bf_mt mo R w0 k M O w T t1 t2 t = bb_mt R w0 (k, M, O, w, T, t1, t2) t := by
  have h : ∀ k1 M1 O1, bf_ric mo k1 M1 O1 w T t.st.T = bb_ric2 k1 M1 O1 w T t.st.T := fun k1 M1 O1 => bf_ric_eq mo k1 M1 O1 w T t.st.T
  unfold bf_mt
  simp only [h]
  show _ = (bif Nat.blt 0 R && bb_ctl t1.1 t.st.t1.1 && bb_ctl t2.1 t.st.t2.1 && bb_nl t.st.o && bb_nl t.st.w then
    (match bb_lds T w t.st.m k (bb_vp k M) O with
    | some q => (match ap_ss q.1 q.2.1 t1 t2 t.si (ap_s0 R) with
      | some l => ap_km q.1 l t.st.k && bb_mm q.1 l q.2.1 t.st.m && ap_tm q.1 l t1 t.st.t1 && ap_tm q.1 l t2 t.st.t2 && bb_ric2 q.1 q.2.1 q.2.2 w T t.st.T && ae_z q.1 (ae_pls (ae_sub (ap_su l t.rk) w0) 1) && ae_z q.1 (ae_neg (ap_su l t.rk) 0)
      | none => false)
    | none => false)
  else false)
  cases bb_lds T w t.st.m k (bb_vp k M) O with
  | none => rfl
  | some q => rfl
/-- where a thread stands -/
noncomputable def bf_at {α : Type} (t : ap_T) (κ : Nat → Nat → α) : α := match t with
  | ([], _) => κ 1000 0
  | ((_, y, pc, _, _) :: _, _) => κ y pc
noncomputable def bf_tq (t : ap_T) (y p : Nat) : Bool := bf_at t fun a b => Nat.beq a y && Nat.beq b p
theorem bf_ctl_at {f t : ap_T} (q : bb_ctl f.1 t.1 = true) : bf_at f (bf_tq t) = true := by
  obtain ⟨l, v⟩ := f
  obtain ⟨m, u⟩ := t
  cases l with
  | nil =>
    cases m with
    | nil => rfl
    | cons _ _ => cases q
  | cons a r =>
    cases m with
    | nil => cases q
    | cons b s =>
      obtain ⟨a1, a2, a3, a4, a5⟩ := a
      obtain ⟨b1, b2, b3, b4, b5⟩ := b
      have q : (Nat.beq a2 b2 && Nat.beq a3 b3 && bb_ctl r s) = true := q
      simp only [Bool.and_eq_true] at q
      have e1 := Nat.eq_of_beq_eq_true q.1.1
      have e2 := Nat.eq_of_beq_eq_true q.1.2
      subst e1
      subst e2
      show (Nat.beq a2 a2 && Nat.beq a3 a3) = true
      rw [Nat.beq_refl, Nat.beq_refl]
      rfl
theorem bf_any_imp {α : Type} {f g : α → Bool} (h : ∀ x, g x = true → f x = true) {l : List α} : (l.filter f).any g = l.any g := by
  rw [af_any_f]
  congr 1
  funext x
  cases hg : g x with
  | true => rw [h x hg]; rfl
  | false => cases f x <;> rfl
noncomputable def bf_tms (tms : List bb_Tm) (y1 p1 y2 p2 : Nat) : List bb_Tm := tms.filter fun t => bf_tq t.st.t1 y1 p1 && bf_tq t.st.t2 y2 p2
noncomputable def bf_fit (tms : List bb_Tm) (mo : ae_Mo) (R : Nat) (w0 : ae_X) (k : ae_K) (M O : List ae_M) (w : ae_Mo) (T : List bb_Ti) (t1 t2 : ap_T) : Bool :=
  bf_at t1 fun y1 p1 => bf_at t2 fun y2 p2 => (bf_tms tms y1 p1 y2 p2).any (bf_mt mo R w0 k M O w T t1 t2)
theorem bf_fit_eq (tms : List bb_Tm) (mo : ae_Mo) (R : Nat) (w0 : ae_X) (k : ae_K) (M O : List ae_M) (w : ae_Mo) (T : List bb_Ti) (t1 t2 : ap_T) : bf_fit tms mo R w0 k M O w T t1 t2 = tms.any (bb_mt R w0 (k, M, O, w, T, t1, t2)) := by
  have hm : (fun t => bf_mt mo R w0 k M O w T t1 t2 t) = bb_mt R w0 (k, M, O, w, T, t1, t2) := funext fun t => bf_mt_eq mo R w0 k M O w T t1 t2 t
  have im : ∀ t : bb_Tm, bb_mt R w0 (k, M, O, w, T, t1, t2) t = true → bb_ctl t1.1 t.st.t1.1 = true ∧ bb_ctl t2.1 t.st.t2.1 = true := by
    intro t q
    unfold bb_mt at q
    cases hb : Nat.blt 0 R && bb_ctl t1.1 t.st.t1.1 && bb_ctl t2.1 t.st.t2.1 && bb_nl t.st.o && bb_nl t.st.w with
    | false =>
      have q : (bif Nat.blt 0 R && bb_ctl t1.1 t.st.t1.1 && bb_ctl t2.1 t.st.t2.1 && bb_nl t.st.o && bb_nl t.st.w then _ else false) = true := q
      rw [hb] at q
      cases q
    | true =>
      simp only [Bool.and_eq_true] at hb
      exact ⟨hb.1.1.1.2, hb.1.1.2⟩
  unfold bf_fit
  obtain ⟨l1, v1⟩ := t1
  obtain ⟨l2, v2⟩ := t2
  have fin : ∀ y1 p1 y2 p2, (∀ t : ap_T, bf_at (l1, v1) (bf_tq t) = bf_tq t y1 p1) → (∀ t : ap_T, bf_at (l2, v2) (bf_tq t) = bf_tq t y2 p2) → (bf_tms tms y1 p1 y2 p2).any (bf_mt mo R w0 k M O w T (l1, v1) (l2, v2)) = tms.any (bb_mt R w0 (k, M, O, w, T, (l1, v1), (l2, v2))) := by
    intro y1 p1 y2 p2 h1 h2
    rw [show bf_mt mo R w0 k M O w T (l1, v1) (l2, v2) = bb_mt R w0 (k, M, O, w, T, (l1, v1), (l2, v2)) from hm]
    refine bf_any_imp fun t q => ?_
    obtain ⟨q1, q2⟩ := im t q
    rw [← h1, ← h2, bf_ctl_at q1, bf_ctl_at q2]
    rfl
  cases l1 with
  | nil =>
    cases l2 with
    | nil => exact fin 1000 0 1000 0 (fun _ => rfl) (fun _ => rfl)
    | cons f2 r2 =>
      obtain ⟨a2, b2, c2, d2, e2⟩ := f2
      exact fin 1000 0 b2 c2 (fun _ => rfl) (fun _ => rfl)
  | cons f1 r1 =>
    obtain ⟨a1, b1, c1, d1, e1⟩ := f1
    cases l2 with
    | nil => exact fin b1 c1 1000 0 (fun _ => rfl) (fun _ => rfl)
    | cons f2 r2 =>
      obtain ⟨a2, b2, c2, d2, e2⟩ := f2
      exact fin b1 c1 b2 c2 (fun _ => rfl) (fun _ => rfl)
/-! the walk -/
noncomputable def bf_w (W : bb_W) (t : ap_T) : Bool := match t with
  | ([], _) => true
  | ((_, y, pc, _, _) :: _, _) => W.wt y pc
theorem bf_w_eq (W : bb_W) (t : ap_T) : bf_w W t = bb_w W t := by
  obtain ⟨l, v⟩ := t
  cases l with
  | nil => rfl
  | cons f r => rfl
noncomputable def bf_all (f : bb_St → Bool) (l : List bb_St) : Bool := List.rec (motive := fun _ => Bool) true (fun h _ r => bif f h then r else false) l
theorem bf_all_eq (f : bb_St → Bool) : ∀ l : List bb_St, bf_all f l = l.all f
  | [] => rfl
  | h :: r => by
    rw [List.all_cons, ← bf_all_eq f r]
    show (bif f h then bf_all f r else false) = _
    cases f h <;> rfl
noncomputable def bf_al' (f : bb_St → Bool) (o : Option (List bb_St)) : Bool := match o with
  | some l => bf_all f l
  | none => false
theorem bf_al'_eq (f : bb_St → Bool) (o : Option (List bb_St)) : bf_al' f o = bb_al f o := by
  cases o with
  | none => rfl
  | some l => exact bf_all_eq f l
abbrev bf_Hq : Type := Bool → Bool → Nat → Nat → Nat → Nat → Bool
noncomputable def bf_hq (hq : bf_Hq) (f1 f2 : Bool) (t1 t2 : ap_T) : Bool := bf_at t1 fun y1 p1 => bf_at t2 fun y2 p2 => hq f1 f2 y1 p1 y2 p2
noncomputable def bf_hqok (W : bb_W) (hq : bf_Hq) : Prop := ∀ f1 f2 z, W.hf f1 f2 z = true → bf_hq hq f1 f2 z.t1 z.t2 = true
noncomputable def bf_b (W : bb_W) (hq : bf_Hq) (w0 : ae_X) (ih : bb_Go) (f1 f2 nh : Bool) (k : ae_K) (M O : List ae_M) (w : ae_Mo) (T : List bb_Ti) (t1 t2 : ap_T) : Bool :=
  bif (bif nh then false else (bif bf_hq hq f1 f2 t1 t2 then W.hf f1 f2 (k, M, O, w, T, t1, t2) else false)) then bf_al' (ih f1 f2 true) (W.hk (k, M, O, w, T, t1, t2))
  else bif (bif f1 then false else bf_w W t1) then
    (bif (bif f2 then false else bf_w W t2) then bf_fit W.tms W.mo W.r w0 k M O w T t1 t2 || (match W.ov (k, M, O, w, T, t1, t2) with
      | some b => ih b.1 b.2 true (k, M, O, w, T, t1, t2)
      | none => false)
    else bf_al' (ih f1 false false) (bf_s0 W true k M O w T t1 t2 t2))
  else bf_al' (ih false f2 false) (bf_s0 W false k M O w T t1 t2 t1)
noncomputable def bf_g1 (W : bb_W) (hq : bf_Hq) (w0 : ae_X) (ih : bb_Go) : bb_Go := fun f1 f2 nh z => match z with
  | (k, M, O, w, T, t1, t2) => bf_b W hq w0 ih f1 f2 nh k M O w T t1 t2
noncomputable def bf_go (W : bb_W) (hq : bf_Hq) (w0 : ae_X) (n : Nat) : bb_Go :=
  Nat.rec (motive := fun _ => bb_Go) (fun _ _ _ _ => false) (fun _ ih => bf_g1 W hq w0 ih) n
theorem bf_g1_eq {W : bb_W} {hq : bf_Hq} (h : bf_hqok W hq) (w0 : ae_X) (ih : bb_Go) (f1 f2 nh : Bool) (z : bb_St) : bf_g1 W hq w0 ih f1 f2 nh z = bb_g1 W w0 ih f1 f2 nh z := by
  obtain ⟨k, M, O, w, T, t1, t2⟩ := z
  show bf_b W hq w0 ih f1 f2 nh k M O w T t1 t2 = _
  unfold bf_b bb_g1
  have h1 : (bif nh then false else (bif bf_hq hq f1 f2 t1 t2 then W.hf f1 f2 (k, M, O, w, T, t1, t2) else false)) = (!nh && W.hf f1 f2 (k, M, O, w, T, t1, t2)) := by
    cases nh with
    | true => rfl
    | false =>
      show (bif bf_hq hq f1 f2 t1 t2 then W.hf f1 f2 (k, M, O, w, T, t1, t2) else false) = W.hf f1 f2 (k, M, O, w, T, t1, t2)
      cases hh : W.hf f1 f2 (k, M, O, w, T, t1, t2) with
      | true => rw [show bf_hq hq f1 f2 t1 t2 = true from h f1 f2 _ hh]; rfl
      | false => cases bf_hq hq f1 f2 t1 t2 <;> rfl
  have h2 : (bif f1 then false else bf_w W t1) = (!f1 && bb_w W t1) := by rw [bf_w_eq]; cases f1 <;> rfl
  have h3 : (bif f2 then false else bf_w W t2) = (!f2 && bb_w W t2) := by rw [bf_w_eq]; cases f2 <;> rfl
  have h4 : bf_s0 W true k M O w T t1 t2 t2 = bb_stp W true (k, M, O, w, T, t1, t2) := bf_s0_eq W true k M O w T t1 t2
  have h5 : bf_s0 W false k M O w T t1 t2 t1 = bb_stp W false (k, M, O, w, T, t1, t2) := bf_s0_eq W false k M O w T t1 t2
  rw [h1, h2, h3, h4, h5, bf_fit_eq, bf_al'_eq, bf_al'_eq, bf_al'_eq]
  rfl
theorem bf_go_eq {W : bb_W} {hq : bf_Hq} (h : bf_hqok W hq) (w0 : ae_X) : ∀ n : Nat, bf_go W hq w0 n = bb_go W w0 n
  | 0 => rfl
  | n + 1 => by
    funext f1 f2 nh z
    show bf_g1 W hq w0 (bf_go W hq w0 n) f1 f2 nh z = bb_g1 W w0 (bb_go W w0 n) f1 f2 nh z
    rw [bf_go_eq h w0 n]
    exact bf_g1_eq h w0 _ f1 f2 nh z
noncomputable def bf_chk (W : bb_W) (hq : bf_Hq) (n : Nat) (f1 f2 : Bool) (t : bb_Tm) : Bool := bb_nl t.st.w && ae_wb t.st.k.1 t.rk.2 && bf_go W hq t.rk n f1 f2 false (bb_ini t.st)
theorem bf_ck {W : bb_W} {hq : bf_Hq} (h : bf_hqok W hq) {n : Nat} {f1 f2 : Bool} {t : bb_Tm} (q : bf_chk W hq n f1 f2 t = true) : bb_chk W n f1 f2 t = true := by
  unfold bf_chk at q
  rw [bf_go_eq h] at q
  exact q
noncomputable def bf_h1 : bf_Hq := fun _ _ _ _ _ _ => true
theorem bf_h1_ok {W : bb_W} : bf_hqok W bf_h1 := by
  intro f1 f2 z _
  obtain ⟨k, M, O, w, T, ⟨l1, v1⟩, ⟨l2, v2⟩⟩ := z
  cases l1 <;> cases l2 <;> rfl
