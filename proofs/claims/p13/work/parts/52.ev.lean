/-! The evaluator of a method -/
abbrev ae_Cu : Type := List Nat × List ae_Tg × ae_Mo × List (Nat × Nat) × Nat × Bool
abbrev ae_Cx : Type := Nat × ae_K × List ae_M × ae_L × List (ae_Tg × ae_X) × Nat × Bool
abbrev ae_Ou : Type := ae_K × List ae_M × Option ae_V
/-- a loop that is known as a whole: method, from, to, its own local, what must stand in locals, what is written, cells that become others' -/
abbrev ae_Mc : Type := Nat × Nat × Nat × Nat × List (Nat × Bool × Int) × ae_Mo × List (Nat × Nat × Nat × Nat × Nat)
abbrev ae_Sp : Type := Nat × Nat × Nat × Nat × Nat
/-- cells left out; written; contracts; the one that is being shown, its bound, what it watched at first; known loops; loops' heads; where to tell cases apart -/
abbrev ae_P : Type := Bool × ae_Mo × List ae_Ct × Option (ae_Ct × Int × ae_X) × List ae_Mc × List (Nat × Nat × ae_Cu) × List ae_Sp × List (Nat × List (Int × Int) × ae_Ct)
abbrev ae_Go : Type := Nat → Nat → Nat → ae_K → List ae_M → ae_L → List ae_V → List ae_Cx → Option (List ae_Ou)
noncomputable def ae_wb (n : Nat) : ae_T → Bool
  | [] => true
  | t :: r => Nat.blt t.1 n && ae_wb n r
theorem ae_wb_ok {n : Nat} : ∀ {r : ae_T}, ae_wb n r = true → ae_wt n r
  | [], _ => trivial
  | t :: r, q => by
    unfold ae_wb at q
    rw [Bool.and_eq_true] at q
    exact ⟨Nat.blt_eq.mp q.1, ae_wb_ok q.2⟩
noncomputable def ae_ve (a b : ae_V) : Bool := Nat.beq a.1 b.1 && Nat.beq a.2.1 b.2.1 && ae_xe a.2.2 b.2.2
theorem ae_ve_ok {a b : ae_V} (q : ae_ve a b = true) : a = b := by
  unfold ae_ve at q
  simp only [Bool.and_eq_true] at q
  obtain ⟨⟨q1, q2⟩, q3⟩ := q
  obtain ⟨a1, a2, a3⟩ := a
  obtain ⟨b1, b2, b3⟩ := b
  have e1 : a1 = b1 := Nat.eq_of_beq_eq_true q1
  have e2 : a2 = b2 := Nat.eq_of_beq_eq_true q2
  have e3 : a3 = b3 := ae_xe_ok q3
  rw [e1, e2, e3]
noncomputable def ae_kl (lv : ae_L) (n : Nat) : List Nat → Option ae_L
  | [] => some []
  | i :: r => (ae_lg lv i).bind fun a => bif ae_wb n a.2.2.2 then (ae_kl lv n r).bind fun s => some ((i, a) :: s) else none
noncomputable def ae_kx (k : ae_K) (cu : ae_Cu) (m : ae_M) : Bool :=
  (ae_ou k cu.2.2.1 m || (ae_kc m.2.1 && cu.2.2.2.1.any fun x => Nat.beq x.1 m.1 && ae_ie m.2.1.1 (x.2 : Int))) && !(cu.2.1.any fun t => !(Nat.beq t.1 0) && Nat.beq t.2.1 m.1 && ae_kc m.2.1 && ae_ie m.2.1.1 (t.2.2.1 : Int)) && ae_wb k.1 m.2.1.2 && ae_wb k.1 m.2.2.1.2.2.2
noncomputable def ae_gn (ex : Bool) (cu : ae_Cu) (pc : Nat) (k : ae_K) (M : List ae_M) (lv : ae_L) (st : List ae_V) : Option ae_Cx := match st with
  | [] => (ae_vd false k M).bind fun M1 => (ae_lds ex cu.2.1 k M1).bind fun q => (ae_it q.1 q.2 lv cu.2.1).bind fun is => (ae_kl lv q.1.1 cu.1).bind fun kl =>
      bif is.all (fun i => ae_wb q.1.1 i.2.2) && ae_tn q.1 q.2 lv is (ae_ts 0 (is.map fun i => i.1)) then some (pc, q.1, q.2.filter (ae_kx q.1 cu), kl, is, cu.2.2.2.2.1, cu.2.2.2.2.2) else none
  | _ :: _ => none
noncomputable def ae_gx (c : ae_Cx) : ae_K × ae_L × List ae_M × List ae_X := ae_gf c.2.2.2.2.1 (ae_gi c.2.2.2.2.1 c.2.1 c.2.2.2.1 c.2.2.1)
noncomputable def ae_rkc (k : ae_K) (up : Bool) (x v : Option ae_X) : Bool := match x, v with
  | some x, some v => bif up then ae_z k (ae_pls (ae_sub v x) 1) else ae_z k (ae_pls (ae_sub x v) 1)
  | _, _ => false
noncomputable def ae_bkk (ex : Bool) (c : ae_Cx) (k : ae_K) (M : List ae_M) (lv : ae_L) (st : List ae_V) : Bool := match st with
  | [] => (match ae_vd false k M with
    | some M1 => (match ae_lds ex (c.2.2.2.2.1.map fun i => i.1) k M1 with
      | some q => (match ae_ib2 q.1 q.2 lv c.2.2.2.2.1 with
        | some ws => ae_rkc q.1 c.2.2.2.2.2.2 ws[c.2.2.2.2.2.1]? (ae_gx c).2.2.2[c.2.2.2.2.2.1]? && ae_tz q.1 (ae_ts 0 (c.2.2.2.2.1.map fun i => i.1)) ws
        | none => false) && c.2.2.2.1.all (fun p => match ae_lg lv p.1 with
          | some a => ae_ve a p.2
          | none => false) && c.2.2.1.all (fun m => !m.2.2.2 && (match ae_fd q.2 m.1 m.2.1 with
          | some m' => ae_ve m'.2.2.1 m.2.2.1
          | none => false))
      | none => false)
    | none => false)
  | _ :: _ => false
noncomputable def ae_se (ex : Bool) (s : ae_Sp) (k : ae_K) (M : List ae_M) (st : List ae_V) : Option (ae_K × List ae_M × ae_X) :=
  bif Nat.beq s.2.2.1 0 then (st[s.2.2.2.1]?).bind fun v => bif Nat.beq v.1 0 then some (k, M, ae_nr k v.2.2) else none
  else bif Nat.blt 0 s.2.2.2.1 && Nat.ble s.2.2.2.1 ae_np && Nat.blt s.2.2.2.2 (ae_sh s.2.2.2.1).2.2 then (ae_ld ex k M s.2.2.2.1 (ae_num (s.2.2.2.2 : Int))).bind fun q => bif Nat.beq q.2.2.1 0 then some (q.1, q.2.1, ae_nr q.1 q.2.2.2.2) else none else none
noncomputable def ae_s2x (s : ae_Sp) (k : ae_K) (M : List ae_M) (st : List ae_V) : Option (List (ae_K × List ae_M)) :=
  (st[s.2.2.2.1]?).bind fun v => bif Nat.beq v.1 0 then some ((ae_ask k [ae_pls (ae_nr k v.2.2) (1 - (s.2.2.2.2 : Int))] ++ ae_ask k [ae_neg (ae_nr k v.2.2) (s.2.2.2.2 : Int)]).map fun k' => (k', M)) else none
noncomputable def ae_s1x (ex : Bool) (s : ae_Sp) (k : ae_K) (M : List ae_M) (st : List ae_V) : Option (List (ae_K × List ae_M)) :=
  bif Nat.beq s.2.2.1 2 then ae_s2x s k M st else (ae_se ex s k M st).bind fun q => bif ae_kc q.2.2 then some [(q.1, q.2.1)] else (ae_js q.1 q.2.2).bind fun w => bif Nat.ble w.2.2 32 then
    some ((List.range w.2.2).flatMap fun i => (ae_ask q.1 [ae_pls q.2.2 (-((w.1 + w.2.1 * i : Nat) : Int)), ae_neg q.2.2 ((w.1 + w.2.1 * i : Nat) : Int)]).map fun k' => (k', q.2.1)) else none
noncomputable def ae_sx (ex : Bool) (st : List ae_V) : List ae_Sp → ae_K → List ae_M → Option (List (ae_K × List ae_M))
  | [], k, M => some [(k, M)]
  | s :: r, k, M => (ae_s1x ex s k M st).bind (ae_cat fun q => ae_sx ex st r q.1 q.2)
noncomputable def ae_ag2 : Nat → List ae_V → ae_L
  | _, [] => []
  | i, a :: r => (i, a) :: ae_ag2 (bif Nat.beq a.1 1 then i + 2 else i + 1) r
noncomputable def ae_rcv (i : Instr) (args : List ae_V) (own : Nat) : Bool := match i with
  | .invokevirtual _ => (match args with
    | a :: _ => Nat.beq a.1 2 && ae_isO a.2.1 own 0
    | [] => false)
  | .invokespecial _ => (match args with
    | a :: _ => Nat.beq a.1 2
    | [] => false)
  | .invokestatic _ => true
  | _ => false
noncomputable def ae_re (i : Instr) (rk : Nat) (k : ae_K) (M : List ae_M) (st : List ae_V) : Option (List ae_Ou) := match i with
  | .return_ => (match st with
    | [] => bif Nat.beq rk 0 then some [(k, M, none)] else none
    | _ :: _ => none)
  | .ireturn => (match st with
    | [v] => bif Nat.beq v.1 0 && (Nat.beq rk 1 || (Nat.beq rk 2 && ae_rg k v.2.2 0 1)) then some [(k, M, some v)] else none
    | _ => none)
  | .lreturn => (match st with
    | [v] => bif Nat.beq v.1 1 && Nat.beq rk 3 then some [(k, M, some v)] else none
    | _ => none)
  | _ => none
noncomputable def ae_ci2 (K : Int) (w0 : ae_X) (k : ae_K) (es : List ae_X) : Bool := match es with
  | v :: _ => ae_z k (ae_pls (ae_sub w0 v) 1) && ae_z k (ae_pls v (-K))
  | [] => false
noncomputable def ae_ca (P : ae_P) (ih : ae_Go) (dd y : Nat) (i : Instr) (a b pc : Nat) (k : ae_K) (M : List ae_M) (lv : ae_L) (st : List ae_V) (cxs : List ae_Cx) : Option (List ae_Ou) :=
  bif Nat.ble 1000 a then (bif Nat.ble 1 dd && Nat.ble (ae_cats st) 16 then (ae_sy P.1 P.2.1 a pc k M lv st).bind (ae_cat fun z => ih dd y z.1 z.2.1 z.2.2.1 z.2.2.2.1 z.2.2.2.2 cxs) else none)
  else match dd with
    | 0 => none
    | e + 1 => bif Nat.ble (am_pop i b) st.length && Nat.ble (ae_cats (st.drop (am_pop i b))) 8 && ae_rcv i (st.take (am_pop i b)).reverse (am_inf a).1 && Nat.ble (ae_cats (st.take (am_pop i b))) (am_inf a).2.2.1 then
      (match P.2.2.2.1.bind fun q => bif Nat.beq q.1.1 a && ae_fas k q.1.2.1 (st.take (am_pop i b)).reverse then some q else none with
      | some c => bif Nat.ble c.1.2.2.2.2.2.2.2 (e + 2) then (ae_cc P.1 P.2.1 c.1 (ae_ci2 c.2.1 c.2.2) (pc + 3) k M lv (st.drop (am_pop i b))).bind (ae_cat fun z => ih (e + 1) y z.1 z.2.1 z.2.2.1 z.2.2.2.1 z.2.2.2.2 cxs) else none
      | none => (match P.2.2.1.find? fun c => Nat.beq c.1 a && ae_fas k c.2.1 (st.take (am_pop i b)).reverse with
        | some c => bif Nat.ble c.2.2.2.2.2.2.2 e then (ae_cc P.1 P.2.1 c (fun _ _ => true) (pc + 3) k M lv (st.drop (am_pop i b))).bind (ae_cat fun z => ih (e + 1) y z.1 z.2.1 z.2.2.1 z.2.2.2.1 z.2.2.2.2 cxs) else none
        | none => (ih e a 0 k M (ae_ag2 0 (st.take (am_pop i b)).reverse) [] []).bind (ae_cat fun o => ih (e + 1) y (pc + 3) o.1 o.2.1 lv (o.2.2.toList ++ st.drop (am_pop i b)) cxs)))
      else none
noncomputable def ae_b1 (P : ae_P) (ih : ae_Go) : ae_Go := fun dd y pc k M lv st cxs =>
  (am_code y pc).bind fun q =>
    bif am_isR q.1 then ae_re q.1 (am_inf y).2.2.2 k M st
    else bif am_isC q.1 then ae_ca P ih dd y q.1 q.2.1 q.2.2 pc k M lv st cxs
    else (ae_sp P.1 P.2.1 (am_inf y).2.2.1 q.1 q.2.1 q.2.2 pc k M lv st).bind (ae_cat fun z => ih dd y z.1 z.2.1 z.2.2.1 z.2.2.2.1 z.2.2.2.2 cxs)
noncomputable def ae_b2 (P : ae_P) (ih : ae_Go) : ae_Go := fun dd y pc k M lv st cxs =>
  match P.2.2.2.2.2.2.1.filter fun s => Nat.beq s.1 y && Nat.beq s.2.1 pc with
  | [] => ae_b1 P ih dd y pc k M lv st cxs
  | s :: r => (ae_sx P.1 st (s :: r) k M).bind (ae_cat fun q => ae_b1 P ih dd y pc q.1 q.2 lv st cxs)
/-- what must stand in locals -/
noncomputable def ae_lc (k : ae_K) (lv : ae_L) (c : Nat × Bool × Int) : Bool := match ae_lg lv c.1 with
  | some a => bif c.2.1 then Nat.beq a.1 2 && ae_ie (a.2.1 : Int) c.2.2 else Nat.beq a.1 0 && ae_kc (ae_nr k a.2.2) && ae_ie (ae_nr k a.2.2).1 c.2.2
  | none => false
noncomputable def ae_tr1 (m : ae_M) (t : Nat × Nat × Nat × Nat × Nat) : Option ae_M := bif Nat.beq m.1 t.1 && ae_kc m.2.1 && !m.2.2.2 && ae_le (t.2.1 : Int) m.2.1.1 && ae_le (m.2.1.1 + 1) ((t.2.1 + t.2.2.2.2 : Nat) : Int) then some (t.2.2.1, ae_num (m.2.1.1 - (t.2.1 : Int) + (t.2.2.2.1 : Int)), m.2.2.1, false) else none
noncomputable def ae_b3 (P : ae_P) (ih : ae_Go) : ae_Go := fun dd y pc k M lv st cxs =>
  match P.2.2.2.2.1.find? fun m => Nat.beq m.1 y && Nat.beq m.2.1 pc && m.2.2.2.2.1.all (ae_lc k lv) with
  | some m => (match st with
    | [] => bif !P.1 && ae_sub2 m.2.2.2.2.2.1 P.2.1 then (ae_vd false k M).bind fun M1 => (ae_kept k m.2.2.2.2.2.1 M1).bind fun M2 => ih dd y m.2.2.1 k (m.2.2.2.2.2.2.flatMap (fun t => M1.filterMap fun e => ae_tr1 e t) ++ M2) (lv.filter fun q => !(Nat.beq q.1 m.2.2.2.1) && !(Nat.beq (q.1 + 1) m.2.2.2.1 && Nat.beq q.2.1 1)) [] cxs else none
    | _ :: _ => none)
  | none => (match P.2.2.2.2.2.1.find? fun c => Nat.beq c.1 y && Nat.beq c.2.1 pc with
    | none => ae_b2 P ih dd y pc k M lv st cxs
    | some cu => (match cxs.find? fun c => Nat.beq c.1 pc with
      | some c => bif ae_bkk P.1 c k M lv st then some [] else none
      | none => (match ae_gn P.1 cu.2.2 pc k M lv st with
        | some c => ae_b2 P ih dd y pc (ae_gx c).1 (ae_gx c).2.2.1 (ae_gx c).2.1 [] (c :: cxs)
        | none => ae_b2 P ih dd y pc k M lv st cxs)))
/-- the rest of the method by contract -/
noncomputable def ae_sfx (P : ae_P) (dd y pc : Nat) (k : ae_K) (M : List ae_M) (lv : ae_L) (s : Nat × List (Int × Int) × ae_Ct) : Option (List ae_R) :=
  bif Nat.beq s.2.2.1 y && Nat.beq s.1 pc && ae_fll k lv 0 s.2.2.2.1 && Nat.ble s.2.2.2.2.2.2.2.2.2 dd then ae_cc P.1 P.2.1 s.2.2 (fun k es => ae_prc k s.2.1 es) pc k M lv [] else none
noncomputable def ae_b4 (P : ae_P) (ih : ae_Go) : ae_Go := fun dd y pc k M lv st cxs => match st with
  | [] => (match P.2.2.2.2.2.2.2.findSome? (ae_sfx P dd y pc k M lv) with
    | some rs => some (rs.map fun z => (z.2.1, z.2.2.1, z.2.2.2.2.head?))
    | none => ae_b3 P ih dd y pc k M lv [] cxs)
  | v :: r => ae_b3 P ih dd y pc k M lv (v :: r) cxs
noncomputable def ae_go (P : ae_P) (n : Nat) : ae_Go :=
  Nat.rec (motive := fun _ => ae_Go) (fun _ _ _ _ _ _ _ _ => none) (fun _ ih => ae_b4 P ih) n
/-! what it says -/
noncomputable def ae_ro (n : Nat) (ρ : Nat → Int) (a : Option ae_V) (r : Option Value) : Prop := match a with
  | none => r = none
  | some a => ∃ v, r = some v ∧ ae_ok n ρ a v
noncomputable def ae_Q (ex : Bool) (L : Nat) (xs : Nat → Int32) (n0 : Nat) (ρ : Nat → Int) (T : List ae_Ou) (r : Option Value) (h : List am_E) : Prop :=
  ∃ o ∈ T, ∃ ρ', n0 ≤ o.1.1 ∧ ae_ag n0 ρ ρ' ∧ ae_okK ρ' o.1 ∧ ae_k0 ρ' L o.1 ∧ ae_hp ex o.1.1 ρ' L xs o.2.1 h ∧ ae_ro o.1.1 ρ' o.2.2 r
noncomputable def ae_W (ex : Bool) (mo : ae_Mo) (L : Nat) (xs : Nat → Int32) (n0 : Nat) (ρ : Nat → Int) (T : List ae_Ou) (d y pc : Nat) (lw : am_L) (sw : List Value) (h : List am_E) : Prop :=
  ∃ n r h', am_go L xs n d y pc lw sw h = some (r, h') ∧ ae_fr mo L xs h h' ∧ ae_Q ex L xs n0 ρ T r h'
theorem ae_W_ag {ex : Bool} {mo : ae_Mo} {L : Nat} {xs : Nat → Int32} {n0 : Nat} {ρ ρ' : Nat → Int} {T : List ae_Ou} {d y pc : Nat} {lw : am_L} {sw : List Value} {h : List am_E} (a : ae_ag n0 ρ ρ') (w : ae_W ex mo L xs n0 ρ' T d y pc lw sw h) : ae_W ex mo L xs n0 ρ T d y pc lw sw h := by
  obtain ⟨n, r, h', g1, g2, o, m, ρ2, g3, g4, g5⟩ := w
  exact ⟨n, r, h', g1, g2, o, m, ρ2, g3, ae_ag_tr (Nat.le_refl _) a g4, g5⟩
noncomputable def ae_rk (c : ae_Cx) (zs zs' : List Int) : Prop := ∃ i z z', c.2.2.2.2.1[c.2.2.2.2.2.1]? = some i ∧ zs[c.2.2.2.2.2.1]? = some z ∧ zs'[c.2.2.2.2.2.1]? = some z' ∧ i.1.2.2.2.2.2.2.2.1 ≤ z' ∧ z' ≤ i.1.2.2.2.2.2.2.2.2 ∧ (bif c.2.2.2.2.2.2 then z + 1 ≤ z' else z' + 1 ≤ z)
noncomputable def ae_Cok (c : ae_Cx) (ex : Bool) (mo : ae_Mo) (L : Nat) (xs : Nat → Int32) (n0 : Nat) (T : List ae_Ou) (d y : Nat) (k : ae_K) (ρ : Nat → Int) : Prop :=
  n0 ≤ c.2.1.1 ∧ c.2.1.1 ≤ (ae_gx c).1.1 ∧ (ae_gx c).1.1 ≤ k.1 ∧ ae_okK ρ c.2.1 ∧ ae_k0 ρ L c.2.1 ∧ (∀ m ∈ c.2.2.1, ae_wt c.2.1.1 m.2.1.2 ∧ ae_wt c.2.1.1 m.2.2.1.2.2.2) ∧ (∀ q ∈ c.2.2.2.1, ae_wt c.2.1.1 q.2.2.2.2) ∧ (∀ i ∈ c.2.2.2.2.1, ae_wt c.2.1.1 i.2.2) ∧
  ∃ zs, ae_dns (ae_gx c).1.1 ρ (ae_gx c).2.2.2 zs ∧ ∀ ρ' lw h zs', ae_ag c.2.1.1 ρ ρ' → ae_mm ex ρ' L xs (ae_gx c).1 (ae_gx c).2.2.1 (ae_gx c).2.1 [] lw [] h → ae_dns (ae_gx c).1.1 ρ' (ae_gx c).2.2.2 zs' → ae_rk c zs zs' → ae_W ex mo L xs n0 ρ' T d y c.1 lw [] h
theorem ae_dns_ext {n m : Nat} {ρ ρ' : Nat → Int} (hn : n ≤ m) (a : ae_ag n ρ ρ') : ∀ {es : List ae_X} {zs : List Int}, ae_dns n ρ es zs → ae_dns m ρ' es zs
  | [], [], _ => trivial
  | _ :: _, _ :: _, q => ⟨ae_dn_ext hn a q.1, ae_dns_ext hn a q.2⟩
  | [], _ :: _, q => absurd q id
  | _ :: _, [], q => absurd q id
theorem ae_Cok_up {c : ae_Cx} {ex : Bool} {mo : ae_Mo} {L : Nat} {xs : Nat → Int32} {n0 : Nat} {T : List ae_Ou} {d y : Nat} {k k' : ae_K} {ρ ρ' : Nat → Int} (hn : k.1 ≤ k'.1) (a : ae_ag k.1 ρ ρ') (q : ae_Cok c ex mo L xs n0 T d y k ρ) : ae_Cok c ex mo L xs n0 T d y k' ρ' := by
  obtain ⟨q1, q2, q3, q4, q5, q6, q7, q8, zs, q9, q10⟩ := q
  have aN : ae_ag c.2.1.1 ρ ρ' := fun s hs => a s (by omega)
  have aG : ae_ag (ae_gx c).1.1 ρ ρ' := fun s hs => a s (by omega)
  refine ⟨q1, q2, Nat.le_trans q3 hn, ae_okK_ext q4 aN, ⟨q5.1, by rw [aN 0 q5.1.1]; exact q5.2⟩, q6, q7, q8, zs, ae_dns_ext (Nat.le_refl _) aG q9, fun ρ2 lw h zs' g1 g2 g3 g4 => ?_⟩
  exact q10 ρ2 lw h zs' (ae_ag_tr (Nat.le_refl _) aN g1) g2 g3 g4
theorem ae_gi_mono : ∀ (is : List (ae_Tg × ae_X)) (k : ae_K) (lv : ae_L) (M : List ae_M), k.1 ≤ (ae_gi is k lv M).1.1
  | [], k, _, _ => Nat.le_refl _
  | i :: r, k, lv, M => Nat.le_trans (Nat.le_succ k.1) (ae_gi_mono r (ae_fnew k i.1.2.2.2.2.2.1 i.1.2.2.2.2.2.2.1 (ae_tf i.1 (ae_tv i.2 k.1))) _ _)
section AEX
variable {ex : Bool} {mo : ae_Mo} {L : Nat} {xs : Nat → Int32} {h : List am_E} {lw : am_L} {sw : List Value}
theorem ae_kl_ok {ρ : Nat → Int} {m n : Nat} {lv : ae_L} (hl : ae_lr m ρ lv lw) (hn : n ≤ m ∨ True) : ∀ {ls : List Nat} {kl : ae_L}, ae_kl lv n ls = some kl → ae_lr n ρ kl lw ∧ ∀ q ∈ kl, ae_wt n q.2.2.2.2
  | [], kl, q => by cases q; exact ⟨fun p hp => absurd hp List.not_mem_nil, fun p hp => absurd hp List.not_mem_nil⟩
  | i :: r, kl, q => by
    obtain ⟨a, h1, q⟩ := Option.bind_eq_some_iff.mp q
    obtain ⟨hb, q⟩ := ae_bif q
    obtain ⟨s, h2, q⟩ := Option.bind_eq_some_iff.mp q
    cases q
    obtain ⟨v, g1, g2⟩ := ae_lg_ok hl h1
    obtain ⟨i1, i2⟩ := ae_kl_ok hl hn h2
    have w := ae_wb_ok hb
    refine ⟨fun p hp => ?_, fun p hp => ?_⟩
    · rcases List.mem_cons.mp hp with rfl | hp
      · exact ⟨v, g1, ae_ok_wt g2 w⟩
      · exact i1 p hp
    · rcases List.mem_cons.mp hp with rfl | hp
      · exact w
      · exact i2 p hp
theorem ae_eo_wt {ρ : Nat → Int} {m n : Nat} {q : ae_M} (w1 : ae_wt n q.2.1.2) (w2 : ae_wt n q.2.2.1.2.2.2) (h1 : ae_eo m ρ L xs h q) : ae_eo n ρ L xs h q := by
  obtain ⟨j, v, g1, g2, g3⟩ := h1
  exact ⟨j, v, ⟨w1, g1.2⟩, g2, ae_ok_wt g3 w2⟩
/-- a head is reached for the first time -/
theorem ae_gn_ok (hr : ae_rok = true) (hf : ae_fok = true) {ρ : Nat → Int} {k : ae_K} {M : List ae_M} {lv : ae_L} {st : List ae_V} {cu : ae_Cu} {pc : Nat} {c : ae_Cx} (gH : ae_mm ex ρ L xs k M lv st lw sw h) (q : ae_gn ex cu pc k M lv st = some c) :
    st = [] ∧ c.1 = pc ∧ ∃ ρ2, ae_up2 ρ k ρ2 c.2.1 ∧ ae_k0 ρ2 L c.2.1 ∧ (∀ m ∈ c.2.2.1, ae_wt c.2.1.1 m.2.1.2 ∧ ae_wt c.2.1.1 m.2.2.1.2.2.2) ∧ (∀ q ∈ c.2.2.2.1, ae_wt c.2.1.1 q.2.2.2.2) ∧ (∀ i ∈ c.2.2.2.2.1, ae_wt c.2.1.1 i.2.2) ∧
    ∃ ρ3 zs, ae_up2 ρ2 c.2.1 ρ3 (ae_gx c).1 ∧ ae_mm ex ρ3 L xs (ae_gx c).1 (ae_gx c).2.2.1 (ae_gx c).2.1 [] lw [] h ∧ ae_dns (ae_gx c).1.1 ρ3 (ae_gx c).2.2.2 zs := by
  unfold ae_gn at q
  split at q
  · obtain ⟨M1, h1, q⟩ := Option.bind_eq_some_iff.mp q
    obtain ⟨⟨k2, M2⟩, h2, q⟩ := Option.bind_eq_some_iff.mp q
    obtain ⟨is, h3, q⟩ := Option.bind_eq_some_iff.mp q
    obtain ⟨kl, h4, q⟩ := Option.bind_eq_some_iff.mp q
    obtain ⟨hb, q⟩ := ae_bif q
    cases q
    obtain ⟨H1, D1⟩ := ae_vd_ok hf gH.1 gH.2.2.1 h1
    obtain ⟨ρ2, u2, H2⟩ := ae_lds_ok hr gH.1 H1 h2
    have hl2 := ae_lr_ext u2.1 u2.2.1 gH.2.2.2.1
    rw [Bool.and_eq_true] at hb
    obtain ⟨zs, hz, htp⟩ := ae_tn_ok u2.2.2 H2 hl2 (fun i hi => ae_wb_ok (List.all_eq_true.mp hb.1 i hi)) (ae_it_ok u2.2.2 H2 hl2 h3) hb.2
    obtain ⟨kl1, kl2⟩ := ae_kl_ok hl2 (Or.inr trivial) h4
    have w6 : ∀ m ∈ M2.filter (ae_kx k2 cu), ae_wt k2.1 m.2.1.2 ∧ ae_wt k2.1 m.2.2.1.2.2.2 := by
      intro m hm
      have := (List.mem_filter.mp hm).2
      unfold ae_kx at this
      simp only [Bool.and_eq_true] at this
      exact ⟨ae_wb_ok this.1.2, ae_wb_ok this.2⟩
    have w8 : ∀ i ∈ is, ae_wt k2.1 i.2.2 := fun i hi => ae_wb_ok (List.all_eq_true.mp hb.1 i hi)
    have hk0 := ae_k0_up gH.2.1 u2
    refine ⟨rfl, rfl, ρ2, u2, hk0, w6, kl2, w8, ?_⟩
    -- entries of M2 that are dirty: none, as there were none behind the check
    have hnd : ∀ p j, ¬ ae_dy ρ M1 p j := fun p j hd => by have := D1 p j hd; exact absurd this.1 (by decide)
    have H3 : ae_hp ex k2.1 ρ2 L xs [] h := by
      have := ae_hp_sub (M' := []) (m := k.1) H1 hnd (fun q hq => absurd hq List.not_mem_nil)
      exact ae_hp_ext u2.1 u2.2.1 this
    have H4 : ae_hp ex k2.1 ρ2 L xs (M2.filter (ae_kx k2 cu)) h := by
      refine ae_hp_sub H3 (fun p j hd => ?_) (fun q hq => H2.2.1 q (List.mem_filter.mp hq).1)
      obtain ⟨m, hm, -⟩ := hd
      exact absurd hm List.not_mem_nil
    obtain ⟨ρ3, u3, mm3, d3⟩ := ae_gi_ok (is := is) (zs := zs) u2.2.2 hk0 H4 kl1 hz
    exact ⟨ρ3, zs, u3, ae_gf_ok mm3 hz d3 htp, d3⟩
  · cases q
/-- a head is reached again -/
theorem ae_bk_ok (hr : ae_rok = true) (hf : ae_fok = true) {ρ : Nat → Int} {k : ae_K} {M : List ae_M} {lv : ae_L} {st : List ae_V} {c : ae_Cx} {n0 d y : Nat} {T : List ae_Ou} (gH : ae_mm ex ρ L xs k M lv st lw sw h) (hc : ae_Cok c ex mo L xs n0 T d y k ρ) (q : ae_bkk ex c k M lv st = true) : sw = [] ∧ ae_W ex mo L xs n0 ρ T d y c.1 lw [] h := by
  obtain ⟨q1, q2, q3, q4, q5, q6, q7, q8, zs, q9, q10⟩ := hc
  unfold ae_bkk at q
  split at q
  · split at q
    · rename_i M1 h1
      split at q
      · rename_i z h2
        obtain ⟨k2, M2⟩ := z
        simp only [Bool.and_eq_true] at q
        obtain ⟨⟨r1, r2⟩, r3⟩ := q
        split at r1
        · rename_i ws h3
          rw [Bool.and_eq_true] at r1
          obtain ⟨r1, r4⟩ := r1
          have hsw : sw = [] := by
            have := gH.2.2.2.2
            cases sw with
            | nil => rfl
            | cons v t => exact absurd this id
          obtain ⟨H1, D1⟩ := ae_vd_ok hf gH.1 gH.2.2.1 h1
          obtain ⟨ρ2, u2, H2⟩ := ae_lds_ok hr gH.1 H1 h2
          have hl2 := ae_lr_ext u2.1 u2.2.1 gH.2.2.2.1
          have hz := ae_ib2_ok (n := c.2.1.1) u2.2.2 H2 hl2 q8 h3
          have aN : ae_ag c.2.1.1 ρ ρ2 := fun s hs => u2.2.1 s (by omega)
          have hnd : ∀ p j, ¬ ae_dy ρ M1 p j := fun p j hd => by have := D1 p j hd; exact absurd this.1 (by decide)
          have H3 : ae_hp ex c.2.1.1 ρ2 L xs [] h := by
            have := ae_hp_sub (M' := []) (m := 0) H1 hnd (fun q hq => absurd hq List.not_mem_nil)
            exact ae_hp_ext (Nat.zero_le _) (fun s hs => absurd hs (Nat.not_lt_zero s)) this
          have H4 : ae_hp ex c.2.1.1 ρ2 L xs c.2.2.1 h := by
            refine ae_hp_sub H3 (fun p j hd => ?_) (fun m hm => ?_)
            · obtain ⟨m, hm, -⟩ := hd
              exact absurd hm List.not_mem_nil
            · have h4 := List.all_eq_true.mp r3 m hm
              rw [Bool.and_eq_true] at h4
              have h5 := h4.2
              split at h5
              · rename_i m' hm'
                obtain ⟨g1, g2, g3⟩ := ae_fd_ok hm'
                have g4 := ae_ve_ok h5
                obtain ⟨j, v, e1, e2, e3⟩ := H2.2.1 m' g1
                rw [g3] at e1
                rw [g2] at e2
                rw [g4] at e3
                exact ae_eo_wt (q6 m hm).1 (q6 m hm).2 ⟨j, v, e1, e2, e3⟩
              · cases h5
          have hl4 : ae_lr c.2.1.1 ρ2 c.2.2.2.1 lw := by
            intro p hp
            have h4 := List.all_eq_true.mp r2 p hp
            split at h4
            · rename_i a ha
              obtain ⟨v, g1, g2⟩ := ae_lg_ok hl2 ha
              rw [ae_ve_ok h4] at g2
              exact ⟨v, g1, ae_ok_wt g2 (q7 p hp)⟩
            · cases h4
          have K4 := ae_okK_ext q4 aN
          have k04 : ae_k0 ρ2 L c.2.1 := ⟨q5.1, by rw [aN 0 q5.1.1]; exact q5.2⟩
          obtain ⟨ρ3, u3, mm3, d3⟩ := ae_gi_ok (is := c.2.2.2.2.1) K4 k04 H4 hl4 hz
          have mm5 := ae_gf_ok mm3 hz d3 (ae_tz_ok u2.2.2 r4)
          refine ⟨hsw, ae_W_ag (ρ' := ρ3) (fun s hs => ?_) (q10 ρ3 lw h _ (ae_ag_tr (Nat.le_refl _) aN u3.2.1) mm5 d3 ?_)⟩
          · rw [u3.2.1 s (by omega), aN s (by omega)]
          · -- the rank
            unfold ae_rkc at r1
            split at r1
            · rename_i x v hx hv
              have hlen : ∀ {is : List (ae_Tg × ae_X)} {zs : List Int} {r : Nat} {z : Int}, ae_tx ρ2 c.2.1.1 L xs lw h is zs → zs[r]? = some z → ∃ i, is[r]? = some i ∧ i.1.2.2.2.2.2.2.2.1 ≤ z ∧ z ≤ i.1.2.2.2.2.2.2.2.2 := by
                intro is
                induction is with
                | nil =>
                  intro zs r z g1 g2
                  cases zs with
                  | nil => cases g2
                  | cons _ _ => exact absurd g1 id
                | cons i is ih =>
                  intro zs r z g1 g2
                  cases zs with
                  | nil => exact absurd g1 id
                  | cons w zs =>
                    cases r with
                    | zero => cases g2; exact ⟨i, rfl, g1.1.2.2.2⟩
                    | succ r => exact ih g1.2 g2
              have hdl : ∀ {es : List ae_X} {zs : List Int} {r : Nat} {e : ae_X}, ae_dns (ae_gx c).1.1 ρ es zs → es[r]? = some e → ∃ z, zs[r]? = some z ∧ ae_dn (ae_gx c).1.1 ρ e z := by
                intro es
                induction es with
                | nil => intro zs r e _ g2; cases g2
                | cons e0 es ih =>
                  intro zs r e g1 g2
                  cases zs with
                  | nil => exact absurd g1 id
                  | cons w zs =>
                    cases r with
                    | zero => cases g2; exact ⟨w, rfl, g1.1⟩
                    | succ r => exact ih (zs := zs) (r := r) g1.2 g2
              have hw : (ws.map (ae_ev ρ2))[c.2.2.2.2.2.1]? = some (ae_ev ρ2 x) := by rw [List.getElem?_map, hx]; rfl
              obtain ⟨i, i1, i2, i3⟩ := hlen hz hw
              obtain ⟨z, z1, z2⟩ := hdl q9 hv
              refine ⟨i, z, ae_ev ρ2 x, i1, z1, hw, i2, i3, ?_⟩
              have ev : ae_ev ρ2 v = z := by
                have := ae_dn_ext (Nat.le_trans q3 u2.1) (fun s hs => u2.2.1 s (by omega)) z2
                exact this.2
              cases hup : c.2.2.2.2.2.2 with
              | true =>
                rw [hup] at r1
                have := ae_z_ok u2.2.2 (show ae_z k2 (ae_pls (ae_sub v x) 1) = true from r1)
                rw [ae_pls_ev, ae_sub_ev, ev] at this
                show z + 1 ≤ ae_ev ρ2 x
                omega
              | false =>
                rw [hup] at r1
                have := ae_z_ok u2.2.2 (show ae_z k2 (ae_pls (ae_sub x v) 1) = true from r1)
                rw [ae_pls_ev, ae_sub_ev, ev] at this
                show ae_ev ρ2 x + 1 ≤ z
                omega
            · cases r1
        · cases r1
      · cases q
    · cases q
  · cases q
end AEX
