/-! A state whose way on is shown elsewhere, in pieces -/
noncomputable def ae_go2 (P : ae_P) (O : ae_Go) (n : Nat) : ae_Go :=
  Nat.rec (motive := fun _ => ae_Go) (fun _ _ _ _ _ _ _ _ => none) (fun _ ih dd y pc k M lv st cxs => match O dd y pc k M lv st cxs with
    | some o => some o
    | none => ae_b4 P ih dd y pc k M lv st cxs) n
theorem ae_go2_ok {P : ae_P} {L : Nat} {xs : Nat → Int32} {E nb : Nat} {W0 : Int} {O : ae_Go} (hr : ae_rok = true) (hf : ae_fok = true) (hL : L ≤ 3072) (hct : ∀ c ∈ P.2.2.1, ae_CT c) (hmc : ∀ m ∈ P.2.2.2.2.1, ae_MOK m) (hsf : ∀ s ∈ P.2.2.2.2.2.2.2, ae_CS s.1 s.2.1 s.2.2) (hrc : ae_rec P L xs E nb W0) (hO : ae_main P L xs E nb W0 O) : ∀ n, ae_main P L xs E nb W0 (ae_go2 P O n) := by
  intro n
  induction n with
  | zero => intro dd y pc k M lv st cxs outs q; cases q
  | succ n ih =>
    intro dd y pc k M lv st cxs outs q
    have q : (match O dd y pc k M lv st cxs with
      | some o => some o
      | none => ae_b4 P (ae_go2 P O n) dd y pc k M lv st cxs) = some outs := q
    split at q
    · rename_i o ho
      cases q
      exact hO dd y pc k M lv st cxs outs ho
    · exact ae_b4_ok hr hf hL hsf (ae_b3_ok hr hf hL hmc hrc ih (ae_b2_ok hr hrc (ae_b1_ok hr hf hL hct hrc ih))) dd y pc k M lv st cxs outs q
abbrev ae_Z : Type := Nat × Nat × Nat × ae_K × List ae_M × ae_L × List ae_V × List ae_Cx
/-! whether two states are word for word the same -/
def ae_ql {α : Type} (e : α → α → Bool) : List α → List α → Bool
  | [], [] => true
  | a :: r, b :: t => e a b && ae_ql e r t
  | _, _ => false
def ae_qp {α β : Type} (e : α → α → Bool) (f : β → β → Bool) (a b : α × β) : Bool := e a.1 b.1 && f a.2 b.2
def ae_qb (a b : Bool) : Bool := bif a then b else !b
def ae_qok {α : Type} (e : α → α → Bool) : Prop := ∀ a b, e a b = true → a = b
theorem ae_ql_ok {α : Type} {e : α → α → Bool} (h : ae_qok e) : ae_qok (ae_ql e)
  | [], [], _ => rfl
  | a :: r, b :: t, q => by
    unfold ae_ql at q
    rw [Bool.and_eq_true] at q
    rw [h a b q.1, ae_ql_ok h r t q.2]
  | [], _ :: _, q => by cases q
  | _ :: _, [], q => by cases q
theorem ae_qp_ok {α β : Type} {e : α → α → Bool} {f : β → β → Bool} (h : ae_qok e) (g : ae_qok f) : ae_qok (ae_qp e f) := by
  intro a b q
  unfold ae_qp at q
  rw [Bool.and_eq_true] at q
  obtain ⟨a1, a2⟩ := a
  obtain ⟨b1, b2⟩ := b
  have e1 : a1 = b1 := h _ _ q.1
  have e2 : a2 = b2 := g _ _ q.2
  rw [e1, e2]
theorem ae_qb_ok : ae_qok ae_qb := by
  intro a b q
  cases a <;> cases b <;> first | rfl | cases q
theorem ae_qn_ok : ae_qok Nat.beq := fun _ _ q => Nat.eq_of_beq_eq_true q
theorem ae_qi_ok : ae_qok ae_ie := fun _ _ q => ae_ie_ok q
theorem ae_qx_ok : ae_qok ae_xe := fun _ _ q => ae_xe_ok q
theorem ae_qv_ok : ae_qok ae_ve := fun _ _ q => ae_ve_ok q
def ae_qM : ae_M → ae_M → Bool := ae_qp Nat.beq (ae_qp ae_xe (ae_qp ae_ve ae_qb))
def ae_qK : ae_K → ae_K → Bool := ae_qp Nat.beq (ae_qp (ae_ql (ae_qp Nat.beq (ae_qp ae_ie ae_ie))) (ae_qp (ae_ql ae_xe) (ae_ql (ae_qp ae_xe Nat.beq))))
def ae_qL : ae_L → ae_L → Bool := ae_ql (ae_qp Nat.beq ae_ve)
def ae_qT : ae_Tg → ae_Tg → Bool := ae_qp Nat.beq (ae_qp Nat.beq (ae_qp Nat.beq (ae_qp Nat.beq (ae_qp ae_qb (ae_qp ae_ie (ae_qp ae_ie (ae_qp ae_ie ae_ie)))))))
def ae_qC : ae_Cx → ae_Cx → Bool := ae_qp Nat.beq (ae_qp ae_qK (ae_qp (ae_ql ae_qM) (ae_qp ae_qL (ae_qp (ae_ql (ae_qp ae_qT ae_xe)) (ae_qp Nat.beq ae_qb)))))
def ae_qZ : ae_Z → ae_Z → Bool := ae_qp Nat.beq (ae_qp Nat.beq (ae_qp Nat.beq (ae_qp ae_qK (ae_qp (ae_ql ae_qM) (ae_qp ae_qL (ae_qp (ae_ql ae_ve) (ae_ql ae_qC)))))))
theorem ae_qM_ok : ae_qok ae_qM := ae_qp_ok ae_qn_ok (ae_qp_ok ae_qx_ok (ae_qp_ok ae_qv_ok ae_qb_ok))
theorem ae_qK_ok : ae_qok ae_qK := ae_qp_ok ae_qn_ok (ae_qp_ok (ae_ql_ok (ae_qp_ok ae_qn_ok (ae_qp_ok ae_qi_ok ae_qi_ok))) (ae_qp_ok (ae_ql_ok ae_qx_ok) (ae_ql_ok (ae_qp_ok ae_qx_ok ae_qn_ok))))
theorem ae_qL_ok : ae_qok ae_qL := ae_ql_ok (ae_qp_ok ae_qn_ok ae_qv_ok)
theorem ae_qT_ok : ae_qok ae_qT := ae_qp_ok ae_qn_ok (ae_qp_ok ae_qn_ok (ae_qp_ok ae_qn_ok (ae_qp_ok ae_qn_ok (ae_qp_ok ae_qb_ok (ae_qp_ok ae_qi_ok (ae_qp_ok ae_qi_ok (ae_qp_ok ae_qi_ok ae_qi_ok)))))))
theorem ae_qC_ok : ae_qok ae_qC := ae_qp_ok ae_qn_ok (ae_qp_ok ae_qK_ok (ae_qp_ok (ae_ql_ok ae_qM_ok) (ae_qp_ok ae_qL_ok (ae_qp_ok (ae_ql_ok (ae_qp_ok ae_qT_ok ae_qx_ok)) (ae_qp_ok ae_qn_ok ae_qb_ok)))))
theorem ae_qZ_ok : ae_qok ae_qZ := ae_qp_ok ae_qn_ok (ae_qp_ok ae_qn_ok (ae_qp_ok ae_qn_ok (ae_qp_ok ae_qK_ok (ae_qp_ok (ae_ql_ok ae_qM_ok) (ae_qp_ok ae_qL_ok (ae_qp_ok (ae_ql_ok ae_qv_ok) (ae_ql_ok ae_qC_ok)))))))
def ae_orc (z : ae_Z) : ae_Go := fun dd y pc k M lv st cxs => bif Nat.beq pc z.2.2.1 && ae_qZ (dd, y, pc, k, M, lv, st, cxs) z then some [] else none
def ae_e0 (o : Option (List ae_Ou)) : Bool := match o with
  | some [] => true
  | _ => false
theorem ae_e0_ok {o : Option (List ae_Ou)} (q : ae_e0 o = true) : o = some [] := by
  unfold ae_e0 at q
  split at q
  · rfl
  · cases q
/-- pieces a to a + b of the cases of a state -/
noncomputable def ae_ptc (P : ae_P) (fuel : Nat) (z : ae_Z) (ss : List ae_Sp) (a b : Nat) : Bool := match ae_sx P.1 z.2.2.2.2.2.2.1 ss z.2.2.2.1 z.2.2.2.2.1 with
  | some qs => ((qs.drop a).take b).all fun q => ae_e0 (ae_b1 P (ae_go P fuel) z.1 z.2.1 z.2.2.1 q.1 q.2 z.2.2.2.2.2.1 z.2.2.2.2.2.2.1 z.2.2.2.2.2.2.2)
  | none => false
def ae_ptl (P : ae_P) (z : ae_Z) (ss : List ae_Sp) (n : Nat) : Bool := match ae_sx P.1 z.2.2.2.2.2.2.1 ss z.2.2.2.1 z.2.2.2.2.1 with
  | some qs => Nat.ble qs.length n
  | none => false
theorem ae_orc_ok {c : ae_Ct} {cts : List ae_Ct} {mcs : List ae_Mc} {cus : List (Nat × Nat × ae_Cu)} {sps : List ae_Sp} {sfs : List (Nat × List (Int × Int) × ae_Ct)} (hr : ae_rok = true) (hf : ae_fok = true) (hct : ∀ c ∈ cts, ae_CT c) (hmc : ∀ m ∈ mcs, ae_MOK m) (hsf : ∀ s ∈ sfs, ae_CS s.1 s.2.1 s.2.2) {z : ae_Z} {ss : List ae_Sp} {fuel n b : Nat} (hl : ae_ptl (ae_Pc c cts none mcs cus sps sfs) z ss (n * b) = true) (hp : ∀ i, i < n → ae_ptc (ae_Pc c cts none mcs cus sps sfs) fuel z ss (i * b) b = true) :
    ∀ (L : Nat) (xs : Nat → Int32) (nb : Nat), L ≤ 3072 → ae_main (ae_Pc c cts none mcs cus sps sfs) L xs 0 nb 0 (ae_orc z) := by
  intro L xs nb hL dd y pc k M lv st cxs outs q ρ d lw sw h T n0 hd hT hn hnb hw gH hcx
  unfold ae_orc at q
  obtain ⟨hb, q⟩ := ae_bif q
  cases q
  rw [Bool.and_eq_true] at hb
  obtain rfl := ae_qZ_ok _ _ hb.2
  have hrc : ae_rec (ae_Pc c cts none mcs cus sps sfs) L xs 0 nb 0 := fun c' K e he => by cases he
  unfold ae_ptl at hl
  split at hl
  · rename_i qs hqs
    obtain ⟨z, m, ρ1, u1, g1⟩ := ae_sx_ok hr gH hqs
    obtain ⟨j, hj, hz⟩ := List.getElem_of_mem m
    have hlen := Nat.le_of_ble_eq_true hl
    have hb0 : 0 < b := by
      rcases Nat.eq_zero_or_pos b with e | e
      · rw [e, Nat.mul_zero] at hlen; omega
      · exact e
    have hi : j / b < n := Nat.div_lt_of_lt_mul (by rw [Nat.mul_comm]; omega)
    have hc := hp (j / b) hi
    unfold ae_ptc at hc
    rw [hqs] at hc
    have hmem : z ∈ (qs.drop (j / b * b)).take b := by
      have h1 : j / b * b + j % b = j := Nat.div_add_mod' j b
      have h2 : j % b < b := Nat.mod_lt _ hb0
      refine List.mem_of_getElem? (i := j % b) ?_
      rw [List.getElem?_take, if_pos h2, List.getElem?_drop, h1, List.getElem?_eq_getElem hj, hz]
    have ho := ae_e0_ok (List.all_eq_true.mp hc z hmem)
    have w := ae_b1_ok hr hf hL hct hrc (ae_go_ok hr hf hL hct hmc hsf hrc fuel) dd y pc z.1 z.2 lv st cxs [] ho ρ1 d lw sw h T n0 hd (fun o ho => absurd ho List.not_mem_nil) (Nat.le_trans hn u1.1) (Nat.le_trans hnb u1.1) (fun c' K e he => by cases he) g1 (fun c hc => ae_Cok_up u1.1 u1.2.1 (hcx c hc))
    exact ae_W_ag (fun s hs => u1.2.1 s (Nat.lt_of_lt_of_le hs hn)) w
  · cases hl
noncomputable def ae_ch2 (O : ae_Go) (fuel : Nat) (c : ae_Ct) (cts : List ae_Ct) (mcs : List ae_Mc) (cus : List (Nat × Nat × ae_Cu)) (sps : List ae_Sp) (sfs : List (Nat × List (Int × Int) × ae_Ct)) (pc0 : Nat) (pre : List (Int × Int)) : Bool := ae_wok c.2.2.2.2.1 &&
  (match ae_ia c.2.1 ae_k00 with
  | some a => (match ae_wl c.2.2.2.2.2.2.1 c.2.2.2.2.1 a.1 [] with
    | some w => (ae_ask w.1 (ae_prl pre w.2.2)).all fun k1 => (match ae_go2 (ae_Pc c cts none mcs cus sps sfs) O fuel c.2.2.2.2.2.2.2 c.1 pc0 k1 w.2.1 (ae_ag2 0 a.2) [] [] with
      | some outs => outs.all (ae_fi c w.2.2)
      | none => false)
    | none => false)
  | none => false)
theorem ae_con2 {O : ae_Go} (hr : ae_rok = true) (hf : ae_fok = true) {fuel : Nat} {c : ae_Ct} {cts : List ae_Ct} {mcs : List ae_Mc} {cus : List (Nat × Nat × ae_Cu)} {sps : List ae_Sp} {sfs : List (Nat × List (Int × Int) × ae_Ct)} {pc0 : Nat} {pre : List (Int × Int)} (q : ae_ch2 O fuel c cts mcs cus sps sfs pc0 pre = true) (hct : ∀ c ∈ cts, ae_CT c) (hmc : ∀ m ∈ mcs, ae_MOK m) (hsf : ∀ s ∈ sfs, ae_CS s.1 s.2.1 s.2.2)
    (hO : ∀ (L : Nat) (xs : Nat → Int32) (nb : Nat), L ≤ 3072 → ae_main (ae_Pc c cts none mcs cus sps sfs) L xs 0 nb 0 O)
    {L : Nat} {xs : Nat → Int32} {vs : List Value} {lw : am_L} {h : List am_E} {d : Nat} (hL : L ≤ 3072) (hvs : ae_avs c.2.1 vs) (hlw : ∀ i v, am_lk (lv_args 0 vs) i = some v → am_lk lw i = some v) (hk : ae_hk c.2.2.2.2.2.2.1 L xs h) (hpre : ae_prp L xs h c.2.2.2.2.1 pre) (hE : c.2.2.2.2.2.2.2 + 0 ≤ d) : ae_C2 pc0 c L xs lw h d := by
  unfold ae_ch2 at q
  rw [Bool.and_eq_true] at q
  obtain ⟨hwok, q⟩ := q
  split at q
  · rename_i a ha
    split at q
    · rename_i w hw
      have K0 : ae_okK (fun _ => (L : Int)) ae_k00 := by
        refine ⟨fun p hp => ?_, fun f hf => absurd hf List.not_mem_nil, fun d hd => absurd hd List.not_mem_nil⟩
        rw [List.mem_singleton.mp hp]
        exact ⟨Nat.one_pos, by show (0 : Int) ≤ (L : Int); omega, by show (L : Int) ≤ 3072; omega⟩
      have k00 : ae_k0 (fun _ => (L : Int)) L ae_k00 := ⟨⟨Nat.one_pos, by omega⟩, rfl⟩
      obtain ⟨ρ1, u1, s1⟩ := ae_ia_ok K0 hvs ha
      obtain ⟨ρ2, u2, H2, o2⟩ := ae_wl_ok hr hwok hk u1.2.2 (ae_hp_of (ρ := ρ1) a.1.1 hk) hw
      obtain ⟨k1, mk1, K1, n1⟩ := ae_ask_ok u2.2.2 (ae_prl_ok o2 hpre)
      have q1 := List.all_eq_true.mp q k1 mk1
      have u2 : ae_up2 ρ1 a.1 ρ2 k1 := ⟨by rw [n1]; exact u2.1, u2.2.1, K1⟩
      have H2 : ae_hp c.2.2.2.2.2.2.1 k1.1 ρ2 L xs w.2.1 h := by rw [n1]; exact H2
      have o2 : ae_old k1.1 ρ2 L xs h c.2.2.2.2.1 w.2.2 := by rw [n1]; exact o2
      split at q1
      · rename_i outs hgo
        have u12 := u1.tr u2
        have mm : ae_mm c.2.2.2.2.2.2.1 ρ2 L xs k1 w.2.1 (ae_ag2 0 a.2) [] lw [] h := ⟨u2.2.2, ae_k0_up k00 u12, H2, fun p hp => (by obtain ⟨v, e1, e2⟩ := ae_ag2_ok 0 (ae_sr_ext u2.1 u2.2.1 s1) p hp; exact ⟨v, hlw _ _ e1, e2⟩), trivial⟩
        have hrc : ae_rec (ae_Pc c cts none mcs cus sps sfs) L xs 0 k1.1 0 := fun c' K e he => by cases he
        have hw0 : ae_w0 (ae_Pc c cts none mcs cus sps sfs) ρ2 0 := fun c' K e he => by cases he
        obtain ⟨n, r, h', g1, g2, o, m, ρ', g3, g4, g5, g6, g7, g8⟩ := ae_go2_ok hr hf hL hct hmc hsf hrc (hO L xs k1.1 hL) fuel c.2.2.2.2.2.2.2 c.1 pc0 k1 w.2.1 (ae_ag2 0 a.2) [] [] outs hgo ρ2 d lw [] h outs k1.1 hE (fun _ h => h) (Nat.le_refl _) (Nat.le_refl _) hw0 mm (fun c hc => absurd hc List.not_mem_nil)
        have hfi := List.all_eq_true.mp q1 o m
        unfold ae_fi at hfi
        split at hfi
        · rename_i M hM
          rw [Bool.and_eq_true] at hfi
          obtain ⟨f1, f2⟩ := hfi
          obtain ⟨H3, D3⟩ := ae_vd_ok hf g5 (show ae_hp c.2.2.2.2.2.2.1 o.1.1 ρ' L xs o.2.1 h' from g7) hM
          have hk' := ae_hk_of hf (fun e => e) H3 D3
          refine ⟨n, r, h', g1, hk', g2, ?_, ?_⟩
          · unfold ae_rt
            unfold ae_ro at g8
            cases hcr : c.2.2.1 with
            | none =>
              rw [hcr] at f1
              cases ho : o.2.2 with
              | none => rw [ho] at g8; exact g8
              | some a' => rw [ho] at f1; cases f1
            | some i =>
              rw [hcr] at f1
              cases ho : o.2.2 with
              | none => rw [ho] at f1; cases f1
              | some a' =>
                rw [ho] at f1 g8
                have f1 : ae_wi o.1 a' i = true := f1
                obtain ⟨v, rfl, hv⟩ := g8
                refine ⟨v, rfl, ae_wi_ok g5 hv f1 ⟨rfl, Int.le_refl _, Int.le_refl _⟩, ?_⟩
                unfold ae_wi at f1
                simp only [Bool.and_eq_true, Bool.or_eq_true] at f1
                have e1 := Nat.eq_of_beq_eq_true f1.1.2
                rcases f1.1.1 with e2 | e2
                · have := Nat.eq_of_beq_eq_true e2; omega
                · have := Nat.eq_of_beq_eq_true e2; omega
          · split at f2
            · rename_i z hz
              obtain ⟨ρ3, u3, H4, o4⟩ := ae_wl_ok hr hwok hk' g5 H3 hz
              obtain ⟨al, al1, al2⟩ := List.any_eq_true.mp f2
              refine ⟨al, al1, ?_⟩
              have o5 := ae_old_ext (Nat.le_trans g3 u3.1) (ae_ag_tr g3 g4 u3.2.1) o2
              exact ae_ac_ok u3.2.2 o5 o4 al2
            · cases f2
        · cases hfi
      · cases q1
    · cases q
  · cases q
/-- the rest of a method, with such a state -/
theorem ae_suf_ok2 {O : ae_Go} (hr : ae_rok = true) (hf : ae_fok = true) {fuel pc0 : Nat} {pre : List (Int × Int)} {c : ae_Ct} {cts : List ae_Ct} {mcs : List ae_Mc} {cus : List (Nat × Nat × ae_Cu)} {sps : List ae_Sp} {sfs : List (Nat × List (Int × Int) × ae_Ct)} (q : ae_ch2 O fuel c cts mcs cus sps sfs pc0 pre = true) (hct : ∀ c ∈ cts, ae_CT c) (hmc : ∀ m ∈ mcs, ae_MOK m) (hsf : ∀ s ∈ sfs, ae_CS s.1 s.2.1 s.2.2) (hO : ∀ (L : Nat) (xs : Nat → Int32) (nb : Nat), L ≤ 3072 → ae_main (ae_Pc c cts none mcs cus sps sfs) L xs 0 nb 0 O) : ae_CS pc0 pre c := by
  intro L xs vs lw h d hL hvs hlw hk hp hd
  exact ae_con2 hr hf q hct hmc hsf hO hL hvs hlw hk hp hd
