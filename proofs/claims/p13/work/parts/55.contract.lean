theorem ae_con1 (hr : ae_rok = true) (hf : ae_fok = true) {fuel : Nat} {c : ae_Ct} {cts : List ae_Ct} {rc : Option (ae_Ct × Int)} {mcs : List ae_Mc} {cus : List (Nat × Nat × ae_Cu)} {sps : List ae_Sp} {sfs : List (Nat × List (Int × Int) × ae_Ct)} {pc0 : Nat} {pre : List (Int × Int)} (q : ae_chc fuel c cts rc mcs cus sps sfs pc0 pre = true) (hct : ∀ c ∈ cts, ae_CT c) (hmc : ∀ m ∈ mcs, ae_MOK m) (hsf : ∀ s ∈ sfs, ae_CS s.1 s.2.1 s.2.2)
    {L : Nat} {xs : Nat → Int32} {vs : List Value} {lw : am_L} {h : List am_E} {d E : Nat} {W0 : Int} (hL : L ≤ 3072) (hvs : ae_avs c.2.1 vs) (hlw : ∀ i v, am_lk (lv_args 0 vs) i = some v → am_lk lw i = some v) (hk : ae_hk c.2.2.2.2.2.2.1 L xs h) (hpre : ae_prp L xs h c.2.2.2.2.1 pre) (hE : c.2.2.2.2.2.2.2 + E ≤ d)
    (hrec : ∀ c' K, rc = some (c', K) → (∃ w r, c.2.2.2.2.1 = w :: r ∧ W0 = ae_wv L xs h w) ∧ E = 2 * (K - W0).toNat ∧ ∀ vs h d, ae_avs c'.2.1 vs → ae_hk c'.2.2.2.2.2.2.1 L xs h → (∃ w r, c'.2.2.2.2.1 = w :: r ∧ W0 + 1 ≤ ae_wv L xs h w ∧ ae_wv L xs h w ≤ K ∧ c'.2.2.2.2.2.2.2 + 2 * (K - ae_wv L xs h w).toNat ≤ d) → ae_C1 c' L xs vs h d) : ae_C2 pc0 c L xs lw h d := by
  unfold ae_chc at q
  rw [Bool.and_eq_true] at q
  obtain ⟨hwok, q⟩ := q
  split at q
  · rename_i a ha
    split at q
    · rename_i w hw
      have K0 : ae_okK (fun _ => (L : Int)) ae_k00 := by
        refine ⟨fun p hp => ?_, fun f hf => absurd hf List.not_mem_nil, fun d hd => absurd hd List.not_mem_nil⟩
        rw [List.mem_singleton.mp hp]
        exact ⟨Nat.one_pos, by show (0 : Int) ≤ (L : Int); omega, by show (L : Int) ≤ 3072; omega⟩
      have k00 : ae_k0 (fun _ => (L : Int)) L ae_k00 := ⟨⟨Nat.one_pos, by omega⟩, rfl⟩
      obtain ⟨ρ1, u1, s1⟩ := ae_ia_ok K0 hvs ha
      obtain ⟨ρ2, u2, H2, o2⟩ := ae_wl_ok hr hwok hk u1.2.2 (ae_hp_of (ρ := ρ1) a.1.1 hk) hw
      obtain ⟨k1, mk1, K1, n1⟩ := ae_ask_ok u2.2.2 (ae_prl_ok o2 hpre)
      have q1 := List.all_eq_true.mp q k1 mk1
      have u2 : ae_up2 ρ1 a.1 ρ2 k1 := ⟨by rw [n1]; exact u2.1, u2.2.1, K1⟩
      have H2 : ae_hp c.2.2.2.2.2.2.1 k1.1 ρ2 L xs w.2.1 h := by rw [n1]; exact H2
      have o2 : ae_old k1.1 ρ2 L xs h c.2.2.2.2.1 w.2.2 := by rw [n1]; exact o2
      split at q1
      · rename_i outs hgo
        have u12 := u1.tr u2
        have mm : ae_mm c.2.2.2.2.2.2.1 ρ2 L xs k1 w.2.1 (ae_ag2 0 a.2) [] lw [] h := ⟨u2.2.2, ae_k0_up k00 u12, H2, fun p hp => (by obtain ⟨v, e1, e2⟩ := ae_ag2_ok 0 (ae_sr_ext u2.1 u2.2.1 s1) p hp; exact ⟨v, hlw _ _ e1, e2⟩), trivial⟩
        have hP : ∀ c' K e, (ae_Pc c cts (rc.bind fun q => w.2.2.head?.bind fun e => some (q.1, q.2, e)) mcs cus sps sfs).2.2.2.1 = some (c', K, e) → rc = some (c', K) ∧ w.2.2.head? = some e := by
          intro c' K e he
          obtain ⟨z, z1, he⟩ := Option.bind_eq_some_iff.mp (show (rc.bind _) = _ from he)
          obtain ⟨e', z2, he⟩ := Option.bind_eq_some_iff.mp he
          cases he
          exact ⟨z1, z2⟩
        have hold : ∀ c' K e, rc = some (c', K) → w.2.2.head? = some e → ae_dn k1.1 ρ2 e W0 := by
          intro c' K e h1 h2
          obtain ⟨⟨w', r, h3, h4⟩, -, -⟩ := hrec c' K h1
          rw [h3] at o2
          cases hes : w.2.2 with
          | nil => rw [hes] at h2; cases h2
          | cons x t =>
            rw [hes] at h2 o2
            cases h2
            rw [h4]
            exact o2.1
        have hrc : ae_rec (ae_Pc c cts (rc.bind fun q => w.2.2.head?.bind fun e => some (q.1, q.2, e)) mcs cus sps sfs) L xs E k1.1 W0 := by
          intro c' K e he
          obtain ⟨h1, h2⟩ := hP c' K e he
          obtain ⟨-, h4, h5⟩ := hrec c' K h1
          exact ⟨h4, (hold c' K e h1 h2).1, h5⟩
        have hw0 : ae_w0 (ae_Pc c cts (rc.bind fun q => w.2.2.head?.bind fun e => some (q.1, q.2, e)) mcs cus sps sfs) ρ2 W0 := by
          intro c' K e he
          obtain ⟨h1, h2⟩ := hP c' K e he
          exact (hold c' K e h1 h2).2
        obtain ⟨n, r, h', g1, g2, o, m, ρ', g3, g4, g5, g6, g7, g8⟩ := ae_go_ok hr hf hL hct hmc hsf hrc fuel c.2.2.2.2.2.2.2 c.1 pc0 k1 w.2.1 (ae_ag2 0 a.2) [] [] outs hgo ρ2 d lw [] h outs k1.1 hE (fun _ h => h) (Nat.le_refl _) (Nat.le_refl _) hw0 mm (fun c hc => absurd hc List.not_mem_nil)
        have hfi := List.all_eq_true.mp q1 o m
        unfold ae_fi at hfi
        split at hfi
        · rename_i M hM
          rw [Bool.and_eq_true] at hfi
          obtain ⟨f1, f2⟩ := hfi
          obtain ⟨H3, D3⟩ := ae_vd_ok hf g5 (show ae_hp c.2.2.2.2.2.2.1 o.1.1 ρ' L xs o.2.1 h' from g7) hM
          have hk' := ae_hk_of hf (fun e => e) H3 D3
          refine ⟨n, r, h', g1, hk', g2, ?_, ?_⟩
          · unfold ae_rt
            unfold ae_ro at g8
            cases hcr : c.2.2.1 with
            | none =>
              rw [hcr] at f1
              cases ho : o.2.2 with
              | none => rw [ho] at g8; exact g8
              | some a' => rw [ho] at f1; cases f1
            | some i =>
              rw [hcr] at f1
              cases ho : o.2.2 with
              | none => rw [ho] at f1; cases f1
              | some a' =>
                rw [ho] at f1 g8
                have f1 : ae_wi o.1 a' i = true := f1
                obtain ⟨v, rfl, hv⟩ := g8
                refine ⟨v, rfl, ae_wi_ok g5 hv f1 ⟨rfl, Int.le_refl _, Int.le_refl _⟩, ?_⟩
                unfold ae_wi at f1
                simp only [Bool.and_eq_true, Bool.or_eq_true] at f1
                have e1 := Nat.eq_of_beq_eq_true f1.1.2
                rcases f1.1.1 with e2 | e2
                · have := Nat.eq_of_beq_eq_true e2; omega
                · have := Nat.eq_of_beq_eq_true e2; omega
          · split at f2
            · rename_i z hz
              obtain ⟨ρ3, u3, H4, o4⟩ := ae_wl_ok hr hwok hk' g5 H3 hz
              obtain ⟨al, al1, al2⟩ := List.any_eq_true.mp f2
              refine ⟨al, al1, ?_⟩
              have o5 := ae_old_ext (Nat.le_trans g3 u3.1) (ae_ag_tr g3 g4 u3.2.1) o2
              exact ae_ac_ok u3.2.2 o5 o4 al2
            · cases f2
        · cases hfi
      · cases q1
    · cases q
  · cases q
theorem ae_con_oks (hr : ae_rok = true) (hf : ae_fok = true) {fuel : Nat} {c : ae_Ct} {cts : List ae_Ct} {mcs : List ae_Mc} {cus : List (Nat × Nat × ae_Cu)} {sps : List ae_Sp} {sfs : List (Nat × List (Int × Int) × ae_Ct)} (q : ae_chc fuel c cts none mcs cus sps sfs 0 [] = true) (hct : ∀ c ∈ cts, ae_CT c) (hmc : ∀ m ∈ mcs, ae_MOK m) (hsf : ∀ s ∈ sfs, ae_CS s.1 s.2.1 s.2.2) : ae_CT c := by
  intro L xs vs h d hL hvs hk hd
  exact ae_con1 (E := 0) (W0 := 0) (pc0 := 0) (lw := lv_args 0 vs) hr hf q hct hmc hsf hL hvs (fun _ _ h => h) hk (by cases c.2.2.2.2.1 <;> exact trivial) hd (fun _ _ e => by cases e)
theorem ae_con_ok (hr : ae_rok = true) (hf : ae_fok = true) {fuel : Nat} {c : ae_Ct} {cts : List ae_Ct} {mcs : List ae_Mc} {cus : List (Nat × Nat × ae_Cu)} {sps : List ae_Sp} (q : ae_chc fuel c cts none mcs cus sps [] 0 [] = true) (hct : ∀ c ∈ cts, ae_CT c) (hmc : ∀ m ∈ mcs, ae_MOK m) : ae_CT c :=
  ae_con_oks hr hf q hct hmc (fun _ e => absurd e List.not_mem_nil)
/-- the rest of a method -/
theorem ae_suf_ok (hr : ae_rok = true) (hf : ae_fok = true) {fuel pc0 : Nat} {pre : List (Int × Int)} {c : ae_Ct} {cts : List ae_Ct} {mcs : List ae_Mc} {cus : List (Nat × Nat × ae_Cu)} {sps : List ae_Sp} {sfs : List (Nat × List (Int × Int) × ae_Ct)} (q : ae_chc fuel c cts none mcs cus sps sfs pc0 pre = true) (hct : ∀ c ∈ cts, ae_CT c) (hmc : ∀ m ∈ mcs, ae_MOK m) (hsf : ∀ s ∈ sfs, ae_CS s.1 s.2.1 s.2.2) : ae_CS pc0 pre c := by
  intro L xs vs lw h d hL hvs hlw hk hp hd
  exact ae_con1 (E := 0) (W0 := 0) hr hf q hct hmc hsf hL hvs hlw hk hp hd (fun _ _ e => by cases e)
/-- a contract that is used on its own way, by what it watches -/
theorem ae_con_rec (hr : ae_rok = true) (hf : ae_fok = true) {fuel y dep : Nat} {args : List ae_Ag} {ret : Option ae_I} {mo : ae_Mo} {w : Nat × Nat} {ws : ae_Wa} {als : List ae_Al} {ex : Bool} {K lo : Int} {cts : List ae_Ct} {mcs : List ae_Mc} {cus : List (Nat × Nat × ae_Cu)} {sps : List ae_Sp} (hlo : (ae_iv w.1 w.2).2.1 = lo)
    (q : ae_chc fuel (y, args, ret, mo, w :: ws, als, ex, dep) cts (some ((y, args, ret, mo, w :: ws, als, ex, dep), K)) mcs cus sps [] 0 [] = true) (hct : ∀ c ∈ cts, ae_CT c) (hmc : ∀ m ∈ mcs, ae_MOK m) : ae_CT (y, args, ret, mo, w :: ws, als, ex, dep + 2 * (K - lo).toNat) := by
  have hwok : ae_wok (w :: ws) = true := by
    unfold ae_chc at q
    rw [Bool.and_eq_true] at q
    exact q.1
  have claim : ∀ (L : Nat) (xs : Nat → Int32), L ≤ 3072 → ∀ (μ : Nat) (vs : List Value) (h : List am_E) (d : Nat), (K - ae_wv L xs h w).toNat < μ → ae_avs args vs → ae_hk ex L xs h → dep + 2 * (K - ae_wv L xs h w).toNat ≤ d → ae_C1 (y, args, ret, mo, w :: ws, als, ex, dep) L xs vs h d := by
    intro L xs hL μ
    induction μ with
    | zero => intro _ _ _ hz; exact absurd hz (Nat.not_lt_zero _)
    | succ μ ih =>
      intro vs h d hz hvs hk hd
      refine ae_con1 (E := 2 * (K - ae_wv L xs h w).toNat) (W0 := ae_wv L xs h w) (pc0 := 0) (lw := lv_args 0 vs) hr hf q hct hmc (fun _ e => absurd e List.not_mem_nil) hL hvs (fun _ _ h => h) hk trivial hd (fun c' K' e => ?_)
      cases e
      refine ⟨⟨w, ws, rfl, rfl⟩, rfl, fun vs2 h2 d2 a1 a2 a3 => ?_⟩
      obtain ⟨w', r', e1, e2, e3, e4⟩ := a3
      cases e1
      have e4 : dep + 2 * (K - ae_wv L xs h2 w).toNat ≤ d2 := e4
      exact ih vs2 h2 d2 (by omega) a1 a2 e4
  intro L xs vs h d hL hvs hk hd
  obtain ⟨-, -, -, x, hx, hx2, hx3⟩ := ae_wok_at hwok List.mem_cons_self hk
  have hd : dep + 2 * (K - lo).toNat ≤ d := hd
  exact claim L xs hL _ vs h d (Nat.lt_succ_self _) hvs hk (by omega)
