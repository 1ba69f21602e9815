/-! Contracts of methods -/
abbrev ae_Ag : Type := Nat × Nat × Int × Int
abbrev ae_Wa : Type := List (Nat × Nat)
abbrev ae_Al : Type := List (Bool × Int × Int × Int)
/-- method; arguments (kind, place, bounds); answer; what is written; watched cells; how they can end (grows by so much, bounds); whether cells are left out; depth -/
abbrev ae_Ct : Type := Nat × List ae_Ag × Option ae_I × ae_Mo × ae_Wa × List ae_Al × Bool × Nat
noncomputable def ae_av (s : ae_Ag) (v : Value) : Prop := match s.1 with
  | 0 => ∃ x : Int32, v = .int x ∧ s.2.2.1 ≤ x.toInt ∧ x.toInt ≤ s.2.2.2
  | 1 => ∃ x : Int64, v = .long x ∧ s.2.2.1 ≤ x.toInt ∧ x.toInt ≤ s.2.2.2
  | 2 => v = .ref s.2.1
  | n + 3 => ∃ (x : Int32) (z : Int), v = .int x ∧ s.2.2.1 ≤ z ∧ z ≤ s.2.2.2 ∧ x.toInt = (s.2.1 : Int) + ((n + 3 : Nat) : Int) * z
noncomputable def ae_avs : List ae_Ag → List Value → Prop
  | [], [] => True
  | s :: r, v :: t => ae_av s v ∧ ae_avs r t
  | _, _ => False
noncomputable def ae_rt (o : Option ae_I) (r : Option Value) : Prop := match o with
  | none => r = none
  | some i => ∃ v, r = some v ∧ ae_io i v ∧ i.1 < 2
noncomputable def ae_wv (L : Nat) (xs : Nat → Int32) (h : List am_E) (w : Nat × Nat) : Int := ae_iz (ae_cell L xs h w.1 w.2)
noncomputable def ae_ao (L : Nat) (xs : Nat → Int32) (h h' : List am_E) : ae_Wa → ae_Al → Prop
  | [], [] => True
  | w :: r, a :: s => (a.2.2.1 ≤ ae_wv L xs h' w ∧ ae_wv L xs h' w ≤ a.2.2.2 ∧ (a.1 = true → ae_wv L xs h w + a.2.1 ≤ ae_wv L xs h' w)) ∧ ae_ao L xs h h' r s
  | _, _ => False
/-- the contract for one start, anywhere in the method -/
noncomputable def ae_C2 (pc : Nat) (c : ae_Ct) (L : Nat) (xs : Nat → Int32) (lw : am_L) (h : List am_E) (d : Nat) : Prop :=
  ∃ n r h', am_go L xs n d c.1 pc lw [] h = some (r, h') ∧ ae_hk c.2.2.2.2.2.2.1 L xs h' ∧ ae_fr c.2.2.2.1 L xs h h' ∧ ae_rt c.2.2.1 r ∧ ∃ al ∈ c.2.2.2.2.2.1, ae_ao L xs h h' c.2.2.2.2.1 al
/-- what watched cells hold at first -/
noncomputable def ae_prp (L : Nat) (xs : Nat → Int32) (h : List am_E) : ae_Wa → List (Int × Int) → Prop
  | _, [] => True
  | w :: r, q :: t => (q.1 ≤ ae_wv L xs h w ∧ ae_wv L xs h w ≤ q.2) ∧ ae_prp L xs h r t
  | [], _ :: _ => False
/-- the rest of a method from a place on -/
noncomputable def ae_CS (pc : Nat) (pre : List (Int × Int)) (c : ae_Ct) : Prop := ∀ (L : Nat) (xs : Nat → Int32) (vs : List Value) (lw : am_L) (h : List am_E) (d : Nat), L ≤ 3072 → ae_avs c.2.1 vs → (∀ i v, am_lk (lv_args 0 vs) i = some v → am_lk lw i = some v) → ae_hk c.2.2.2.2.2.2.1 L xs h → ae_prp L xs h c.2.2.2.2.1 pre → c.2.2.2.2.2.2.2 ≤ d → ae_C2 pc c L xs lw h d
/-- the contract for one start -/
noncomputable def ae_C1 (c : ae_Ct) (L : Nat) (xs : Nat → Int32) (vs : List Value) (h : List am_E) (d : Nat) : Prop :=
  ∃ n r h', am_go L xs n d c.1 0 (lv_args 0 vs) [] h = some (r, h') ∧ ae_hk c.2.2.2.2.2.2.1 L xs h' ∧ ae_fr c.2.2.2.1 L xs h h' ∧ ae_rt c.2.2.1 r ∧ ∃ al ∈ c.2.2.2.2.2.1, ae_ao L xs h h' c.2.2.2.2.1 al
noncomputable def ae_CT (c : ae_Ct) : Prop := ∀ (L : Nat) (xs : Nat → Int32) (vs : List Value) (h : List am_E) (d : Nat), L ≤ 3072 → ae_avs c.2.1 vs → ae_hk c.2.2.2.2.2.2.1 L xs h → c.2.2.2.2.2.2.2 ≤ d → ae_C1 c L xs vs h d
noncomputable def ae_wok (ws : ae_Wa) : Bool := ws.all fun w => Nat.blt 0 w.1 && Nat.ble w.1 ae_np && Nat.blt w.2 (ae_sh w.1).2.2 && Nat.beq (ae_iv w.1 w.2).1 0 && !(ae_ine w.1 w.2)
theorem ae_wok_at {ws : ae_Wa} (q : ae_wok ws = true) {w : Nat × Nat} (hw : w ∈ ws) {cx : Bool} {L : Nat} {xs : Nat → Int32} {h : List am_E} (hk : ae_hk cx L xs h) : 0 < w.1 ∧ w.1 ≤ ae_np ∧ w.2 < (ae_sh w.1).2.2 ∧ ∃ x : Int32, ae_cell L xs h w.1 w.2 = some (.int x) ∧ ae_wv L xs h w = x.toInt ∧ (ae_iv w.1 w.2).2.1 ≤ x.toInt := by
  have h1 := List.all_eq_true.mp q w hw
  simp only [Bool.and_eq_true, Bool.not_eq_true'] at h1
  obtain ⟨⟨⟨⟨a, b⟩, c⟩, e⟩, f⟩ := h1
  have a := Nat.blt_eq.mp a
  have b := Nat.le_of_ble_eq_true b
  have c := Nat.blt_eq.mp c
  obtain ⟨v, hv⟩ := ae_cell_ex (L := L) (xs := xs) hk.1 a b c
  refine ⟨a, b, c, ?_⟩
  rcases hk.2.1 w.1 w.2 v a hv with g | g
  · unfold ae_io at g
    rw [Nat.eq_of_beq_eq_true e] at g
    obtain ⟨x, rfl, g1, -⟩ := g
    exact ⟨x, hv, by unfold ae_wv; rw [hv]; rfl, g1⟩
  · rw [f] at g; exact absurd g.2 (by decide)
noncomputable def ae_wl (ex : Bool) : ae_Wa → ae_K → List ae_M → Option (ae_K × List ae_M × List ae_X)
  | [], k, M => some (k, M, [])
  | w :: r, k, M => (ae_ld ex k M w.1 (ae_num (w.2 : Int))).bind fun q => bif Nat.beq q.2.2.1 0 then (ae_wl ex r q.1 q.2.1).bind fun z => some (z.1, z.2.1, q.2.2.2.2 :: z.2.2) else none
noncomputable def ae_old (n : Nat) (ρ : Nat → Int) (L : Nat) (xs : Nat → Int32) (h : List am_E) : ae_Wa → List ae_X → Prop
  | [], [] => True
  | w :: r, e :: s => ae_dn n ρ e (ae_wv L xs h w) ∧ ae_old n ρ L xs h r s
  | _, _ => False
theorem ae_old_ext {n m : Nat} {ρ ρ' : Nat → Int} {L : Nat} {xs : Nat → Int32} {h : List am_E} (hn : n ≤ m) (a : ae_ag n ρ ρ') : ∀ {ws : ae_Wa} {es : List ae_X}, ae_old n ρ L xs h ws es → ae_old m ρ' L xs h ws es
  | [], [], _ => trivial
  | _ :: _, _ :: _, q => ⟨ae_dn_ext hn a q.1, ae_old_ext hn a q.2⟩
  | [], _ :: _, q => absurd q id
  | _ :: _, [], q => absurd q id
section AEK
variable {ex cx : Bool} {L : Nat} {xs : Nat → Int32} {h : List am_E}
theorem ae_wl_ok (hr : ae_rok = true) : ∀ {ws : ae_Wa} {ρ : Nat → Int} {k : ae_K} {M : List ae_M} {z : ae_K × List ae_M × List ae_X}, ae_wok ws = true → ae_hk cx L xs h → ae_okK ρ k → ae_hp ex k.1 ρ L xs M h → ae_wl ex ws k M = some z → ∃ ρ', ae_up2 ρ k ρ' z.1 ∧ ae_hp ex z.1.1 ρ' L xs z.2.1 h ∧ ae_old z.1.1 ρ' L xs h ws z.2.2
  | [], ρ, k, M, z, _, _, hK, hH, q => by cases q; exact ⟨ρ, ⟨Nat.le_refl _, ae_ag_rf _ _, hK⟩, hH, trivial⟩
  | w :: r, ρ, k, M, z, hw, hk, hK, hH, q => by
    obtain ⟨⟨k1, M1, a1⟩, h1, q⟩ := Option.bind_eq_some_iff.mp q
    obtain ⟨hb, q⟩ := ae_bif q
    obtain ⟨z1, h2, q⟩ := Option.bind_eq_some_iff.mp q
    cases q
    obtain ⟨w1, w2, w3, x, hx, hx2, -⟩ := ae_wok_at hw List.mem_cons_self hk
    obtain ⟨ρ1, u1, H1, g1⟩ := ae_ld_ok hr hK hH (ae_num_dn _) hx (fun _ => ⟨w2, w3⟩) h1
    obtain ⟨ρ2, u2, H2, o2⟩ := ae_wl_ok hr (ws := r) (by unfold ae_wok at hw ⊢; rw [List.all_cons, Bool.and_eq_true] at hw; exact hw.2) hk u1.2.2 H1 h2
    obtain ⟨y, hy, d⟩ := ae_ok0 g1 hb
    cases hy
    refine ⟨ρ2, u1.tr u2, H2, ?_, o2⟩
    rw [hx2]
    exact ae_dn_ext u2.1 u2.2.1 d
/-- the watched cells behind a call -/
noncomputable def ae_wn (mo : ae_Mo) : ae_Wa → ae_Al → List ae_X → ae_K → ae_K × List ae_M
  | w :: r, a :: s, e :: t, k => bif ae_inm mo w.1 w.2 then
      (let v := bif a.1 then ae_add e (ae_sym k.1) else ae_sym k.1
       let k' := bif a.1 then ae_fnew k a.2.1 (a.2.2.2 - (ae_iv w.1 w.2).2.1) [ae_pls v (-a.2.2.2), ae_neg v a.2.2.1] else ae_new k a.2.2.1 a.2.2.2
       let q := ae_wn mo r s t k'
       (q.1, (w.1, ae_num (w.2 : Int), (0, 0, v), false) :: q.2))
      else ae_wn mo r s t k
  | _, _, _, k => (k, [])
theorem ae_wn_ok {h' : List am_E} {mo : ae_Mo} (hk : ae_hk cx L xs h) (hk' : ae_hk cx L xs h') : ∀ {ws : ae_Wa} {al : ae_Al} {es : List ae_X} {ρ : Nat → Int} {k : ae_K}, ae_wok ws = true → ae_okK ρ k → ae_old k.1 ρ L xs h ws es → ae_ao L xs h h' ws al → ∃ ρ', ae_up2 ρ k ρ' (ae_wn mo ws al es k).1 ∧ (∀ m ∈ (ae_wn mo ws al es k).2, ae_eo (ae_wn mo ws al es k).1.1 ρ' L xs h' m)
  | [], [], [], ρ, k, _, hK, _, _ => ⟨ρ, ⟨Nat.le_refl _, ae_ag_rf _ _, hK⟩, fun m hm => absurd hm List.not_mem_nil⟩
  | w :: r, a :: s, e :: t, ρ, k, hw, hK, ho, ha => by
    have hw2 : ae_wok r = true := by unfold ae_wok at hw ⊢; rw [List.all_cons, Bool.and_eq_true] at hw; exact hw.2
    unfold ae_wn
    cases hb : ae_inm mo w.1 w.2 with
    | false => exact ae_wn_ok hk hk' hw2 hK ho.2 ha.2
    | true =>
      obtain ⟨-, -, -, x, hx, hx2, hx3⟩ := ae_wok_at hw List.mem_cons_self hk
      obtain ⟨-, -, -, y, hy, hy2, -⟩ := ae_wok_at hw List.mem_cons_self hk'
      obtain ⟨⟨a1, a2, a3⟩, ha2⟩ := ha
      rw [hy2] at a1 a2 a3
      rw [hx2] at a3
      cases hg : a.1 with
      | true =>
        have a3 := a3 hg
        have ho1 := ho.1
        rw [hx2] at ho1
        have hs : ae_dn (k.1 + 1) (ae_up ρ k.1 (y.toInt - x.toInt)) (ae_sym k.1) (y.toInt - x.toInt) := by
          have := ae_sym_dn (n := k.1 + 1) (ρ := ae_up ρ k.1 (y.toInt - x.toInt)) (s := k.1) (Nat.lt_succ_self _)
          rwa [ae_up_at] at this
        have hv : ae_dn (k.1 + 1) (ae_up ρ k.1 (y.toInt - x.toInt)) (ae_add e (ae_sym k.1)) y.toInt := by
          have := ae_add_dn (ae_dn_ext (Nat.le_succ _) (ae_up_ag ρ k.1 (y.toInt - x.toInt)) ho1) hs
          have e1 : x.toInt + (y.toInt - x.toInt) = y.toInt := by omega
          rwa [e1] at this
        have K1 : ae_okK (ae_up ρ k.1 (y.toInt - x.toInt)) (ae_fnew k a.2.1 (a.2.2.2 - (ae_iv w.1 w.2).2.1) [ae_pls (ae_add e (ae_sym k.1)) (-a.2.2.2), ae_neg (ae_add e (ae_sym k.1)) a.2.2.1]) := by
          refine ae_fnew_ok hK (by omega) (by omega) (fun f hf => ?_)
          rcases List.mem_cons.mp hf with rfl | hf
          · have := ae_pls_dn hv (-a.2.2.2)
            exact ⟨this.1, by rw [this.2]; omega⟩
          · rw [List.mem_singleton.mp hf]
            have := ae_neg_dn hv a.2.2.1
            exact ⟨this.1, by rw [this.2]; omega⟩
        obtain ⟨ρ2, u2, g2⟩ := ae_wn_ok (mo := mo) (ws := r) (al := s) (es := t) hk hk' hw2 K1 (ae_old_ext (Nat.le_succ _) (ae_up_ag _ _ _) ho.2) ha2
        refine ⟨ρ2, ae_up2.tr ⟨Nat.le_succ _, ae_up_ag _ _ _, K1⟩ u2, fun m hm => ?_⟩
        rcases List.mem_cons.mp hm with rfl | hm
        · exact ⟨w.2, .int y, ae_num_dn _, hy, y, rfl, ae_dn_ext u2.1 u2.2.1 hv⟩
        · exact g2 m hm
      | false =>
        have hv : ae_dn (k.1 + 1) (ae_up ρ k.1 y.toInt) (ae_sym k.1) y.toInt := by
          have := ae_sym_dn (n := k.1 + 1) (ρ := ae_up ρ k.1 y.toInt) (s := k.1) (Nat.lt_succ_self _)
          rwa [ae_up_at] at this
        have K1 : ae_okK (ae_up ρ k.1 y.toInt) (ae_new k a.2.2.1 a.2.2.2) := ae_new_ok hK a1 a2
        obtain ⟨ρ2, u2, g2⟩ := ae_wn_ok (mo := mo) (ws := r) (al := s) (es := t) hk hk' hw2 K1 (ae_old_ext (Nat.le_succ _) (ae_up_ag _ _ _) ho.2) ha2
        refine ⟨ρ2, ae_up2.tr ⟨Nat.le_succ _, ae_up_ag _ _ _, K1⟩ u2, fun m hm => ?_⟩
        rcases List.mem_cons.mp hm with rfl | hm
        · exact ⟨w.2, .int y, ae_num_dn _, hy, y, rfl, ae_dn_ext u2.1 u2.2.1 hv⟩
        · exact g2 m hm
  | [], [], _ :: _, _, _, _, _, ho, _ => absurd ho id
  | [], _ :: _, _, _, _, _, _, _, ha => absurd ha id
  | _ :: _, [], _, _, _, _, _, _, ha => absurd ha id
  | _ :: _, _ :: _, [], _, _, _, _, ho, _ => absurd ho id
end AEK
noncomputable def ae_fst (k : ae_K) (s : ae_Ag) (a : ae_V) : Bool := Nat.beq a.1 0 && Nat.beq (ae_gc a.2.2.2 % s.1) 0 && ae_ie ((a.2.2.1 - (s.2.1 : Int)) % (s.1 : Int)) 0 && ae_rg k a.2.2 ((s.2.1 : Int) + (s.1 : Int) * s.2.2.1) ((s.2.1 : Int) + (s.1 : Int) * s.2.2.2)
theorem ae_fst_ok {ρ : Nat → Int} {k : ae_K} (hK : ae_okK ρ k) {s : ae_Ag} {a : ae_V} {v : Value} (hv : ae_ok k.1 ρ a v) (h3 : Nat.ble 3 s.1 = true) (q : ae_fst k s a = true) : ae_av s v := by
  unfold ae_fst at q
  simp only [Bool.and_eq_true] at q
  obtain ⟨⟨⟨q1, q2⟩, q3⟩, q4⟩ := q
  obtain ⟨x, rfl, d⟩ := ae_ok0 hv q1
  have q2 := Nat.eq_of_beq_eq_true q2
  have q3 := ae_ie_ok q3
  have q4 := ae_rg_ok hK q4
  rw [d.2] at q4
  obtain ⟨s1, s2, s3, s4⟩ := s
  have h3 : 3 ≤ s1 := Nat.le_of_ble_eq_true h3
  obtain ⟨n, rfl⟩ : ∃ n, s1 = n + 3 := ⟨s1 - 3, by omega⟩
  have q2 : ae_gc a.2.2.2 % (n + 3) = 0 := q2
  have q3 : (a.2.2.1 - (s2 : Int)) % ((n + 3 : Nat) : Int) = 0 := q3
  have q4 : (s2 : Int) + ((n + 3 : Nat) : Int) * s3 ≤ x.toInt ∧ x.toInt ≤ (s2 : Int) + ((n + 3 : Nat) : Int) * s4 := q4
  have e1 : ((n + 3 : Nat) : Int) ∣ ae_et ρ a.2.2.2 := Int.dvd_trans (Int.natCast_dvd_natCast.mpr (Nat.dvd_of_mod_eq_zero q2)) (ae_gc_dvd ρ a.2.2.2)
  have e2 : ((n + 3 : Nat) : Int) ∣ (a.2.2.1 - (s2 : Int)) := Int.dvd_of_emod_eq_zero q3
  have e3 : x.toInt - (s2 : Int) = (a.2.2.1 - (s2 : Int)) + ae_et ρ a.2.2.2 := by
    have := d.2
    unfold ae_ev at this
    omega
  obtain ⟨z, hz⟩ := Int.dvd_add e2 e1
  rw [← e3] at hz
  have hp : (0 : Int) < ((n + 3 : Nat) : Int) := by omega
  refine ⟨x, z, rfl, ?_, ?_, by show x.toInt = (s2 : Int) + ((n + 3 : Nat) : Int) * z; omega⟩
  · exact Int.le_of_mul_le_mul_left (show ((n + 3 : Nat) : Int) * s3 ≤ ((n + 3 : Nat) : Int) * z by omega) hp
  · exact Int.le_of_mul_le_mul_left (show ((n + 3 : Nat) : Int) * z ≤ ((n + 3 : Nat) : Int) * s4 by omega) hp
noncomputable def ae_fa (k : ae_K) (s : ae_Ag) (a : ae_V) : Bool := bif Nat.ble 3 s.1 then ae_fst k s a else Nat.beq a.1 s.1 && (bif Nat.beq a.1 2 then Nat.beq a.2.1 s.2.1 else Nat.blt a.1 2 && ae_rg k a.2.2 s.2.2.1 s.2.2.2)
noncomputable def ae_fas (k : ae_K) (ss : List ae_Ag) (as : List ae_V) : Bool := List.rec (motive := fun _ => List ae_V → Bool) (fun as => List.rec (motive := fun _ => Bool) true (fun _ _ _ => false) as) (fun s _ ih as => List.rec (motive := fun _ => Bool) false (fun a t _ => bif ae_fa k s a then ih t else false) as) ss as
theorem ae_fa_ok {ρ : Nat → Int} {k : ae_K} (hK : ae_okK ρ k) {s : ae_Ag} {a : ae_V} {v : Value} (hv : ae_ok k.1 ρ a v) (q : ae_fa k s a = true) : ae_av s v := by
  unfold ae_fa at q
  cases hb3 : Nat.ble 3 s.1 with
  | true => rw [hb3] at q; exact ae_fst_ok hK hv hb3 q
  | false =>
  rw [hb3] at q
  change (Nat.beq a.1 s.1 && _) = true at q
  rw [Bool.and_eq_true] at q
  have h1 := Nat.eq_of_beq_eq_true q.1
  have q2 := q.2
  unfold ae_av
  rw [← h1]
  cases hb : Nat.beq a.1 2 with
  | true =>
    rw [hb] at q2
    have h2 := ae_ok2 hv hb
    rw [Nat.eq_of_beq_eq_true hb]
    rw [h2, Nat.eq_of_beq_eq_true q2]
  | false =>
    rw [hb] at q2
    have q2 : (Nat.blt a.1 2 && ae_rg k a.2.2 s.2.2.1 s.2.2.2) = true := q2
    rw [Bool.and_eq_true] at q2
    have h3 := ae_rg_ok hK q2.2
    have h4 := Nat.blt_eq.mp q2.1
    obtain ⟨t, p, e⟩ := a
    have h4 : t < 2 := h4
    match t, h4, hv with
    | 0, _, hv => obtain ⟨x, g1, g2⟩ := hv; have h3 : s.2.2.1 ≤ ae_ev ρ e ∧ ae_ev ρ e ≤ s.2.2.2 := h3; rw [g2.2] at h3; exact ⟨x, g1, h3.1, h3.2⟩
    | 1, _, hv => obtain ⟨x, g1, g2⟩ := hv; have h3 : s.2.2.1 ≤ ae_ev ρ e ∧ ae_ev ρ e ≤ s.2.2.2 := h3; rw [g2.2] at h3; exact ⟨x, g1, h3.1, h3.2⟩
    | n + 2, h4, _ => exact absurd h4 (by omega)
theorem ae_fas_ok {ρ : Nat → Int} {k : ae_K} (hK : ae_okK ρ k) : ∀ {ss : List ae_Ag} {as : List ae_V} {vs : List Value}, ae_sr k.1 ρ as vs → ae_fas k ss as = true → ae_avs ss vs
  | [], [], [], _, _ => trivial
  | s :: r, a :: t, v :: w, h, q => by
    have q := ai_bif (show (bif ae_fa k s a then ae_fas k r t else false) = true from q)
    exact ⟨ae_fa_ok hK h.1 q.1, ae_fas_ok hK h.2 q.2⟩
  | [], [], _ :: _, h, _ => absurd h id
  | [], _ :: _, _, _, q => by cases q
  | _ :: _, [], _, _, q => by cases q
  | _ :: _, _ :: _, [], h, _ => absurd h id
/-- written ranges within others -/
noncomputable def ae_sub2 (a b : ae_Mo) : Bool := a.all fun r => b.any fun s => Nat.beq r.1 s.1 && ae_le s.2.1 r.2.1 && ae_le r.2.2 s.2.2
theorem ae_sub2_ok {a b : ae_Mo} (q : ae_sub2 a b = true) {p j : Nat} (h : ae_inm b p j = false) : ae_inm a p j = false := by
  cases hb : ae_inm a p j with
  | false => rfl
  | true =>
    obtain ⟨r, hr, h1⟩ := List.any_eq_true.mp hb
    simp only [Bool.and_eq_true] at h1
    obtain ⟨s, hs, h2⟩ := List.any_eq_true.mp (List.all_eq_true.mp q r hr)
    simp only [Bool.and_eq_true] at h2
    have e1 := Nat.eq_of_beq_eq_true h1.1.1
    have e2 := Nat.eq_of_beq_eq_true h2.1.1
    have l1 := ae_le_iff.mp h1.1.2
    have l2 := ae_le_iff.mp h1.2
    have l3 := ae_le_iff.mp h2.1.2
    have l4 := ae_le_iff.mp h2.2
    have : ae_inm b p j = true := List.any_eq_true.mpr ⟨s, hs, by rw [← e2, e1, Nat.beq_refl, ae_le_iff.mpr (Int.le_trans l3 l1), ae_le_iff.mpr (Int.le_trans l2 l4)]; rfl⟩
    rw [this] at h
    cases h
/-- what is known of an answer -/
noncomputable def ae_rn (r : Option ae_I) (k : ae_K) : Option (ae_K × List ae_V) := match r with
  | none => some (k, [])
  | some i => bif Nat.blt i.1 2 then (ae_mk k i).bind fun q => some (q.1, [q.2]) else none
/-- a call by contract: chk looks at the watched cells ahead of it -/
noncomputable def ae_cc (ex : Bool) (mo : ae_Mo) (c : ae_Ct) (chk : ae_K → List ae_X → Bool) (pc : Nat) (k : ae_K) (M : List ae_M) (lv : ae_L) (rest : List ae_V) : Option (List ae_R) :=
  bif (!ex || c.2.2.2.2.2.2.1) && ae_sub2 c.2.2.2.1 mo && (!c.2.2.2.2.2.2.1 || ae_mx2 c.2.2.2.1) && ae_wok c.2.2.2.2.1 then
    (ae_vd c.2.2.2.2.2.2.1 k M).bind fun M1 => (ae_wl ex c.2.2.2.2.1 k M1).bind fun q => bif chk q.1 q.2.2 then (ae_kept q.1 c.2.2.2.1 q.2.1).bind fun M3 =>
      ae_cat (fun al => (ae_rn c.2.2.1 (ae_wn c.2.2.2.1 c.2.2.2.2.1 al q.2.2 q.1).1).bind fun z => some [(pc, z.1, (ae_wn c.2.2.2.1 c.2.2.2.2.1 al q.2.2 q.1).2 ++ M3, lv, z.2 ++ rest)]) c.2.2.2.2.2.1 else none
  else none
theorem ae_cc_ok (hr : ae_rok = true) (hf : ae_fok = true) {ex : Bool} {mo : ae_Mo} {c : ae_Ct} {chk : ae_K → List ae_X → Bool} {ρ : Nat → Int} {L : Nat} {xs : Nat → Int32} {k : ae_K} {M : List ae_M} {lv : ae_L} {st rest : List ae_V} {lw : am_L} {sw rw' : List Value} {h : List am_E} {pc : Nat} {o : List ae_R} (gH : ae_mm ex ρ L xs k M lv st lw sw h) (hrest : ae_sr k.1 ρ rest rw') (q : ae_cc ex mo c chk pc k M lv rest = some o) :
    ae_hk c.2.2.2.2.2.2.1 L xs h ∧ ∃ ρ1 k1 es, ae_up2 ρ k ρ1 k1 ∧ ae_old k1.1 ρ1 L xs h c.2.2.2.2.1 es ∧ chk k1 es = true ∧
    ∀ r h', ae_hk c.2.2.2.2.2.2.1 L xs h' → ae_fr c.2.2.2.1 L xs h h' → ae_rt c.2.2.1 r → (∃ al ∈ c.2.2.2.2.2.1, ae_ao L xs h h' c.2.2.2.2.1 al) →
      ae_fr mo L xs h h' ∧ ∃ z ∈ o, z.1 = pc ∧ ∃ ρ', ae_up2 ρ k ρ' z.2.1 ∧ ae_mm ex ρ' L xs z.2.1 z.2.2.1 z.2.2.2.1 z.2.2.2.2 lw (r.toList ++ rw') h' := by
  obtain ⟨hb, q⟩ := ae_bif q
  simp only [Bool.and_eq_true] at hb
  obtain ⟨⟨⟨b1, b2⟩, b3⟩, b4⟩ := hb
  obtain ⟨M1, h1, q⟩ := Option.bind_eq_some_iff.mp q
  obtain ⟨⟨k1, M2, es⟩, h2, q⟩ := Option.bind_eq_some_iff.mp q
  obtain ⟨hchk, q⟩ := ae_bif q
  obtain ⟨M3, h3, q⟩ := Option.bind_eq_some_iff.mp q
  obtain ⟨H1, D1⟩ := ae_vd_ok hf gH.1 gH.2.2.1 h1
  have hx : ex = true → c.2.2.2.2.2.2.1 = true := fun e => by rw [e] at b1; simpa using b1
  have hk := ae_hk_of hf hx H1 D1
  obtain ⟨ρ1, u1, H2, o1⟩ := ae_wl_ok hr b4 hk gH.1 H1 h2
  refine ⟨hk, ρ1, k1, es, u1, o1, hchk, fun r h' hk' hfr hrt hal => ?_⟩
  obtain ⟨al, hal1, hal2⟩ := hal
  have H3 := ae_kept_ok hf (cx := c.2.2.2.2.2.2.1) (fun e => by rw [e] at b3; simpa using b3) u1.2.2 H2 hk' hfr h3
  obtain ⟨x, g1, g2⟩ := ae_cat_ok q hal1
  obtain ⟨z, g3, g1⟩ := Option.bind_eq_some_iff.mp g1
  cases g1
  obtain ⟨ρ2, u2, e2⟩ := ae_wn_ok (mo := c.2.2.2.1) hk hk' b4 u1.2.2 o1 hal2
  refine ⟨fun p j hpj => hfr p j (ae_sub2_ok b2 hpj), _, g2 _ (List.mem_singleton.mpr rfl), rfl, ?_⟩
  have hrn : ∃ ρ3, ae_up2 ρ2 (ae_wn c.2.2.2.1 c.2.2.2.2.1 al es k1).1 ρ3 z.1 ∧ ∀ t, ae_sr z.1.1 ρ3 rest t → ae_sr z.1.1 ρ3 (z.2 ++ rest) (r.toList ++ t) := by
    unfold ae_rn at g3
    unfold ae_rt at hrt
    split at g3
    · rename_i hn
      cases g3
      rw [hn] at hrt
      have hrt : r = none := hrt
      subst hrt
      exact ⟨ρ2, ⟨Nat.le_refl _, ae_ag_rf _ _, u2.2.2⟩, fun t ht => ht⟩
    · rename_i i hn
      rw [hn] at hrt
      obtain ⟨v, rfl, hv, hi⟩ := hrt
      obtain ⟨hb, g3⟩ := ae_bif g3
      obtain ⟨w, g4, g3⟩ := Option.bind_eq_some_iff.mp g3
      cases g3
      obtain ⟨ρ3, u3, w3⟩ := ae_mk_ok (z := i) (i := i) u2.2.2 ⟨rfl, Int.le_refl _, Int.le_refl _⟩ (fun q => absurd q (by omega)) hv g4
      exact ⟨ρ3, u3, fun t ht => ⟨w3, ht⟩⟩
  obtain ⟨ρ3, u3, w3⟩ := hrn
  have u23 := u2.tr u3
  have u := u1.tr u23
  have H4 := ae_hp_ext u23.1 u23.2.1 H3
  refine ⟨ρ3, u, u3.2.2, ae_k0_up gH.2.1 u, ⟨H4.1, fun m hm => ?_, fun p' j' v' hp' hc' => ?_, fun f hff ii hi => ?_⟩, ae_lr_ext u.1 u.2.1 gH.2.2.2.1, w3 _ (ae_sr_ext u.1 u.2.1 hrest)⟩
  · rcases List.mem_append.mp hm with hm | hm
    · exact ae_eo_ext u3.1 u3.2.1 (e2 m hm)
    · exact H4.2.1 m hm
  · rcases H4.2.2.1 p' j' v' hp' hc' with g | ⟨m, g1, g2⟩ | g
    · exact Or.inl g
    · exact Or.inr (Or.inl ⟨m, List.mem_append_right _ g1, g2⟩)
    · exact Or.inr (Or.inr g)
  · rcases H4.2.2.2 f hff ii hi with g | ⟨o, ho, m, g1, g2⟩ | g
    · exact Or.inl g
    · exact Or.inr (Or.inl ⟨o, ho, m, List.mem_append_right _ g1, g2⟩)
    · exact Or.inr (Or.inr g)
/-- what stands in locals -/
noncomputable def ae_fll (k : ae_K) (lv : ae_L) : Nat → List ae_Ag → Bool
  | _, [] => true
  | i, s :: r => (match ae_lg lv i with
    | some a => ae_fa k s a
    | none => false) && ae_fll k lv (bif Nat.beq s.1 1 then i + 2 else i + 1) r
theorem ae_av_cat {s : ae_Ag} {v : Value} (h : ae_av s v) : (if v.category = 2 then 2 else 1) = (bif Nat.beq s.1 1 then 2 else 1) := by
  obtain ⟨t, p, a, b⟩ := s
  unfold ae_av at h
  match t, h with
  | 0, h => obtain ⟨x, rfl, -⟩ := h; rfl
  | 1, h => obtain ⟨x, rfl, -⟩ := h; rfl
  | 2, h => have h : v = .ref p := h; subst h; rfl
  | n + 3, h => obtain ⟨x, z, rfl, -⟩ := h; rfl
theorem ae_fll_ok {ρ : Nat → Int} {k : ae_K} (hK : ae_okK ρ k) {lv : ae_L} {lw : am_L} (hl : ae_lr k.1 ρ lv lw) : ∀ {ss : List ae_Ag} {i : Nat}, ae_fll k lv i ss = true → ∃ vs, ae_avs ss vs ∧ ∀ j v, am_lk (lv_args i vs) j = some v → am_lk lw j = some v
  | [], i, _ => ⟨[], trivial, fun j v h => by cases h⟩
  | s :: r, i, q => by
    unfold ae_fll at q
    rw [Bool.and_eq_true] at q
    obtain ⟨q1, q2⟩ := q
    split at q1
    · rename_i a ha
      obtain ⟨v, g1, g2⟩ := ae_lg_ok hl ha
      have hv := ae_fa_ok hK g2 q1
      obtain ⟨vs, h1, h2⟩ := ae_fll_ok hK hl (ss := r) q2
      refine ⟨v :: vs, ⟨hv, h1⟩, fun j w hj => ?_⟩
      have hj : (bif Nat.beq i j then some v else am_lk (lv_args (if v.category = 2 then i + 2 else i + 1) vs) j) = some w := hj
      cases hb : Nat.beq i j with
      | true =>
        rw [hb] at hj
        cases hj
        rw [← Nat.eq_of_beq_eq_true hb]
        exact g1
      | false =>
        rw [hb] at hj
        refine h2 j w ?_
        have e : (if v.category = 2 then i + 2 else i + 1) = (bif Nat.beq s.1 1 then i + 2 else i + 1) := by
          have := ae_av_cat hv
          cases hc : Nat.beq s.1 1 with
          | true => rw [hc] at this; split <;> rename_i hh <;> simp [hh] at this ⊢
          | false => rw [hc] at this; split <;> rename_i hh <;> simp [hh] at this ⊢
        rw [← e]
        exact hj
    · cases q1
noncomputable def ae_prl : List (Int × Int) → List ae_X → List ae_X
  | q :: r, e :: t => ae_pls e (-q.2) :: ae_neg e q.1 :: ae_prl r t
  | _, _ => []
noncomputable def ae_prc (k : ae_K) : List (Int × Int) → List ae_X → Bool
  | [], _ => true
  | q :: r, e :: t => ae_rg k e q.1 q.2 && ae_prc k r t
  | _ :: _, [] => false
theorem ae_prl_ok {n : Nat} {ρ : Nat → Int} {L : Nat} {xs : Nat → Int32} {h : List am_E} : ∀ {ws : ae_Wa} {pre : List (Int × Int)} {es : List ae_X}, ae_old n ρ L xs h ws es → ae_prp L xs h ws pre → ∀ e ∈ ae_prl pre es, ae_wt n e.2 ∧ ae_ev ρ e ≤ 0
  | _, [], _, _, _, e, he => by unfold ae_prl at he; exact absurd he List.not_mem_nil
  | [], _ :: _, _, _, q, _, _ => absurd q id
  | w :: r, q :: t, [], o, _, _, _ => absurd o id
  | w :: r, q :: t, x :: s, o, p, e, he => by
    rcases List.mem_cons.mp he with rfl | he
    · have := ae_pls_dn o.1 (-q.2)
      exact ⟨this.1, by rw [this.2]; have := p.1.2; omega⟩
    · rcases List.mem_cons.mp he with rfl | he
      · have := ae_neg_dn o.1 q.1
        exact ⟨this.1, by rw [this.2]; have := p.1.1; omega⟩
      · exact ae_prl_ok o.2 p.2 e he
theorem ae_prc_ok {n : Nat} {ρ : Nat → Int} {k : ae_K} (hK : ae_okK ρ k) {L : Nat} {xs : Nat → Int32} {h : List am_E} : ∀ {ws : ae_Wa} {pre : List (Int × Int)} {es : List ae_X}, ae_old n ρ L xs h ws es → ae_prc k pre es = true → ae_prp L xs h ws pre
  | ws, [], _, _, _ => by cases ws <;> exact trivial
  | [], _ :: _, [], _, q => by cases q
  | [], _ :: _, _ :: _, o, _ => absurd o id
  | w :: r, q :: t, [], _, q2 => by cases q2
  | w :: r, q :: t, x :: s, o, q2 => by
    unfold ae_prc at q2
    rw [Bool.and_eq_true] at q2
    have h1 := ae_rg_ok hK q2.1
    rw [o.1.2] at h1
    exact ⟨h1, ae_prc_ok hK o.2 q2.2⟩
