/-! A meeting point's walk in pieces -/
abbrev ad_X : Type := Bool × Bool × Bool × ab_St
noncomputable def ad_x1 (W : ab_W) (q : ad_X) : Option (List ad_X) :=
  bif !q.2.2.1 && W.hf q.1 q.2.1 q.2.2.2 then (W.hk q.2.2.2).map (fun l => l.map fun z => (q.1, q.2.1, true, z))
  else bif (!q.1 && ab_w W q.2.2.2.t1) then
    (bif (!q.2.1 && ab_w W q.2.2.2.t2) then some [q] else (ab_stp W true q.2.2.2).map (fun l => l.map fun z => (q.1, false, false, z)))
  else (ab_stp W false q.2.2.2).map (fun l => l.map fun z => (false, q.2.1, false, z))
noncomputable def ad_xs (W : ab_W) : List ad_X → Option (List ad_X)
  | [] => some []
  | q :: r => (ad_x1 W q).bind fun a => (ad_xs W r).bind fun b => some (a ++ b)
noncomputable def ad_ex (W : ab_W) (m : Nat) : List ad_X → Option (List ad_X) :=
  Nat.rec (motive := fun _ => List ad_X → Option (List ad_X)) (fun l => some l) (fun _ ih l => (ad_xs W l).bind ih) m
noncomputable def ad_gq (W : ab_W) (w0 : ae_X) (n : Nat) (q : ad_X) : Bool := ab_go W w0 n q.1 q.2.1 q.2.2.1 q.2.2.2
noncomputable def ad_pc (W : ab_W) (t : ab_Tm) (m n : Nat) (f1 f2 : Bool) (i b : Nat) : Bool := match ad_ex W m [(f1, f2, false, ab_ini t.st)] with
  | some l => ((l.drop i).take b).all (ad_gq W t.rk n)
  | none => false
noncomputable def ad_pn (W : ab_W) (t : ab_Tm) (m : Nat) (f1 f2 : Bool) (k : Nat) : Bool := ab_nl t.st.w && ae_wb t.st.k.1 t.rk.2 && (match ad_ex W m [(f1, f2, false, ab_ini t.st)] with
  | some l => Nat.ble l.length k
  | none => false)
section ADC
variable {W : ab_W} {w0 : ae_X}
theorem ad_al_mono {f g : ab_St → Bool} (h : ∀ z, f z = true → g z = true) {o : Option (List ab_St)} (q : ab_al f o = true) : ab_al g o = true := by
  obtain ⟨l, e, q⟩ := ab_al_ok q
  rw [e]
  exact List.all_eq_true.mpr fun z hz => h z (q z hz)
theorem ad_g1_mono {i j : ab_Go} (h : ∀ a b c z, i a b c z = true → j a b c z = true) {f1 f2 nh : Bool} {z : ab_St} (q : ab_g1 W w0 i f1 f2 nh z = true) : ab_g1 W w0 j f1 f2 nh z = true := by
  unfold ab_g1 at q ⊢
  cases hA : (!nh && W.hf f1 f2 z) with
  | true => rw [hA] at q; exact ad_al_mono (fun z hz => h _ _ _ z hz) q
  | false =>
    rw [hA] at q
    cases hB : (!f1 && ab_w W z.t1) with
    | false => rw [hB] at q; exact ad_al_mono (fun z hz => h _ _ _ z hz) q
    | true =>
      rw [hB] at q
      cases hC : (!f2 && ab_w W z.t2) with
      | false => rw [hC] at q; exact ad_al_mono (fun z hz => h _ _ _ z hz) q
      | true =>
        rw [hC] at q
        change (W.tms.any (ab_mt W.r w0 z) || (match W.ov z with
          | some b => i b.1 b.2 true z
          | none => false)) = true at q
        show (W.tms.any (ab_mt W.r w0 z) || (match W.ov z with
          | some b => j b.1 b.2 true z
          | none => false)) = true
        rcases Bool.or_eq_true_iff.mp q with q | q
        · rw [q]; rfl
        · rw [Bool.or_eq_true_iff]
          refine Or.inr ?_
          split at q
          · exact h _ _ _ _ q
          · cases q
theorem ad_more : ∀ (n : Nat) (f1 f2 nh : Bool) (z : ab_St), ab_go W w0 n f1 f2 nh z = true → ab_go W w0 (n + 1) f1 f2 nh z = true := by
  intro n
  induction n with
  | zero => intro f1 f2 nh z q; cases q
  | succ n ih =>
    intro f1 f2 nh z q
    have q : ab_g1 W w0 (ab_go W w0 n) f1 f2 nh z = true := q
    exact ad_g1_mono (i := ab_go W w0 n) (j := ab_go W w0 (n + 1)) ih q
theorem ad_mor {n m : Nat} (hm : n ≤ m) {q : ad_X} (h : ad_gq W w0 n q = true) : ad_gq W w0 m q = true := by
  obtain ⟨k, rfl⟩ := Nat.le.dest hm
  induction k with
  | zero => exact h
  | succ k ih => exact ad_more _ _ _ _ _ (ih (Nat.le_add_right _ _))
theorem ad_unif : ∀ {l : List ad_X}, (∀ q ∈ l, ∃ n, ad_gq W w0 n q = true) → ∃ n, ∀ q ∈ l, ad_gq W w0 n q = true
  | [], _ => ⟨0, fun q h => absurd h List.not_mem_nil⟩
  | a :: r, h => by
    obtain ⟨n, h1⟩ := h a List.mem_cons_self
    obtain ⟨m, h2⟩ := ad_unif (l := r) (fun q hq => h q (List.mem_cons_of_mem _ hq))
    refine ⟨max n m, fun q hq => ?_⟩
    rcases List.mem_cons.mp hq with rfl | hq
    · exact ad_mor (Nat.le_max_left _ _) h1
    · exact ad_mor (Nat.le_max_right _ _) (h2 q hq)
theorem ad_x1_ok {q : ad_X} {l : List ad_X} (e : ad_x1 W q = some l) (h : ∀ p ∈ l, ∃ n, ad_gq W w0 n p = true) : ∃ n, ad_gq W w0 n q = true := by
  obtain ⟨n, h⟩ := ad_unif h
  obtain ⟨f1, f2, nh, z⟩ := q
  have al : ∀ {a b c : Bool} {o : Option (List ab_St)}, (o.map fun l => l.map fun z => ((a, b, c, z) : ad_X)) = some l → ab_al (ab_go W w0 n a b c) o = true := by
    intro a b c o he
    obtain ⟨l0, h1, h2⟩ := Option.map_eq_some_iff.mp he
    rw [h1]
    exact List.all_eq_true.mpr fun z hz => h (a, b, c, z) (by rw [← h2]; exact List.mem_map.mpr ⟨z, hz, rfl⟩)
  have e : (bif !nh && W.hf f1 f2 z then (W.hk z).map (fun l => l.map fun z => ((f1, f2, true, z) : ad_X))
    else bif (!f1 && ab_w W z.t1) then
      (bif (!f2 && ab_w W z.t2) then some [(f1, f2, nh, z)] else (ab_stp W true z).map (fun l => l.map fun z => ((f1, false, false, z) : ad_X)))
    else (ab_stp W false z).map (fun l => l.map fun z => ((false, f2, false, z) : ad_X))) = some l := e
  cases hA : (!nh && W.hf f1 f2 z) with
  | true =>
    rw [hA] at e
    refine ⟨n + 1, ?_⟩
    show ab_g1 W w0 (ab_go W w0 n) f1 f2 nh z = true
    unfold ab_g1
    rw [hA]
    exact al e
  | false =>
    rw [hA] at e
    cases hB : (!f1 && ab_w W z.t1) with
    | false =>
      rw [hB] at e
      refine ⟨n + 1, ?_⟩
      show ab_g1 W w0 (ab_go W w0 n) f1 f2 nh z = true
      unfold ab_g1
      rw [hA, hB]
      exact al e
    | true =>
      rw [hB] at e
      cases hC : (!f2 && ab_w W z.t2) with
      | false =>
        rw [hC] at e
        refine ⟨n + 1, ?_⟩
        show ab_g1 W w0 (ab_go W w0 n) f1 f2 nh z = true
        unfold ab_g1
        rw [hA, hB, hC]
        exact al e
      | true =>
        rw [hC] at e
        have e : some [(f1, f2, nh, z)] = some l := e
        cases e
        exact ⟨n, h _ (List.mem_singleton.mpr rfl)⟩
theorem ad_xs_ok : ∀ {l l' : List ad_X}, ad_xs W l = some l' → (∀ p ∈ l', ∃ n, ad_gq W w0 n p = true) → ∀ q ∈ l, ∃ n, ad_gq W w0 n q = true
  | [], _, _, _, q, hq => absurd hq List.not_mem_nil
  | a :: r, l', e, h, q, hq => by
    obtain ⟨x, h1, e⟩ := Option.bind_eq_some_iff.mp e
    obtain ⟨y, h2, e⟩ := Option.bind_eq_some_iff.mp e
    cases e
    rcases List.mem_cons.mp hq with rfl | hq
    · exact ad_x1_ok h1 (fun p hp => h p (List.mem_append_left _ hp))
    · exact ad_xs_ok h2 (fun p hp => h p (List.mem_append_right _ hp)) q hq
theorem ad_ex_ok : ∀ {m : Nat} {l l' : List ad_X}, ad_ex W m l = some l' → (∀ p ∈ l', ∃ n, ad_gq W w0 n p = true) → ∀ q ∈ l, ∃ n, ad_gq W w0 n q = true
  | 0, l, l', e, h => by
    have e : some l = some l' := e
    cases e
    exact h
  | m + 1, l, l', e, h => by
    have e : (ad_xs W l).bind (ad_ex W m) = some l' := e
    obtain ⟨x, h1, e⟩ := Option.bind_eq_some_iff.mp e
    exact ad_xs_ok h1 (ad_ex_ok e h)
theorem ad_pcs {t : ab_Tm} {m n : Nat} {f1 f2 : Bool} {b K : Nat} (hb : 0 < b) (h : ad_pn W t m f1 f2 (K * b) = true) (hp : ∀ i, i < K → ad_pc W t m n f1 f2 (i * b) b = true) : ∃ n f1 f2, ab_chk W n f1 f2 t = true := by
  unfold ad_pn at h
  rw [Bool.and_eq_true] at h
  obtain ⟨h1, h2⟩ := h
  split at h2
  · rename_i l hl
    have hlen := Nat.le_of_ble_eq_true h2
    have all : ∀ p ∈ l, ∃ n, ad_gq W t.rk n p = true := by
      intro p hp'
      obtain ⟨j, hj, rfl⟩ := List.mem_iff_getElem.mp hp'
      have hk : j / b < K := Nat.div_lt_of_lt_mul (by rw [Nat.mul_comm]; omega)
      have h3 := hp (j / b) hk
      unfold ad_pc at h3
      rw [hl] at h3
      refine ⟨n, List.all_eq_true.mp h3 _ ?_⟩
      have hm := Nat.div_add_mod j b
      have hm2 := Nat.mod_lt j hb
      have e : j / b * b = b * (j / b) := Nat.mul_comm _ _
      refine List.mem_iff_getElem.mpr ⟨j % b, ?_, ?_⟩
      · rw [List.length_take, List.length_drop]
        omega
      · rw [List.getElem_take, List.getElem_drop]
        congr 1
        omega
    obtain ⟨N, hN⟩ := ad_ex_ok hl all (f1, f2, false, ab_ini t.st) List.mem_cons_self
    refine ⟨N, f1, f2, ?_⟩
    unfold ab_chk
    rw [h1]
    exact hN
  · cases h2
theorem ad_each {p : Nat → Prop} {K : Nat} (h : ∀ i : Fin K, p i.val) : ∀ i, i < K → p i := fun i hi => h ⟨i, hi⟩
end ADC
