/-! days(n): what is known of the days told stays so -/
theorem nt_X {L : Nat} {xs : Nat → Int32} (hL : L ≤ 3072) {l u : Int} : ∀ (hA : List am_E) (vs : List Value) (d n : Nat) (v : Option Value) (e : List am_E), 640 ≤ d → ae_avs [(0, 0, l, u)] vs → ae_hk false L xs hA → lw_dP L xs hA → am_go L xs n d 146 0 (lv_args 0 (.ref 1 :: vs)) [] hA = some (v, e) → lw_dP L xs e := by
  intro hA vs d n v e hd hv kA H hrun
  obtain ⟨x, t, rfl, hv1⟩ := lw_avc hv
  obtain rfl := lw_avn hv1
  have H0 := H (34, 39) List.mem_cons_self
  have fr := (nt2_run hL (q := 0) (a := 1) (by decide) (by decide) kA (fun g1 g2 => H0.1 0 1 (by decide) (by decide) g1 g2) (by omega) hrun).2
  intro b hb
  have hb' : b ∈ ([(34, 39), (149, 154), (181, 186), (213, 218)] : List (Nat × Nat)) := hb
  simp only [List.mem_cons, List.not_mem_nil, or_false] at hb'
  rcases hb' with rfl | rfl | rfl | rfl
  · exact ⟨fun q a h1 h2 => (nt2_run hL h1 h2 kA (fun g1 g2 => H0.1 q a h1 h2 g1 g2) (by omega) hrun).1, fun q1 q2 q3 q4 h1 h2 h3 h4 => (nt4_run hL h1 h2 h3 h4 kA (fun g1 g2 g3 g4 => H0.2 q1 q2 q3 q4 h1 h2 h3 h4 g1 g2 g3 g4) (by omega) hrun).1⟩
  · exact lw_d_eq (by unfold ab_cv; rw [fr 149 5 rfl rfl]) (fun j _ => by unfold ab_cv; rw [fr 154 j rfl rfl]) (H _ hb)
  · exact lw_d_eq (by unfold ab_cv; rw [fr 181 5 rfl rfl]) (fun j _ => by unfold ab_cv; rw [fr 186 j rfl rfl]) (H _ hb)
  · exact lw_d_eq (by unfold ab_cv; rw [fr 213 5 rfl rfl]) (fun j _ => by unfold ab_cv; rw [fr 218 j rfl rfl]) (H _ hb)
theorem lw_daysF {L : Nat} {xs : Nat → Int32} (hL : L ≤ 3072) {TT : List ab_Ti} {l1 u1 : Int} {cmp : Bool} (hT1 : ∀ f, ab_RI TT f → ab_RI lw_TD f) (hc : (TT.all fun t => ab_nw da_mo2 t || lw_TD.any (ab_qt t)) = true) : lw_PL (lw_I TT L xs) L xs [(0, 0, l1, u1)] 146 265 0 cmp := by
  refine lw_two (mo := da_mo2) (Q := fun _ v1 v2 e1 e2 => da_Q L xs v1 v2 e1 e2 ∧ lw_dP L xs e1) hL (fun c hA hB vs d hd hv kA kB I => ?_) (fun hA hB v1 v2 e1 e2 I0 fr q => ?_) (fun hA hB v1 v2 e1 e2 I0 fr q k1 k2 => lw_dP_mix k1 k2 (q 0).2)
  · have hv0 := hv
    obtain ⟨a1, t1, rfl, hw1⟩ := lw_avc hv
    obtain rfl := lw_avn hw1
    exact lw_Xand (fun n v e g => nt_X hL hA _ d n v e hd hv0 kA (lw_dP_own kA kB I.2.2.2.2) g) (da_call hL kA kB (by omega) (lw_szm kA kB I) I.2.2.2.1 (hT1 _ I.2.1))
  · obtain ⟨k1, k2, ri, sz, x, rfl, rfl⟩ := (q 0).1
    exact ⟨k1, k2, lw_T_mix hc fr I0.2.1 ri, sz, Or.inr (fun j => ⟨rfl, rfl⟩), _, _, rfl, rfl, ⟨x, rfl⟩, ⟨x, rfl⟩, fun _ => rfl⟩
