/-! days(n), compared -/
section DLW
variable {L : Nat} {xs : Nat → Int32}
theorem lw_daysC (hL : L ≤ 3072) {l1 u1 : Int} {cmp : Bool} (hT : ab_ric lw_k0 [] [] da_mo2 lw_TR lw_TR = true) : lw_PL (lw_I lw_T L xs) L xs [(0, 0, l1, u1)] 146 265 0 cmp := by
  refine lw_two (mo := da_mo2) (Q := fun _ => da_Q L xs) hL (fun c hA hB vs d hd hv kA kB I => ?_) (fun hA hB v1 v2 e1 e2 I0 fr q => ?_)
  · obtain ⟨a1, t1, rfl, hw1⟩ := lw_avc hv
    obtain rfl := lw_avn hw1
    exact da_call hL kA kB (by omega) (lw_szm kA kB I) I.2.2.2 (lw_RI_l (A := lw_T0) (B := lw_TR) I.2.1)
  · obtain ⟨k1, k2, ri, sz, x, rfl, rfl⟩ := q 0
    exact ⟨k1, k2, lw_RI_app (A := lw_T0) (B := lw_TR) ri (lw_T_fr hT fr (lw_RI_r (A := lw_T0) (B := lw_TR) I0.2.1)), sz, Or.inr (fun j => ⟨rfl, rfl⟩), _, _, rfl, rfl, ⟨x, rfl⟩, ⟨x, rfl⟩, fun _ => rfl⟩
end DLW
