/-! back -/
theorem kb_PL {L : Nat} {xs : Nat → Int32} (hL : L ≤ 3072) : lw_PL (lw_I lw_TT L xs) L xs [] 195 352 0 true :=
  lw_actP hL (T := lw_TT) (W := kb_W) (D := 12) (rk := (21, [])) (by decide +kernel) (by decide) rfl (List.mem_append_left _ List.mem_cons_self) (fun r0 => kb_all hL (Q := ak_Q lw_TT 0 true L xs) (r0 := r0) (bh_cons (P := fun t => ab_ok kb_W (nt_G L xs r0) L xs (ak_Q lw_TT 0 true L xs) r0 t) (ak_end rfl (by decide) (by intro _; rfl)) bh_nil)) (by decide +kernel) (by decide +kernel) (by decide +kernel) (fun _ h => h) (by decide +kernel) (cb_X hL)
