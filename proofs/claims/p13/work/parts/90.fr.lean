/-! A run with its callers' frames: depth, method, place, locals, stack -/
abbrev am_Fr : Type := Nat × Nat × Nat × am_L × List Value
noncomputable def am_psh (v : Option Value) (g : am_Fr) : am_Fr := (g.1, g.2.1, g.2.2.1, g.2.2.2.1, v.toList ++ g.2.2.2.2)
noncomputable def am_gof (L : Nat) (xs : Nat → Int32) (n : Nat) (f : am_Fr) (h : List am_E) : Option (Option Value × List am_E) := am_go L xs n f.1 f.2.1 f.2.2.1 f.2.2.2.1 f.2.2.2.2 h
noncomputable def am_fn (L : Nat) (xs : Nat → Int32) : am_Fr → List am_Fr → List am_E → Option Value × List am_E → Prop
  | f, [], h, x => ∃ n, am_gof L xs n f h = some x
  | f, g :: r, h, x => ∃ n v h1, am_gof L xs n f h = some (v, h1) ∧ am_fn L xs (am_psh v g) r h1 x
section AMF
variable {L : Nat} {xs : Nat → Int32} {d y pc a b : Nat} {i : Instr} {lw : am_L} {sw : List Value} {h h1 : List am_E} {x : Option Value × List am_E} {r : List am_Fr}
/-- what a frame's runs lead to, another's do -/
theorem am_fn_of {f f' : am_Fr} {h h' : List am_E} (q : ∀ n x, am_gof L xs n f' h' = some x → ∃ n', am_gof L xs n' f h = some x) (g : am_fn L xs f' r h' x) : am_fn L xs f r h x := by
  cases r with
  | nil => obtain ⟨n, g⟩ := g; exact q n x g
  | cons c r =>
    obtain ⟨n, v, h1, g1, g2⟩ := g
    obtain ⟨n', g3⟩ := q n _ g1
    exact ⟨n', v, h1, g3, g2⟩
theorem am_fn1 {z : am_R4} (hc : am_code y pc = some (i, a, b)) (hR : am_isR i = false) (hC : am_isC i = false) (hs : am_simple L xs (am_inf y).1 (am_inf y).2.1 (am_inf y).2.2.1 i a b pc lw sw h = some z) (ha : am_app h z.2.2.2 = some h1) (g : am_fn L xs (d, y, z.1, z.2.1, z.2.2.1) r h1 x) : am_fn L xs (d, y, pc, lw, sw) r h x :=
  am_fn_of (f' := (d, y, z.1, z.2.1, z.2.2.1)) (h' := h1) (fun n _ hg => ⟨n + 1, am_st1 hc hR hC hs ha hg⟩) g
theorem am_fn2 {z : am_R4} (hc : am_code y pc = some (i, a, b)) (hR : am_isR i = false) (hC : am_isC i = true) (hA : Nat.ble 1000 a = true) (hd : Nat.ble 1 d = true) (hcat : Nat.ble (am_cats sw) 16 = true) (hs : am_sys a pc lw sw h = some z) (ha : am_app h z.2.2.2 = some h1) (g : am_fn L xs (d, y, z.1, z.2.1, z.2.2.1) r h1 x) : am_fn L xs (d, y, pc, lw, sw) r h x :=
  am_fn_of (f' := (d, y, z.1, z.2.1, z.2.2.1)) (h' := h1) (fun n _ hg => ⟨n + 1, am_st2 hc hR hC hA hd hcat hs ha hg⟩) g
theorem am_fn3 (hc : am_code y pc = some (i, a, b)) (hR : am_isR i = false) (hC : am_isC i = true) (hA : Nat.ble 1000 a = false) (hb : (Nat.ble (am_pop i b) sw.length && Nat.ble (am_cats (sw.drop (am_pop i b))) 8 && am_rcv i a (sw.take (am_pop i b)).reverse h (am_inf a).1 && Nat.ble (am_cats (sw.take (am_pop i b))) (am_inf a).2.2.1) = true)
    (g : am_fn L xs (d, a, 0, lv_args 0 (sw.take (am_pop i b)).reverse, []) ((d + 1, y, pc + 3, lw, sw.drop (am_pop i b)) :: r) h x) : am_fn L xs (d + 1, y, pc, lw, sw) r h x := by
  obtain ⟨n1, v, h2, g1, g2⟩ := g
  exact am_fn_of (f' := am_psh v (d + 1, y, pc + 3, lw, sw.drop (am_pop i b))) (h' := h2) (fun n x hg => ⟨n1 + n + 1, am_st3 hc hR hC hA hb g1 hg⟩) g2
theorem am_fn0 {v : Option Value} {c : am_Fr} (hc : am_code y pc = some (i, a, b)) (hR : am_isR i = true) (hs : am_ret i (am_inf y).2.2.2 sw h = some (v, h)) (g : am_fn L xs (am_psh v c) r h x) : am_fn L xs (d, y, pc, lw, sw) (c :: r) h x := ⟨1, v, h, am_st0 hc hR hs, g⟩
theorem am_fnE (hc : am_code y pc = some (i, a, b)) (hR : am_isR i = true) (hs : am_ret i (am_inf y).2.2.2 sw h = some x) : am_fn L xs (d, y, pc, lw, sw) [] h x := ⟨1, am_st0 hc hR hs⟩
end AMF
