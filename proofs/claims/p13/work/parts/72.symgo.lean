abbrev rm_O : Type := rm_B × ((Option rm_V × List rm_E) ⊕ (Nat × rm_L × List rm_V × List rm_E))
abbrev rm_Go : Type := Nat → Nat → Nat → rm_B → rm_L → List rm_V → List rm_E → Option (List rm_O)
noncomputable def rm_cat {α β : Type} (f : α → Option (List β)) : List α → Option (List β)
  | [] => some []
  | a :: t => (f a).bind fun x => (rm_cat f t).bind fun y => some (x ++ y)
noncomputable def rm_cpo (o0 : List (Nat × rm_V)) (sp dp : Nat) : Nat → List (Nat × rm_V) → List (Nat × rm_V)
  | 0, o => o
  | n + 1, o => rm_ovs 0 (rm_cpo o0 sp dp n o) (dp + n) (rm_ov 0 o0 (sp + n))
noncomputable def rm_sys (a pc : Nat) (bx : rm_B) (lv : rm_L) (st : List rm_V) (h : List rm_E) : Option rm_R5 :=
  match a with
  | 1000 => match st with
    | x :: r => am_if (rm_isR x) (some (bx, pc + 3, lv, r, h))
    | [] => none
  | _ => none
noncomputable def rm_cats (vs : List rm_V) : Nat := (vs.map rm_ct).sum
noncomputable def rm_args : Nat → List rm_V → rm_L
  | _, [] => []
  | i, v :: vs => (i, v) :: rm_args (bif rm_isJ v then i + 2 else i + 1) vs
noncomputable def rm_rcv (i : Instr) (args : List rm_V) (h : List rm_E) (own : Nat) : Bool := match i with
  | .invokevirtual _ => match args with
    | x :: _ => rm_isR x && (rm_ob h x.2.1 own).isSome
    | [] => false
  | .invokespecial _ => match args with
    | x :: _ => rm_isR x
    | [] => false
  | .invokestatic _ => true
  | _ => false
noncomputable def rm_inv (ih : rm_Go) (d y : Nat) (i : Instr) (a b pc : Nat) (bx : rm_B) (lv : rm_L) (st : List rm_V) (h : List rm_E) : Option (List rm_O) :=
  bif Nat.ble 1000 a then (am_if (Nat.ble 1 d && Nat.ble (rm_cats st) 16) (rm_sys a pc bx lv st h)).bind fun q => ih d y q.2.1 q.1 q.2.2.1 q.2.2.2.1 q.2.2.2.2
  else match d with
    | 0 => none
    | d + 1 => am_if (Nat.ble (am_pop i b) st.length && Nat.ble (rm_cats (st.drop (am_pop i b))) 8 && rm_rcv i (st.take (am_pop i b)).reverse h (am_inf a).1 && Nat.ble (rm_cats (st.take (am_pop i b))) (am_inf a).2.2.1)
      ((ih d a 0 bx (rm_args 0 (st.take (am_pop i b)).reverse) [] h).bind (rm_cat fun o => match o.2 with
        | .inl q => ih (d + 1) y (pc + 3) o.1 lv (q.1.toList ++ st.drop (am_pop i b)) q.2
        | .inr _ => none))
noncomputable def rm_ret (i : Instr) (rk : Nat) (st : List rm_V) : Option (Option rm_V) := match i with
  | .return_ => match st with
    | [] => am_if (Nat.beq rk 0) (some none)
    | _ => none
  | .ireturn => match st with
    | [v] => am_if (rm_isI v && (Nat.beq rk 1 || (Nat.beq rk 2 && Nat.beq v.1 0 && Nat.ble v.2.1 1))) (some (some v))
    | _ => none
  | .lreturn => match st with
    | [v] => am_if (rm_isJ v && Nat.beq rk 3) (some (some v))
    | _ => none
  | _ => none
noncomputable def rm_step (L : Nat) (sp : Nat → Nat → Bool) (ih : rm_Go) : rm_Go := fun d y pc bx lv st h =>
  bif sp y pc then some [(bx, .inr (pc, lv, st, h))]
  else (am_code y pc).bind fun q =>
    bif am_isR q.1 then (rm_ret q.1 (am_inf y).2.2.2 st).bind fun r => some [(bx, .inl (r, h))]
    else bif am_isC q.1 then rm_inv ih d y q.1 q.2.1 q.2.2 pc bx lv st h
    else (rm_simple L (am_inf y).1 (am_inf y).2.1 (am_inf y).2.2.1 q.1 q.2.1 q.2.2 pc bx lv st h).bind (rm_cat fun z => ih d y z.2.1 z.1 z.2.2.1 z.2.2.2.1 z.2.2.2.2)
noncomputable def rm_go (L : Nat) (sp : Nat → Nat → Bool) (n : Nat) : rm_Go :=
  Nat.rec (motive := fun _ => rm_Go) (fun _ _ _ _ _ _ _ => none) (fun _ ih => rm_step L sp ih) n
theorem rm_go_succ (L : Nat) (sp : Nat → Nat → Bool) (n : Nat) : rm_go L sp (n + 1) = rm_step L sp (rm_go L sp n) := rfl
noncomputable def rm_full : rm_B := [(0, 4294967295), (0, 4294967295), (0, 4294967295), (0, 4294967295), (0, 4294967295), (0, 4294967295)]
