/-! One plain instruction -/
noncomputable def ae_cats (st : List ae_V) : Nat := List.rec (motive := fun _ => Nat) 0 (fun a _ r => (bif Nat.beq a.1 1 then 2 else 1) + r) st
noncomputable def ae_ps (pc : Nat) (k : ae_K) (M : List ae_M) (lv : ae_L) (st : List ae_V) (a : ae_V) : Option (List ae_R) := some [(pc, k, M, lv, a :: st)]
noncomputable def ae_ll (t pc i : Nat) (k : ae_K) (M : List ae_M) (lv : ae_L) (st : List ae_V) : Option (List ae_R) := (ae_lg lv i).bind fun v => bif Nat.beq v.1 t then ae_ps pc k M lv st (v.1, v.2.1, ae_nr k v.2.2) else none
noncomputable def ae_ss (t pc i : Nat) (k : ae_K) (M : List ae_M) (lv : ae_L) (st : List ae_V) : Option (List ae_R) := match st with
  | v :: r => bif Nat.beq v.1 t then some [(pc, k, M, (bif Nat.beq t 1 then ae_p2 lv i v else ae_p1 lv i v), r)] else none
  | [] => none
noncomputable def ae_dv (f : ae_K → ae_X → ae_X → Option (ae_K × ae_V)) (k : ae_K) (X Y : ae_X) : Option (ae_K × ae_V) := bif ae_n0 k (ae_nr k Y) then f k X Y else none
noncomputable def ae_w8 (x : Int) : Bool := ae_le (-128) x && ae_le x 127
noncomputable def ae_i2 (lo hi : Int) (pc : Nat) (k : ae_K) (M : List ae_M) (lv : ae_L) (st : List ae_V) : Option (List ae_R) := match st with
  | v :: r => bif Nat.beq v.1 0 then (bif ae_rg k v.2.2 lo hi then some [(pc, k, M, lv, v :: r)] else some [(pc, (ae_ni k lo hi).1, M, lv, (ae_ni k lo hi).2 :: r)]) else none
  | [] => none
noncomputable def ae_tw (pc : Nat) (k : ae_K) (M : List ae_M) (lv : ae_L) (r : List ae_V) (e : ae_X) : List Int → Int → Option (List ae_R)
  | [], _ => some []
  | o :: t, v => (am_sw pc o).bind fun g => (ae_tw pc k M lv r e t (v + 1)).bind fun rs => some ((ae_ask k [ae_pls e (-v), ae_neg e v]).map (fun k' => (g, k', M, lv, r)) ++ rs)
noncomputable def ae_al (ex : Bool) (t pc : Nat) (k : ae_K) (M : List ae_M) (lv : ae_L) (st : List ae_V) : Option (List ae_R) := match st with
  | i :: p :: r => bif Nat.beq i.1 0 && Nat.beq p.1 2 && ae_isA p.2.1 t && ae_ib k p.2.1 i.2.2 then ae_rd ex pc k M lv p.2.1 i.2.2 r else none
  | _ => none
noncomputable def ae_al0 (ex : Bool) (pc : Nat) (k : ae_K) (M : List ae_M) (lv : ae_L) (st : List ae_V) : Option (List ae_R) := match st with
  | i :: p :: r => bif Nat.beq i.1 0 && Nat.beq p.1 2 && Nat.beq p.2.1 0 then (bif ae_ib k 0 i.2.2 then ae_rd ex pc k M lv 0 i.2.2 r else none) else ae_al ex 0 pc k M lv st
  | _ => none
/-- a reading of a row of references: index by index -/
noncomputable def ae_aq (ex : Bool) (pc : Nat) (k : ae_K) (M : List ae_M) (lv : ae_L) (r : List ae_V) (p : Nat) (e : ae_X) (a s : Nat) : Nat → Option (List ae_R)
  | 0 => some []
  | n + 1 => bif Nat.beq (ae_iv p (a + s * n)).1 2 then (ae_aq ex pc k M lv r p e a s n).bind fun rs => some ((ae_ask k [ae_pls e (-((a + s * n : Nat) : Int)), ae_neg e ((a + s * n : Nat) : Int)]).map (fun k' => (pc, k', M, lv, (2, (ae_iv p (a + s * n)).2.1.toNat, ae_num 0) :: r)) ++ rs) else none
noncomputable def ae_alq (ex : Bool) (pc : Nat) (k : ae_K) (M : List ae_M) (lv : ae_L) (st : List ae_V) : Option (List ae_R) := match st with
  | i :: p :: r => bif Nat.beq i.1 0 && Nat.beq p.1 2 && ae_isA p.2.1 (ae_sh p.2.1).2.1 && Nat.ble 3 (ae_sh p.2.1).2.1 && Nat.blt (ae_sh p.2.1).2.1 9 && ae_ib k p.2.1 i.2.2 && ae_nd k M p.2.1 (ae_nr k i.2.2) && ae_nx k p.2.1 (ae_nr k i.2.2) then (ae_js k (ae_nr k i.2.2)).bind fun q => bif Nat.ble q.2.2 16 then ae_aq ex pc k M lv r p.2.1 (ae_nr k i.2.2) q.1 q.2.1 q.2.2 else none else none
  | _ => none
noncomputable def ae_as3 (ex : Bool) (mo : ae_Mo) (t pc : Nat) (k : ae_K) (M : List ae_M) (lv : ae_L) (st : List ae_V) : Option (List ae_R) := match st with
  | z :: i :: p :: r => bif Nat.beq z.1 (bif Nat.beq t 2 then 1 else 0) && Nat.beq i.1 0 && Nat.beq p.1 2 && ae_isA p.2.1 t && ae_ib k p.2.1 i.2.2 then
      (bif Nat.beq t 1 && !(ae_rg k z.2.2 (-128) 127) then ae_wt2 ex mo pc (ae_ni k (-128) 127).1 M lv p.2.1 i.2.2 (ae_ni k (-128) 127).2 r else ae_wt2 ex mo pc k M lv p.2.1 i.2.2 z r) else none
  | _ => none
noncomputable def ae_ft (a b : Nat) (k : ae_K) (v : ae_V) : Bool := match am_ty a b with
  | .int => Nat.beq v.1 0
  | .boolean => Nat.beq v.1 0 && ae_rg k v.2.2 0 1
  | .long => Nat.beq v.1 1
  | _ => false
noncomputable def ae_q_dup  (pc : Nat) (k : ae_K) (M : List ae_M) (lv : ae_L) (st : List ae_V) : Option (List ae_R) := match st with
  | v :: r => bif Nat.beq v.1 1 then none else some [(pc + 1, k, M, lv, v :: v :: r)]
  | [] => none
noncomputable def ae_q_dup2  (pc : Nat) (k : ae_K) (M : List ae_M) (lv : ae_L) (st : List ae_V) : Option (List ae_R) := match st with
  | v :: w :: r => bif Nat.beq v.1 1 || Nat.beq w.1 1 then none else some [(pc + 1, k, M, lv, v :: w :: v :: w :: r)]
  | _ => none
noncomputable def ae_q_pop  (pc : Nat) (k : ae_K) (M : List ae_M) (lv : ae_L) (st : List ae_V) : Option (List ae_R) := match st with
  | v :: r => bif Nat.beq v.1 1 then none else some [(pc + 1, k, M, lv, r)]
  | [] => none
noncomputable def ae_q_pop2  (pc : Nat) (k : ae_K) (M : List ae_M) (lv : ae_L) (st : List ae_V) : Option (List ae_R) := match st with
  | v :: r => bif Nat.beq v.1 1 then some [(pc + 1, k, M, lv, r)] else none
  | [] => none
noncomputable def ae_q_lshl  (pc : Nat) (k : ae_K) (M : List ae_M) (lv : ae_L) (st : List ae_V) : Option (List ae_R) := match st with
  | y :: x :: r => bif Nat.beq y.1 0 && Nat.beq x.1 1 then some [(pc + 1, (ae_nj k).1, M, lv, (ae_nj k).2 :: r)] else none
  | _ => none
noncomputable def ae_q_i2l  (pc : Nat) (k : ae_K) (M : List ae_M) (lv : ae_L) (st : List ae_V) : Option (List ae_R) := match st with
  | v :: r => bif Nat.beq v.1 0 then some [(pc + 1, k, M, lv, (1, 0, v.2.2) :: r)] else none
  | [] => none
noncomputable def ae_q_l2i  (pc : Nat) (k : ae_K) (M : List ae_M) (lv : ae_L) (st : List ae_V) : Option (List ae_R) := match st with
  | v :: r => bif Nat.beq v.1 1 then (bif ae_rg k v.2.2 (-2147483648) 2147483647 then some [(pc + 1, k, M, lv, (0, 0, ae_nr k v.2.2) :: r)] else some [(pc + 1, (ae_ni k (-2147483648) 2147483647).1, M, lv, (ae_ni k (-2147483648) 2147483647).2 :: r)]) else none
  | [] => none
noncomputable def ae_q_ifCond (c : ClassFile.Cond) (a : Nat) (pc : Nat) (k : ae_K) (M : List ae_M) (lv : ae_L) (st : List ae_V) : Option (List ae_R) := match st with
  | v :: r => bif Nat.beq v.1 0 || Nat.beq v.1 4 then some (ae_ifk a (pc + 3) M lv r (ae_cd k (ae_nr k v.2.2) c)) else none
  | [] => none
noncomputable def ae_q_if_icmp (c : ClassFile.Cond) (a : Nat) (pc : Nat) (k : ae_K) (M : List ae_M) (lv : ae_L) (st : List ae_V) : Option (List ae_R) := match st with
  | y :: x :: r => bif Nat.beq y.1 0 && Nat.beq x.1 0 then some (ae_ifk a (pc + 3) M lv r (ae_cd k (ae_sub x.2.2 y.2.2) c)) else none
  | _ => none
noncomputable def ae_q_tableswitch (d lo hi : Int) (offs : Array Int) (pc : Nat) (k : ae_K) (M : List ae_M) (lv : ae_L) (st : List ae_V) : Option (List ae_R) := match st with
  | v :: r => bif Nat.beq v.1 0 then (am_sw pc d).bind fun t => (ae_tw pc k M lv r (ae_nr k v.2.2) offs.toList lo).bind fun rs => bif decide (hi < lo + (offs.toList.length : Int)) then some ((ae_as k (ae_pls (ae_nr k v.2.2) (1 - lo)) ++ ae_as k (ae_neg (ae_nr k v.2.2) (hi + 1))).map (fun k' => (t, k', M, lv, r)) ++ rs) else none else none
  | [] => none
noncomputable def ae_q_getfield (ex : Bool) (a b : Nat) (pc : Nat) (k : ae_K) (M : List ae_M) (lv : ae_L) (st : List ae_V) : Option (List ae_R) := match st with
  | v :: r => bif Nat.beq v.1 2 && ae_isO v.2.1 a b then ae_rd ex (pc + 3) k M lv v.2.1 (ae_num (b : Int)) r else none
  | [] => none
noncomputable def ae_q_putfield (ex : Bool) (mo : ae_Mo) (a b : Nat) (pc : Nat) (k : ae_K) (M : List ae_M) (lv : ae_L) (st : List ae_V) : Option (List ae_R) := match st with
  | v :: p :: r => bif Nat.beq p.1 2 && ae_isO p.2.1 a b && ae_ft a b k v && !(am_fin a b) then ae_wt2 ex mo (pc + 3) k M lv p.2.1 (ae_num (b : Int)) v r else none
  | _ => none
noncomputable def ae_q_arraylength  (pc : Nat) (k : ae_K) (M : List ae_M) (lv : ae_L) (st : List ae_V) : Option (List ae_R) := match st with
  | p :: r => bif Nat.beq p.1 2 && Nat.beq p.2.1 0 then some [(pc + 1, k, M, lv, (0, 0, ae_sym 0) :: r)] else none
  | [] => none
noncomputable def ae_sp (ex : Bool) (mo : ae_Mo) (nL : Nat) (i : Instr) (a b pc : Nat) (k : ae_K) (M : List ae_M) (lv : ae_L) (st : List ae_V) : Option (List ae_R) :=
  match i with
  | .iconst n => ae_ps (pc + 1) k M lv st (0, 0, ae_num (Int32.ofInt n).toInt)
  | .bipush n => ae_ps (pc + 2) k M lv st (0, 0, ae_num (Int8.ofInt n).toInt32.toInt)
  | .sipush n => ae_ps (pc + 3) k M lv st (0, 0, ae_num (Int16.ofInt n).toInt32.toInt)
  | .lconst n => ae_ps (pc + 1) k M lv st (1, 0, ae_num (Int64.ofNat n.val).toInt)
  | .ldc _ => bif Nat.ble 1000 a then bif Nat.ble (ae_cats st) 8 then (bif Nat.beq a 1000 then ae_ps (pc + 5) k M lv st (0, 0, ae_num (nI am_wn).toInt) else
      (ae_lg lv b).bind fun v => bif Nat.beq v.1 0 && ae_rg k v.2.2 0 ((am_wn : Int) - 1) then ae_ps (pc + 7) (ae_ni k 0 127).1 M lv st (ae_ni k 0 127).2 else none) else none
      else am_CI[a]?.bind fun q => ae_ps (pc + 2) k M lv st (0, 0, ae_num q.2.2.1.toInt)
  | .ldc_w _ => am_CI[a]?.bind fun q => ae_ps (pc + 3) k M lv st (0, 0, ae_num q.2.2.1.toInt)
  | .ldc2_w _ => am_CL[a]?.bind fun q => ae_ps (pc + 3) k M lv st (1, 0, ae_num q.2.2.1.toInt)
  | .iload_n n => ae_ll 0 (pc + 1) n.val k M lv st
  | .iload n => ae_ll 0 (pc + 2) n k M lv st
  | .lload_n n => ae_ll 1 (pc + 1) n.val k M lv st
  | .lload n => ae_ll 1 (pc + 2) n k M lv st
  | .aload_n n => ae_ll 2 (pc + 1) n.val k M lv st
  | .aload n => ae_ll 2 (pc + 2) n k M lv st
  | .istore_n n => bif Nat.blt n.val nL then ae_ss 0 (pc + 1) n.val k M lv st else none
  | .istore n => bif Nat.blt n nL then ae_ss 0 (pc + 2) n k M lv st else none
  | .lstore_n n => bif Nat.blt (n.val + 1) nL then ae_ss 1 (pc + 1) n.val k M lv st else none
  | .lstore n => bif Nat.blt (n + 1) nL then ae_ss 1 (pc + 2) n k M lv st else none
  | .astore_n n => bif Nat.blt n.val nL then ae_ss 2 (pc + 1) n.val k M lv st else none
  | .astore n => bif Nat.blt n nL then ae_ss 2 (pc + 2) n k M lv st else none
  | .iinc n d => bif Nat.blt n nL then (ae_lg lv n).bind fun v => bif Nat.beq v.1 0 then some [(pc + 3, (ae_pi k (ae_pls (ae_nr k v.2.2) (ae_w32 d))).1, M, ae_p1 lv n (ae_pi k (ae_pls (ae_nr k v.2.2) (ae_w32 d))).2, st)] else none else none
  | .dup => ae_q_dup pc k M lv st
  | .dup2 => ae_q_dup2 pc k M lv st
  | .pop => ae_q_pop pc k M lv st
  | .pop2 => ae_q_pop2 pc k M lv st
  | .iadd => ae_bo (ae_bc (fun x y => x + y) ae_gadd) (pc + 1) k M lv st
  | .isub => ae_bo (ae_bc (fun x y => x - y) ae_gsub) (pc + 1) k M lv st
  | .imul => ae_bo (ae_bc (fun x y => x * y) ae_gmul) (pc + 1) k M lv st
  | .iand => ae_bo (ae_bc (fun x y => x &&& y) ae_gand) (pc + 1) k M lv st
  | .ior => ae_bo (ae_bc (fun x y => x ||| y) ae_gor) (pc + 1) k M lv st
  | .ixor => ae_bo (ae_bc (fun x y => x ^^^ y) ae_gor) (pc + 1) k M lv st
  | .ishl => ae_bo (ae_bc (fun x y => x <<< (y &&& 31)) ae_gful) (pc + 1) k M lv st
  | .ishr => ae_bo (ae_bc (fun x y => x >>> (y &&& 31)) ae_gful) (pc + 1) k M lv st
  | .iushr => ae_bo (ae_bc (fun x y => (x.toUInt32 >>> (y.toUInt32 &&& Int32.toUInt32 31)).toInt32) ae_gful) (pc + 1) k M lv st
  | .idiv => ae_bo (ae_dv (ae_bc (fun x y => x / y) ae_gdiv)) (pc + 1) k M lv st
  | .irem => ae_bo (ae_dv (ae_bc (fun x y => x - x / y * y) ae_grem)) (pc + 1) k M lv st
  | .ladd => ae_bj ae_hadd (pc + 1) k M lv st
  | .lsub => ae_bj ae_hsub (pc + 1) k M lv st
  | .lmul => ae_bj ae_hmul (pc + 1) k M lv st
  | .land => ae_bj ae_hful (pc + 1) k M lv st
  | .lor => ae_bj ae_hful (pc + 1) k M lv st
  | .ldiv => ae_bj (ae_dv ae_hful) (pc + 1) k M lv st
  | .lrem => ae_bj (ae_dv ae_hful) (pc + 1) k M lv st
  | .lshl => ae_q_lshl pc k M lv st
  | .lcmp => ae_bj ae_hcmp (pc + 1) k M lv st
  | .i2l => ae_q_i2l pc k M lv st
  | .l2i => ae_q_l2i pc k M lv st
  | .i2b => ae_i2 (-128) 127 (pc + 1) k M lv st
  | .i2s => ae_i2 (-32768) 32767 (pc + 1) k M lv st
  | .ifCond c _ => ae_q_ifCond c a pc k M lv st
  | .if_icmp c _ => ae_q_if_icmp c a pc k M lv st
  | .goto _ => some [(a, k, M, lv, st)]
  | .tableswitch d lo hi offs => ae_q_tableswitch d lo hi offs pc k M lv st
  | .getfield _ => ae_q_getfield ex a b pc k M lv st
  | .putfield _ => ae_q_putfield ex mo a b pc k M lv st
  | .iaload => ae_al0 ex (pc + 1) k M lv st
  | .baload => ae_al ex 1 (pc + 1) k M lv st
  | .laload => ae_al ex 2 (pc + 1) k M lv st
  | .aaload => ae_alq ex (pc + 1) k M lv st
  | .iastore => ae_as3 ex mo 0 (pc + 1) k M lv st
  | .bastore => ae_as3 ex mo 1 (pc + 1) k M lv st
  | .lastore => ae_as3 ex mo 2 (pc + 1) k M lv st
  | .arraylength => ae_q_arraylength pc k M lv st
  | _ => none
section AEO
variable {ex : Bool} {mo : ae_Mo} {ρ : Nat → Int} {L : Nat} {xs : Nat → Int32} {k : ae_K} {M : List ae_M} {lv : ae_L} {st : List ae_V} {lw : am_L} {sw : List Value} {h : List am_E} {pc : Nat} {o : List ae_R}
theorem ae_ps_i (H : ae_mm ex ρ L xs k M lv st lw sw h) {x : Int32} (q : ae_ps pc k M lv st (0, 0, ae_num x.toInt) = some o) : ae_G ex mo ρ L xs k o (some (pc, lw, .int x :: sw, none)) h := by
  cases q
  exact ae_G_push H (ae_same H.1 ⟨x, rfl, ae_num_dn _⟩)
theorem ae_ps_l (H : ae_mm ex ρ L xs k M lv st lw sw h) {x : Int64} (q : ae_ps pc k M lv st (1, 0, ae_num x.toInt) = some o) : ae_G ex mo ρ L xs k o (some (pc, lw, .long x :: sw, none)) h := by
  cases q
  exact ae_G_push H (ae_same H.1 ⟨x, rfl, ae_num_dn _⟩)
theorem ae_ll_ok (H : ae_mm ex ρ L xs k M lv st lw sw h) {t i : Nat} (q : ae_ll t pc i k M lv st = some o) : ∃ a v, am_lk lw i = some v ∧ Nat.beq a.1 t = true ∧ ae_ok k.1 ρ a v ∧ ae_G ex mo ρ L xs k o (some (pc, lw, v :: sw, none)) h := by
  obtain ⟨a, h1, q⟩ := Option.bind_eq_some_iff.mp q
  obtain ⟨v, g1, g2⟩ := ae_lg_ok H.2.2.2.1 h1
  cases hb : Nat.beq a.1 t with
  | false => rw [hb] at q; cases q
  | true =>
    rw [hb] at q
    refine ⟨a, v, g1, hb, g2, ?_⟩
    cases q
    refine ae_G_push H (ae_same H.1 ?_)
    obtain ⟨a1, a2, a3⟩ := a
    unfold ae_ok at *
    match a1, g2 with
    | 0, g2 => obtain ⟨x, e1, e2⟩ := g2; exact ⟨x, e1, ae_nr_dn H.1 e2⟩
    | 1, g2 => obtain ⟨x, e1, e2⟩ := g2; exact ⟨x, e1, ae_nr_dn H.1 e2⟩
    | 2, g2 => exact g2
    | 3, g2 => exact g2
    | 4, g2 => obtain ⟨x, e1, e2⟩ := g2; exact ⟨x, ae_nr_dn H.1 e1, e2⟩
    | t + 5, g2 => exact absurd g2 id
theorem ae_ss_ok (H : ae_mm ex ρ L xs k M lv st lw sw h) {t i : Nat} (q : ae_ss t pc i k M lv st = some o) : ∃ a v r, sw = v :: r ∧ Nat.beq a.1 t = true ∧ ae_ok k.1 ρ a v ∧ ae_G ex mo ρ L xs k o (some (pc, (bif Nat.beq t 1 then am_put2 lw i v else am_put1 lw i v), r, none)) h := by
  unfold ae_ss at q
  split at q
  · rename_i a s
    cases hb : Nat.beq a.1 t with
    | false => rw [hb] at q; cases q
    | true =>
      rw [hb] at q
      cases q
      obtain ⟨v, r, rfl, g1, g2⟩ := ae_sr1 H.2.2.2.2
      refine ⟨a, v, r, rfl, hb, g1, ?_⟩
      cases ht : Nat.beq t 1 with
      | true => exact ae_G_pure H (ae_p2_ok H.2.2.2.1 g1) g2
      | false => exact ae_G_pure H (ae_p1_ok H.2.2.2.1 g1) g2
  · cases q
theorem ae_dv_ok {f : ae_K → ae_X → ae_X → Option (ae_K × ae_V)} {F : Int32 → Int32 → Int32} (hf : ae_snd f F) : ae_snd (ae_dv f) F := by
  intro ρ k X Y x y q hK hX hY h
  unfold ae_dv at h
  cases hb : ae_n0 k (ae_nr k Y) with
  | false => rw [hb] at h; cases h
  | true => rw [hb] at h; exact hf ρ k X Y x y q hK hX hY h
theorem ae_dw_ok {f : ae_K → ae_X → ae_X → Option (ae_K × ae_V)} {F : Int64 → Int64 → Value} (hf : ae_sne f F) : ae_sne (ae_dv f) F := by
  intro ρ k X Y x y q hK hX hY h
  unfold ae_dv at h
  cases hb : ae_n0 k (ae_nr k Y) with
  | false => rw [hb] at h; cases h
  | true => rw [hb] at h; exact hf ρ k X Y x y q hK hX hY h
theorem ae_bod (hK : ae_okK ρ k) {f : ae_K → ae_X → ae_X → Option (ae_K × ae_V)} (q : ae_bo (ae_dv f) pc k M lv st = some o) {y : Int32} (hd : ∀ X Y r, st = Y :: X :: r → ae_dn k.1 ρ Y.2.2 y.toInt) : ¬ y = 0 := by
  unfold ae_bo at q
  split at q
  · rename_i Y X r
    cases hb : Nat.beq Y.1 0 && Nat.beq X.1 0 with
    | false => rw [hb] at q; cases q
    | true =>
      rw [hb] at q
      obtain ⟨z, h1, q⟩ := Option.bind_eq_some_iff.mp q
      unfold ae_dv at h1
      cases hn : ae_n0 k (ae_nr k Y.2.2) with
      | false => rw [hn] at h1; cases h1
      | true =>
        have h2 := ae_n0_ok hK (ae_nr_dn hK (hd X Y r rfl)) hn
        intro e
        rw [e] at h2
        exact h2 rfl
  · cases q
theorem ae_bjd (hK : ae_okK ρ k) {f : ae_K → ae_X → ae_X → Option (ae_K × ae_V)} (q : ae_bj (ae_dv f) pc k M lv st = some o) {y : Int64} (hd : ∀ X Y r, st = Y :: X :: r → ae_dn k.1 ρ (ae_nr k Y.2.2) y.toInt) : ¬ y = 0 := by
  unfold ae_bj at q
  split at q
  · rename_i Y X r
    cases hb : Nat.beq Y.1 1 && Nat.beq X.1 1 with
    | false => rw [hb] at q; cases q
    | true =>
      rw [hb] at q
      obtain ⟨z, h1, q⟩ := Option.bind_eq_some_iff.mp q
      unfold ae_dv at h1
      cases hn : ae_n0 k (ae_nr k (ae_nr k Y.2.2)) with
      | false => rw [hn] at h1; cases h1
      | true =>
        have h2 := ae_n0_ok hK (ae_nr_dn hK (hd X Y r rfl)) hn
        intro e
        rw [e] at h2
        exact h2 rfl
  · cases q
theorem ae_i2_ok (H : ae_mm ex ρ L xs k M lv st lw sw h) {lo hi : Int} {g : Int32 → Int32} (hg : ∀ x : Int32, (lo ≤ (g x).toInt ∧ (g x).toInt ≤ hi) ∧ (lo ≤ x.toInt → x.toInt ≤ hi → g x = x)) (q : ae_i2 lo hi pc k M lv st = some o) : ∃ x r, sw = .int x :: r ∧ ae_G ex mo ρ L xs k o (some (pc, lw, .int (g x) :: r, none)) h := by
  unfold ae_i2 at q
  split at q
  · rename_i a s
    cases hb : Nat.beq a.1 0 with
    | false => rw [hb] at q; cases q
    | true =>
      rw [hb] at q
      obtain ⟨v, r, rfl, g1, g2⟩ := ae_sr1 H.2.2.2.2
      obtain ⟨x, rfl, d1⟩ := ae_ok0 g1 hb
      refine ⟨x, r, rfl, ?_⟩
      cases hc : ae_rg k a.2.2 lo hi with
      | true =>
        rw [hc] at q
        cases q
        have h1 := ae_rg_ok H.1 hc
        rw [d1.2] at h1
        rw [(hg x).2 h1.1 h1.2]
        exact ae_G_push (st := s) ⟨H.1, H.2.1, H.2.2.1, H.2.2.2.1, g2⟩ (ae_same H.1 g1)
      | false =>
        rw [hc] at q
        cases q
        exact ae_G_push (st := s) ⟨H.1, H.2.1, H.2.2.1, H.2.2.2.1, g2⟩ (ae_ni_ok H.1 (hg x).1.1 (hg x).1.2)
  · cases q
theorem ae_b8 (x : Int32) : ((-128 : Int) ≤ (x.toInt8.toInt32).toInt ∧ (x.toInt8.toInt32).toInt ≤ 127) ∧ ((-128 : Int) ≤ x.toInt → x.toInt ≤ 127 → x.toInt8.toInt32 = x) := by
  have h1 := Int8.le_toInt x.toInt8
  have h2 := Int8.toInt_lt x.toInt8
  rw [Int8.toInt_toInt32]
  refine ⟨⟨by omega, by omega⟩, fun a b => ?_⟩
  rw [← Int32.toInt_inj, Int8.toInt_toInt32, Int32.toInt_toInt8, ← Int8.toInt_ofInt, Int8.toInt_ofInt_of_le (by omega) (by omega)]
theorem ae_b16 (x : Int32) : ((-32768 : Int) ≤ (x.toInt16.toInt32).toInt ∧ (x.toInt16.toInt32).toInt ≤ 32767) ∧ ((-32768 : Int) ≤ x.toInt → x.toInt ≤ 32767 → x.toInt16.toInt32 = x) := by
  have h1 := Int16.le_toInt x.toInt16
  have h2 := Int16.toInt_lt x.toInt16
  rw [Int16.toInt_toInt32]
  refine ⟨⟨by omega, by omega⟩, fun a b => ?_⟩
  rw [← Int32.toInt_inj, Int16.toInt_toInt32, Int32.toInt_toInt16, ← Int16.toInt_ofInt, Int16.toInt_ofInt_of_le (by omega) (by omega)]
/-- a step that ends at one of these states, nothing written -/
theorem ae_G_mem {k' : ae_K} {r : List ae_V} {t : List Value} (H : ae_mm ex ρ L xs k M lv r lw t h) (hm : (pc, k', M, lv, r) ∈ o) (K' : ae_okK ρ k') (n' : k'.1 = k.1) : ae_G ex mo ρ L xs k o (some (pc, lw, t, none)) h :=
  ⟨_, h, rfl, rfl, ae_fr_rf _ _ _ _, _, hm, rfl, ρ, ⟨by rw [n']; exact Nat.le_refl _, ae_ag_rf _ _, K'⟩, K', ⟨by rw [n']; exact H.2.1.1, H.2.1.2⟩, by rw [n']; exact H.2.2.1, by rw [n']; exact H.2.2.2.1, by rw [n']; exact H.2.2.2.2⟩
theorem ae_eq_ask {e : ae_X} {x v : Int} (hK : ae_okK ρ k) (hd : ae_dn k.1 ρ e x) (hx : x = v) : ∃ k' ∈ ae_ask k [ae_pls e (-v), ae_neg e v], ae_okK ρ k' ∧ k'.1 = k.1 := by
  refine ae_ask_ok hK (fun f hf => ?_)
  rcases List.mem_cons.mp hf with rfl | hf
  · have := ae_pls_dn hd (-v)
    exact ⟨this.1, by rw [this.2]; omega⟩
  · rw [List.mem_singleton.mp hf]
    have := ae_neg_dn hd v
    exact ⟨this.1, by rw [this.2]; omega⟩
theorem ae_tw_ok {r : List ae_V} {t : List Value} {e : ae_X} {x : Int} (H : ae_mm ex ρ L xs k M lv r lw t h) (hd : ae_dn k.1 ρ e x) : ∀ {offs : List Int} {v : Int} {o : List ae_R}, ae_tw pc k M lv r e offs v = some o → v ≤ x → x < v + (offs.length : Int) → ∃ g k', (offs[(x - v).toNat]?).bind (am_sw pc) = some g ∧ (g, k', M, lv, r) ∈ o ∧ ae_okK ρ k' ∧ k'.1 = k.1
  | [], v, o, q, h1, h2 => by simp at h2; omega
  | w :: s, v, o, q, h1, h2 => by
    obtain ⟨g, g1, q⟩ := Option.bind_eq_some_iff.mp q
    obtain ⟨rs, g2, q⟩ := Option.bind_eq_some_iff.mp q
    cases q
    by_cases hx : x = v
    · obtain ⟨k', m, K', n'⟩ := ae_eq_ask H.1 hd hx
      refine ⟨g, k', ?_, List.mem_append_left _ (List.mem_map.mpr ⟨k', m, rfl⟩), K', n'⟩
      rw [hx]
      have : (v - v).toNat = 0 := by omega
      rw [this]
      exact g1
    · rw [List.length_cons] at h2
      obtain ⟨g', k', z1, z2, z3⟩ := ae_tw_ok H hd g2 (by omega) (by omega)
      refine ⟨g', k', ?_, List.mem_append_right _ z2, z3⟩
      have : (x - v).toNat = (x - (v + 1)).toNat + 1 := by omega
      rw [this, List.getElem?_cons_succ]
      exact z1
end AEO
