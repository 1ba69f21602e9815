/-! A run over places: a reference is 0 (the script) or k + 1 (the k-th cell that the run has made) -/
abbrev am_E : Type := (Nat × vp_A) ⊕ (Nat × List Value)
abbrev am_L : Type := List (Nat × Value)
abbrev am_Ef : Type := Option (Option Nat × am_E)
abbrev am_R4 : Type := Nat × am_L × List Value × am_Ef
def am_lk : am_L → Nat → Option Value
  | [], _ => none
  | q :: t, i => bif Nat.beq q.1 i then some q.2 else am_lk t i
def am_vi : Option Value → Option Int32
  | some (.int x) => some x
  | _ => none
def am_vl : Option Value → Option Int64
  | some (.long x) => some x
  | _ => none
def am_vr : Option Value → Option Nat
  | some (.ref x) => some x
  | _ => none
def am_gi (lv : am_L) (i : Nat) : Option Int32 := am_vi (am_lk lv i)
def am_gl (lv : am_L) (i : Nat) : Option Int64 := am_vl (am_lk lv i)
def am_gr (lv : am_L) (i : Nat) : Option Nat := am_vr (am_lk lv i)
def am_pi : List Value → Option (Int32 × List Value)
  | .int x :: r => some (x, r)
  | _ => none
def am_pl : List Value → Option (Int64 × List Value)
  | .long x :: r => some (x, r)
  | _ => none
def am_pr : List Value → Option (Nat × List Value)
  | .ref x :: r => some (x, r)
  | _ => none
def am_p1 : List Value → Option (Value × List Value)
  | v :: r => bif Nat.beq v.category 1 then some (v, r) else none
  | [] => none
def am_put1 (lv : am_L) (i : Nat) (v : Value) : am_L := (i, v) :: lv.filter (fun q => !(q.1 == i) && !(q.1 + 1 == i && q.2.category == 2))
def am_put2 (lv : am_L) (i : Nat) (v : Value) : am_L := (i, v) :: lv.filter (fun q => !(q.1 == i) && (!(q.1 == i + 1) && !(q.1 + 1 == i && q.2.category == 2)))
def am_b2 (st : List Value) (f : Int32 → Int32 → Int32) : Option (List Value) := (am_pi st).bind fun q => (am_pi q.2).bind fun r => some (.int (f r.1 q.1) :: r.2)
def am_l2 (st : List Value) (f : Int64 → Int64 → Int64) : Option (List Value) := (am_pl st).bind fun q => (am_pl q.2).bind fun r => some (.long (f r.1 q.1) :: r.2)
def am_nx (pc : Nat) (lv : am_L) (o : Option (List Value)) : Option am_R4 := o.bind fun st => some (pc, lv, st, none)
def am_sz : am_E → Nat
  | .inl x => x.2.1
  | .inr o => o.2.length
def am_sl (h : List am_E) : Nat := (h.map am_sz).sum
def am_app (h : List am_E) : am_Ef → Option (List am_E)
  | none => some h
  | some (some k, e) => h[k]?.bind fun e0 => bif Nat.beq (am_sz e0) (am_sz e) then some (h.set k e) else none
  | some (none, e) => some (h ++ [e])
def am_if {α : Type} (b : Bool) (o : Option α) : Option α := bif b then o else none
def am_cm1 (c : ClassFile.Cond) (x : Int32) : Bool := match c with
  | .eq => decide (x = 0)
  | .ne => decide (¬ x = 0)
  | .lt => decide (x < 0)
  | .ge => decide (0 ≤ x)
  | .gt => decide (0 < x)
  | .le => decide (x ≤ 0)
def am_cm2 (c : ClassFile.Cond) (x y : Int32) : Bool := match c with
  | .eq => decide (x = y)
  | .ne => decide (¬ x = y)
  | .lt => decide (x < y)
  | .ge => decide (y ≤ x)
  | .gt => decide (y < x)
  | .le => decide (x ≤ y)
def am_in (i : Int32) (n : Nat) : Bool := !(decide (i < 0)) && Nat.blt i.toNatClampNeg n
/-- the cell of a place -/
def am_at (h : List am_E) (k : Nat) : Option am_E := match k with
  | 0 => none
  | k + 1 => h[k]?
def am_ob (h : List am_E) (k ci : Nat) : Option (List Value) := match am_at h k with
  | some (.inr (c, fs)) => am_if (Nat.beq c ci) (some fs)
  | _ => none
def am_ai (h : List am_E) (k t : Nat) : Option (Nat × (Nat → Int32)) := match am_at h k with
  | some (.inl (c, n, .inl f)) => am_if (Nat.beq c t) (some (n, f))
  | _ => none
def am_al (h : List am_E) (k : Nat) : Option (Nat × (Nat → Int64)) := match am_at h k with
  | some (.inl (c, n, .inr (.inl f))) => am_if (Nat.beq c 2) (some (n, f))
  | _ => none
def am_aq (h : List am_E) (k : Nat) : Option (Nat × Nat × (Nat → Option Nat)) := match am_at h k with
  | some (.inl (c, n, .inr (.inr (.inr (.inr f))))) => am_if (Nat.ble 3 c && Nat.blt c 9) (some (c, n, f))
  | _ => none
def am_fin (ci k : Nat) : Bool := (am_T ci k).2.2.2
def am_fit (ci k : Nat) (v : Value) : Bool := decide (narrow (am_ty ci k) v = v) && fits (am_ty ci k) v
def am_def (ci : Nat) : List Value := (List.range (am_N ci)).map (fun k => defaultValue (am_ty ci k))
def am_sw (pc : Nat) (off : Int) : Option Nat := am_if (decide (0 ≤ (pc : Int) + off)) (some ((pc : Int) + off).toNat)
def am_cats (vs : List Value) : Nat := (vs.map fun v => v.category).sum
/-- the class's words, as they stand in its one text -/
def am_wl : List Nat := [114, 105, 99, 107, 32, 104, 111, 108, 100, 115, 32, 108, 97, 121, 101, 114, 115, 32, 99, 97, 112, 115, 32, 115, 105, 100, 101, 32, 119, 101, 105, 103, 104, 116, 32, 110, 101, 116, 32, 116, 111, 32, 100, 111, 103, 32, 97, 116, 32, 99, 97, 116, 99, 104, 101, 115, 32, 116, 105, 114, 101, 115, 32, 98, 111, 121, 32, 114, 101, 97, 99, 104, 32, 112, 101, 110, 110, 121, 32, 99, 111, 114, 110, 32, 98, 114, 101, 101, 100, 32, 99, 111, 115, 116, 32, 116, 97, 107, 101, 32, 104, 111, 117, 114, 32, 108, 97, 115, 116, 32, 103, 97, 112, 32, 109, 111, 118, 101, 32, 119, 101, 101, 107, 32, 119, 105, 110, 100, 32, 119, 104, 101, 110, 32, 114, 97, 116, 115, 32, 111, 102, 102, 32, 116, 105, 114, 101, 100, 32, 108, 111, 111, 112, 32, 101, 110, 100, 32, 115, 116, 111, 112, 32]
def am_wn : Nat := 163
def am_simple (L : Nat) (xs : Nat → Int32) (own : Nat) (ini : Bool) (nL : Nat) (i : Instr) (a b pc : Nat) (lv : am_L) (st : List Value) (h : List am_E) : Option am_R4 :=
  match i with
  | .iconst n => some (pc + 1, lv, .int (Int32.ofInt n) :: st, none)
  | .bipush n => some (pc + 2, lv, .int (Int8.ofInt n).toInt32 :: st, none)
  | .sipush n => some (pc + 3, lv, .int (Int16.ofInt n).toInt32 :: st, none)
  | .lconst n => some (pc + 1, lv, .long (Int64.ofNat n.val) :: st, none)
  | .ldc _ => bif Nat.ble 1000 a then am_if (Nat.ble (am_cats st) 8) (bif Nat.beq a 1000 then some (pc + 5, lv, .int (nI am_wn) :: st, none) else (am_gi lv b).bind fun x => am_if (am_in x am_wn) (some (pc + 7, lv, .int (nI (am_wl.getD x.toNatClampNeg 0)) :: st, none))) else am_CI[a]?.bind fun q => some (pc + 2, lv, .int q.2.2.1 :: st, none)
  | .ldc_w _ => am_CI[a]?.bind fun q => some (pc + 3, lv, .int q.2.2.1 :: st, none)
  | .ldc2_w _ => am_CL[a]?.bind fun q => some (pc + 3, lv, .long q.2.2.1 :: st, none)
  | .iload_n n => (am_gi lv n.val).bind fun x => some (pc + 1, lv, .int x :: st, none)
  | .iload n => (am_gi lv n).bind fun x => some (pc + 2, lv, .int x :: st, none)
  | .lload_n n => (am_gl lv n.val).bind fun x => some (pc + 1, lv, .long x :: st, none)
  | .lload n => (am_gl lv n).bind fun x => some (pc + 2, lv, .long x :: st, none)
  | .aload_n n => (am_gr lv n.val).bind fun x => some (pc + 1, lv, .ref x :: st, none)
  | .aload n => (am_gr lv n).bind fun x => some (pc + 2, lv, .ref x :: st, none)
  | .istore_n n => am_if (Nat.blt n.val nL) ((am_pi st).bind fun q => some (pc + 1, am_put1 lv n.val (.int q.1), q.2, none))
  | .istore n => am_if (Nat.blt n nL) ((am_pi st).bind fun q => some (pc + 2, am_put1 lv n (.int q.1), q.2, none))
  | .lstore_n n => am_if (Nat.blt (n.val + 1) nL) ((am_pl st).bind fun q => some (pc + 1, am_put2 lv n.val (.long q.1), q.2, none))
  | .lstore n => am_if (Nat.blt (n + 1) nL) ((am_pl st).bind fun q => some (pc + 2, am_put2 lv n (.long q.1), q.2, none))
  | .astore_n n => am_if (Nat.blt n.val nL) ((am_pr st).bind fun q => some (pc + 1, am_put1 lv n.val (.ref q.1), q.2, none))
  | .astore n => am_if (Nat.blt n nL) ((am_pr st).bind fun q => some (pc + 2, am_put1 lv n (.ref q.1), q.2, none))
  | .iinc n k => am_if (Nat.blt n nL) ((am_gi lv n).bind fun x => some (pc + 3, am_put1 lv n (.int (x + Int32.ofInt k)), st, none))
  | .dup => (am_p1 st).bind fun q => some (pc + 1, lv, q.1 :: q.1 :: q.2, none)
  | .dup2 => (am_p1 st).bind fun q => (am_p1 q.2).bind fun r => some (pc + 1, lv, q.1 :: r.1 :: q.1 :: r.1 :: r.2, none)
  | .pop => (am_p1 st).bind fun q => some (pc + 1, lv, q.2, none)
  | .pop2 => (am_pl st).bind fun q => some (pc + 1, lv, q.2, none)
  | .iadd => am_nx (pc + 1) lv (am_b2 st (fun x y => x + y))
  | .isub => am_nx (pc + 1) lv (am_b2 st (fun x y => x - y))
  | .imul => am_nx (pc + 1) lv (am_b2 st (fun x y => x * y))
  | .iand => am_nx (pc + 1) lv (am_b2 st (fun x y => x &&& y))
  | .ior => am_nx (pc + 1) lv (am_b2 st (fun x y => x ||| y))
  | .ixor => am_nx (pc + 1) lv (am_b2 st (fun x y => x ^^^ y))
  | .ishl => am_nx (pc + 1) lv (am_b2 st (fun x y => x <<< (y &&& 31)))
  | .ishr => am_nx (pc + 1) lv (am_b2 st (fun x y => x >>> (y &&& 31)))
  | .iushr => am_nx (pc + 1) lv (am_b2 st (fun x y => (x.toUInt32 >>> (y.toUInt32 &&& Int32.toUInt32 31)).toInt32))
  | .idiv => (am_pi st).bind fun q => (am_pi q.2).bind fun r => am_if (decide (¬ q.1 = 0)) (some (pc + 1, lv, .int (r.1 / q.1) :: r.2, none))
  | .irem => (am_pi st).bind fun q => (am_pi q.2).bind fun r => am_if (decide (¬ q.1 = 0)) (some (pc + 1, lv, .int (r.1 - r.1 / q.1 * q.1) :: r.2, none))
  | .ladd => am_nx (pc + 1) lv (am_l2 st (fun x y => x + y))
  | .lsub => am_nx (pc + 1) lv (am_l2 st (fun x y => x - y))
  | .lmul => am_nx (pc + 1) lv (am_l2 st (fun x y => x * y))
  | .land => am_nx (pc + 1) lv (am_l2 st (fun x y => x &&& y))
  | .lor => am_nx (pc + 1) lv (am_l2 st (fun x y => x ||| y))
  | .ldiv => (am_pl st).bind fun q => (am_pl q.2).bind fun r => am_if (decide (¬ q.1 = 0)) (some (pc + 1, lv, .long (r.1 / q.1) :: r.2, none))
  | .lrem => (am_pl st).bind fun q => (am_pl q.2).bind fun r => am_if (decide (¬ q.1 = 0)) (some (pc + 1, lv, .long (r.1 - r.1 / q.1 * q.1) :: r.2, none))
  | .lshl => (am_pi st).bind fun q => (am_pl q.2).bind fun r => some (pc + 1, lv, .long (r.1 <<< (q.1.toInt64 &&& 63)) :: r.2, none)
  | .lcmp => (am_pl st).bind fun q => (am_pl q.2).bind fun r => some (pc + 1, lv, .int (lg_cmp r.1 q.1) :: r.2, none)
  | .i2l => (am_pi st).bind fun q => some (pc + 1, lv, .long q.1.toInt64 :: q.2, none)
  | .l2i => (am_pl st).bind fun q => some (pc + 1, lv, .int q.1.toInt32 :: q.2, none)
  | .i2b => (am_pi st).bind fun q => some (pc + 1, lv, .int q.1.toInt8.toInt32 :: q.2, none)
  | .i2s => (am_pi st).bind fun q => some (pc + 1, lv, .int q.1.toInt16.toInt32 :: q.2, none)
  | .ifCond c _ => (am_pi st).bind fun q => some (bif am_cm1 c q.1 then a else pc + 3, lv, q.2, none)
  | .if_icmp c _ => (am_pi st).bind fun q => (am_pi q.2).bind fun r => some (bif am_cm2 c r.1 q.1 then a else pc + 3, lv, r.2, none)
  | .goto _ => some (a, lv, st, none)
  | .tableswitch d lo hi offs => (am_pi st).bind fun q => (bif decide (q.1.toInt < lo) || decide (hi < q.1.toInt) then am_sw pc d else (offs[(q.1.toInt - lo).toNat]?).bind (am_sw pc)).bind fun t => some (t, lv, q.2, none)
  | .getfield _ => (am_pr st).bind fun q => (am_ob h q.1 a).bind fun fs => fs[b]?.bind fun v => some (pc + 3, lv, v :: q.2, none)
  | .putfield _ => match st with
    | v :: st => (am_pr st).bind fun q => (am_ob h q.1 a).bind fun fs => am_if (Nat.blt b fs.length && am_fit a b v && (!(am_fin a b) || (ini && Nat.beq own a))) (some (pc + 3, lv, q.2, some (some (q.1 - 1), .inr (a, fs.set b v))))
    | [] => none
  | .iaload => (am_pi st).bind fun q => (am_pr q.2).bind fun r => match r.1 with
    | 0 => am_if (am_in q.1 L) (some (pc + 1, lv, .int (xs q.1.toNatClampNeg) :: r.2, none))
    | k + 1 => (am_ai h (k + 1) 0).bind fun c => am_if (am_in q.1 c.1) (some (pc + 1, lv, .int (c.2 q.1.toNatClampNeg) :: r.2, none))
  | .baload => (am_pi st).bind fun q => (am_pr q.2).bind fun r => (am_ai h r.1 1).bind fun c => am_if (am_in q.1 c.1) (some (pc + 1, lv, .int (c.2 q.1.toNatClampNeg) :: r.2, none))
  | .laload => (am_pi st).bind fun q => (am_pr q.2).bind fun r => (am_al h r.1).bind fun c => am_if (am_in q.1 c.1) (some (pc + 1, lv, .long (c.2 q.1.toNatClampNeg) :: r.2, none))
  | .aaload => (am_pi st).bind fun q => (am_pr q.2).bind fun r => (am_aq h r.1).bind fun c => am_if (am_in q.1 c.2.1) (some (pc + 1, lv, va_rf (c.2.2 q.1.toNatClampNeg) :: r.2, none))
  | .iastore => (am_pi st).bind fun z => (am_pi z.2).bind fun q => (am_pr q.2).bind fun r => (am_ai h r.1 0).bind fun c => am_if (am_in q.1 c.1) (some (pc + 1, lv, r.2, some (some (r.1 - 1), .inl (0, c.1, .inl (upd c.2 q.1.toNatClampNeg z.1)))))
  | .bastore => (am_pi st).bind fun z => (am_pi z.2).bind fun q => (am_pr q.2).bind fun r => (am_ai h r.1 1).bind fun c => am_if (am_in q.1 c.1) (some (pc + 1, lv, r.2, some (some (r.1 - 1), .inl (1, c.1, .inl (upd c.2 q.1.toNatClampNeg (vp_nar .byte z.1))))))
  | .lastore => (am_pl st).bind fun z => (am_pi z.2).bind fun q => (am_pr q.2).bind fun r => (am_al h r.1).bind fun c => am_if (am_in q.1 c.1) (some (pc + 1, lv, r.2, some (some (r.1 - 1), .inl (2, c.1, .inr (.inl (vp_updL c.2 q.1.toNatClampNeg z.1))))))
  | .aastore => (am_pr st).bind fun z => (am_pi z.2).bind fun q => (am_pr q.2).bind fun r => (am_aq h r.1).bind fun c => (am_ob h z.1 (am_tq c.1)).bind fun _ => am_if (am_in q.1 c.2.1) (some (pc + 1, lv, r.2, some (some (r.1 - 1), .inl (c.1, c.2.1, .inr (.inr (.inr (.inr (va_up c.2.2 q.1.toNatClampNeg (some z.1)))))))))
  | .arraylength => (am_pr st).bind fun q => am_if (Nat.beq q.1 0) (some (pc + 1, lv, .int (Int32.ofNat L) :: q.2, none))
  | .new _ => some (pc + 3, lv, .ref (h.length + 1) :: st, some (none, .inr (a, am_def a)))
  | .newarray _ => (am_pi st).bind fun q => am_if (!(decide (q.1 < 0)) && Nat.ble q.1.toNatClampNeg 65536) (some (pc + 2, lv, .ref (h.length + 1) :: q.2, some (none, .inl (a, q.1.toNatClampNeg, bif Nat.beq a 2 then .inr (.inl (fun _ => 0)) else .inl (fun _ => 0)))))
  | .anewarray _ => (am_pi st).bind fun q => am_if (!(decide (q.1 < 0)) && Nat.ble q.1.toNatClampNeg 65536) (some (pc + 3, lv, .ref (h.length + 1) :: q.2, some (none, .inl (a, q.1.toNatClampNeg, .inr (.inr (.inr (.inr (fun _ => none))))))))
  | _ => none
abbrev am_Go : Type := Nat → Nat → Nat → am_L → List Value → List am_E → Option (Option Value × List am_E)
/-- calls that aren't walked: 1000 Object's maker, 1001 min, 1002 max, 1003 abs, 1004 arraycopy of ints -/
def am_sys (a pc : Nat) (lv : am_L) (st : List Value) (h : List am_E) : Option am_R4 :=
  match a with
  | 1000 => (am_pr st).bind fun q => some (pc + 3, lv, q.2, none)
  | 1004 => (am_pi st).bind fun n => (am_pi n.2).bind fun dp => (am_pr dp.2).bind fun b => (am_pi b.2).bind fun sp => (am_pr sp.2).bind fun c => match am_ai h c.1 0 with
    | some f => (am_ai h b.1 0).bind fun g =>
      am_if (!(decide (sp.1 < 0)) && !(decide (dp.1 < 0)) && !(decide (n.1 < 0)) && Nat.ble (sp.1.toNatClampNeg + n.1.toNatClampNeg) f.1 && Nat.ble (dp.1.toNatClampNeg + n.1.toNatClampNeg) g.1)
        (some (pc + 3, lv, c.2, some (some (b.1 - 1), .inl (0, g.1, .inl (va_cpy f.2 g.2 sp.1.toNatClampNeg dp.1.toNatClampNeg n.1.toNatClampNeg)))))
    | none => (am_al h c.1).bind fun f => (am_al h b.1).bind fun g =>
      am_if (!(decide (sp.1 < 0)) && !(decide (dp.1 < 0)) && !(decide (n.1 < 0)) && Nat.ble (sp.1.toNatClampNeg + n.1.toNatClampNeg) f.1 && Nat.ble (dp.1.toNatClampNeg + n.1.toNatClampNeg) g.1)
        (some (pc + 3, lv, c.2, some (some (b.1 - 1), .inl (2, g.1, .inr (.inl (va_cpy f.2 g.2 sp.1.toNatClampNeg dp.1.toNatClampNeg n.1.toNatClampNeg))))))
  | 1002 => (am_pi st).bind fun q => (am_pi q.2).bind fun r => some (pc + 3, lv, .int (if r.1 < q.1 then q.1 else r.1) :: r.2, none)
  | 1003 => (am_pl st).bind fun q => some (pc + 3, lv, .long (if 0 < q.1 then q.1 else -q.1) :: q.2, none)
  | 1001 => (am_pi st).bind fun q => (am_pi q.2).bind fun r => some (pc + 3, lv, .int (if q.1 < r.1 then q.1 else r.1) :: r.2, none)
  | _ => none
def am_rcv (i : Instr) (a : Nat) (args : List Value) (h : List am_E) (own : Nat) : Bool := match i with
  | .invokevirtual _ => match args with
    | .ref k :: _ => (am_ob h k own).isSome
    | _ => false
  | .invokespecial _ => match args with
    | .ref _ :: _ => true
    | _ => false
  | .invokestatic _ => true
  | _ => false
def am_pop (i : Instr) (b : Nat) : Nat := match i with
  | .invokestatic _ => b
  | _ => b + 1
noncomputable def am_inv (ih : am_Go) (d y : Nat) (i : Instr) (a b pc : Nat) (lv : am_L) (st : List Value) (h : List am_E) : Option (Option Value × List am_E) :=
  bif Nat.ble 1000 a then (am_if (Nat.ble 1 d && Nat.ble (am_cats st) 16) (am_sys a pc lv st h)).bind fun q => (am_app h q.2.2.2).bind fun h' => ih d y q.1 q.2.1 q.2.2.1 h'
  else match d with
    | 0 => none
    | d + 1 => am_if (Nat.ble (am_pop i b) st.length && Nat.ble (am_cats (st.drop (am_pop i b))) 8 && am_rcv i a (st.take (am_pop i b)).reverse h (am_inf a).1 && Nat.ble (am_cats (st.take (am_pop i b))) (am_inf a).2.2.1)
      ((ih d a 0 (lv_args 0 (st.take (am_pop i b)).reverse) [] h).bind fun q => ih (d + 1) y (pc + 3) lv (q.1.toList ++ st.drop (am_pop i b)) q.2)
/-- the kinds of answers: 0 none, 1 int, 2 boolean, 3 long -/
def am_ret (i : Instr) (rk : Nat) (st : List Value) (h : List am_E) : Option (Option Value × List am_E) := match i with
  | .return_ => match st with
    | [] => am_if (Nat.beq rk 0) (some (none, h))
    | _ => none
  | .ireturn => match st with
    | [.int v] => am_if (Nat.beq rk 1 || (Nat.beq rk 2 && decide (v &&& 1 = v))) (some (some (.int v), h))
    | _ => none
  | .lreturn => match st with
    | [.long v] => am_if (Nat.beq rk 3) (some (some (.long v), h))
    | _ => none
  | _ => none
def am_isR : Instr → Bool
  | .return_ => true
  | .ireturn => true
  | .lreturn => true
  | _ => false
def am_isC : Instr → Bool
  | .invokevirtual _ => true
  | .invokespecial _ => true
  | .invokestatic _ => true
  | _ => false
noncomputable def am_step (L : Nat) (xs : Nat → Int32) (ih : am_Go) : am_Go := fun d y pc lv st h =>
  (am_code y pc).bind fun q =>
    bif am_isR q.1 then am_ret q.1 (am_inf y).2.2.2 st h
    else bif am_isC q.1 then am_inv ih d y q.1 q.2.1 q.2.2 pc lv st h
    else (am_simple L xs (am_inf y).1 (am_inf y).2.1 (am_inf y).2.2.1 q.1 q.2.1 q.2.2 pc lv st h).bind fun z => (am_app h z.2.2.2).bind fun h' => ih d y z.1 z.2.1 z.2.2.1 h'
noncomputable def am_go (L : Nat) (xs : Nat → Int32) (n : Nat) : am_Go :=
  Nat.rec (motive := fun _ => am_Go) (fun _ _ _ _ _ _ => none) (fun _ ih => am_step L xs ih) n
theorem am_go_succ (L : Nat) (xs : Nat → Int32) (n : Nat) : am_go L xs (n + 1) = am_step L xs (am_go L xs n) := rfl
