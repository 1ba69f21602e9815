abbrev rm_R5 : Type := rm_B × Nat × rm_L × List rm_V × List rm_E
noncomputable def rm_get (lv : rm_L) (i : Nat) : Option rm_V := match lv with
  | [] => none
  | q :: t => bif Nat.beq q.1 i then some q.2 else rm_get t i
noncomputable def rm_put1 (lv : rm_L) (i : Nat) (v : rm_V) : rm_L := (i, v) :: lv.filter (fun q => !(Nat.beq q.1 i) && !(Nat.beq (q.1 + 1) i && rm_isJ q.2))
noncomputable def rm_put2 (lv : rm_L) (i : Nat) (v : rm_V) : rm_L := (i, v) :: lv.filter (fun q => !(Nat.beq q.1 i) && (!(Nat.beq q.1 (i + 1)) && !(Nat.beq (q.1 + 1) i && rm_isJ q.2)))
noncomputable def rm_df (t : Nat) : rm_V := bif Nat.blt t 2 then (0, 0, 0) else bif Nat.beq t 2 then (3, 0, 0) else (6, 0, 0)
noncomputable def rm_ov (t : Nat) : List (Nat × rm_V) → Nat → rm_V
  | [], _ => rm_df t
  | q :: r, j => bif Nat.beq q.1 j then q.2 else rm_ov t r j
noncomputable def rm_ovs (t : Nat) (o : List (Nat × rm_V)) (j : Nat) (v : rm_V) : List (Nat × rm_V) := bif decide (rm_ov t o j = v) then o else (j, v) :: o.filter (fun q => !(Nat.beq q.1 j))
noncomputable def rm_eqE : rm_E → rm_E → Bool
  | .inl x, .inl y => decide (x = y)
  | .inr x, .inr y => decide (x = y)
  | _, _ => false
theorem rm_eqE_ok : ∀ {a b : rm_E}, rm_eqE a b = true → a = b
  | .inl _, .inl _, h => by rw [of_decide_eq_true h]
  | .inr _, .inr _, h => by rw [of_decide_eq_true h]
  | .inl _, .inr _, h => by cases h
  | .inr _, .inl _, h => by cases h
noncomputable def rm_same (o : Option rm_E) (e : rm_E) : Bool := match o with
  | some a => rm_eqE a e
  | none => false
/-- a write that changes nothing leaves the row as it is -/
noncomputable def rm_set (h : List rm_E) (k : Nat) (e : rm_E) : List rm_E := bif rm_same h[k]? e then h else h.set k e
theorem rm_set_eq (h : List rm_E) (k : Nat) (e : rm_E) : rm_set h k e = h.set k e := by
  unfold rm_set
  cases hs : rm_same h[k]? e with
  | false => rfl
  | true =>
    unfold rm_same at hs
    split at hs
    · rename_i a ha
      have h1 := rm_eqE_ok hs
      subst h1
      show h = h.set k a
      apply List.ext_getElem?
      intro j
      by_cases hj : k = j
      · subst hj
        rw [List.getElem?_set_self (List.getElem?_eq_some_iff.mp ha).1, ha]
      · rw [List.getElem?_set_ne hj]
    · cases hs
noncomputable def rm_hat (h : List rm_E) (k : Nat) : Option rm_E := match k with
  | 0 => none
  | k + 1 => h[k]?
noncomputable def rm_ob (h : List rm_E) (k ci : Nat) : Option (List rm_V) := match rm_hat h k with
  | some (.inr o) => am_if (Nat.beq o.1 ci) (some o.2)
  | _ => none
noncomputable def rm_ar (h : List rm_E) (k : Nat) : Option (Nat × Nat × List (Nat × rm_V)) := match rm_hat h k with
  | some (.inl x) => some x
  | _ => none
/-- which numbers an index can be -/
noncomputable def rm_rng (b : rm_B) (k : Nat) : Nat → Nat → List (rm_B × Nat)
  | _, 0 => []
  | lo, n + 1 => (b.set k (lo, lo), rm_lk lo) :: rm_rng b k (lo + 1) n
noncomputable def rm_conc (b : rm_B) (a : rm_V) : Option (List (rm_B × Nat)) := match a.1 with
  | 0 => am_if (Nat.blt a.2.1 2147483648) (some [(b, a.2.1)])
  | 1 => match b[a.2.1]? with
    | some q => am_if (Nat.ble 2147483648 q.1 && Nat.ble q.2 (q.1 + 8)) (some (rm_rng b a.2.1 q.1 (q.2 + 1 - q.1)))
    | none => none
  | _ => none
/-- boxes where the k-th compares so with a number of this key, and where not -/
noncomputable def rm_cmp (b : rm_B) (k q : Nat) (c : ClassFile.Cond) : List rm_B × List rm_B := match c with
  | .lt => (bif Nat.beq q 0 then [] else rm_cut b k 0 (q - 1), rm_cut b k q 4294967295)
  | .ge => (rm_cut b k q 4294967295, bif Nat.beq q 0 then [] else rm_cut b k 0 (q - 1))
  | .gt => (rm_cut b k (q + 1) 4294967295, rm_cut b k 0 q)
  | .le => (rm_cut b k 0 q, rm_cut b k (q + 1) 4294967295)
  | .eq => (rm_cut b k q q, (bif Nat.beq q 0 then [] else rm_cut b k 0 (q - 1)) ++ rm_cut b k (q + 1) 4294967295)
  | .ne => ((bif Nat.beq q 0 then [] else rm_cut b k 0 (q - 1)) ++ rm_cut b k (q + 1) 4294967295, rm_cut b k q q)
noncomputable def rm_sw : ClassFile.Cond → ClassFile.Cond
  | .eq => .eq
  | .ne => .ne
  | .lt => .gt
  | .gt => .lt
  | .ge => .le
  | .le => .ge
noncomputable def rm_ck (c : ClassFile.Cond) (p q : Nat) : Bool := match c with
  | .eq => Nat.beq p q
  | .ne => !(Nat.beq p q)
  | .lt => Nat.blt p q
  | .ge => Nat.ble q p
  | .gt => Nat.blt q p
  | .le => Nat.ble p q
/-- x compared with y: where so, where not -/
noncomputable def rm_br (b : rm_B) (x y : rm_V) (c : ClassFile.Cond) : List rm_B × List rm_B :=
  bif Nat.beq x.1 0 && Nat.beq y.1 0 then (bif rm_ck c (rm_lk x.2.1) (rm_lk y.2.1) then ([b], []) else ([], [b]))
  else bif Nat.beq x.1 1 && Nat.beq y.1 0 then rm_cmp b x.2.1 (rm_lk y.2.1) c
  else bif Nat.beq x.1 0 && Nat.beq y.1 1 then rm_cmp b y.2.1 (rm_lk x.2.1) (rm_sw c)
  else bif Nat.beq x.1 1 && Nat.beq y.1 1 && Nat.beq x.2.1 y.2.1 then (bif rm_ck c 0 0 then ([b], []) else ([], [b]))
  else bif Nat.beq x.1 8 && Nat.beq y.1 0 && Nat.beq y.2.1 0 then rm_cmp b x.2.1 (rm_lk x.2.2) c
  else ([b], [b])
noncomputable def rm_one (b : rm_B) (pc : Nat) (lv : rm_L) (st : List rm_V) (h : List rm_E) : Option (List rm_R5) := some [(b, pc, lv, st, h)]
noncomputable def rm_b2 (f : Int32 → Int32 → Int32) (y x : rm_V) : rm_V := bif Nat.beq x.1 0 && Nat.beq y.1 0 then (0, rm_tn (f (nI x.2.1) (nI y.2.1)), 0) else (2, 0, 0)
noncomputable def rm_0 (a : rm_V) : Bool := Nat.beq a.1 0 && Nat.beq a.2.1 0
noncomputable def rm_bin (b : rm_B) (pc : Nat) (lv : rm_L) (st : List rm_V) (h : List rm_E) (f : rm_V → rm_V → rm_V) : Option (List rm_R5) := match st with
  | y :: x :: r => am_if (rm_isI y && rm_isI x) (rm_one b (pc + 1) lv (f y x :: r) h)
  | _ => none
noncomputable def rm_add (y x : rm_V) : rm_V := bif rm_0 y then x else bif rm_0 x then y else rm_b2 (fun x y => x + y) y x
noncomputable def rm_sub (y x : rm_V) : rm_V := bif rm_0 y then x else rm_b2 (fun x y => x - y) y x
noncomputable def rm_jv (a : rm_V) : Option Int64 := match a.1 with
  | 3 => some (lN a.2.1)
  | 9 => some (nI a.2.1).toInt64
  | _ => none
noncomputable def rm_lc (y x : rm_V) : rm_V := match rm_jv x, rm_jv y with
  | some p, some q => (0, rm_tn (lg_cmp p q), 0)
  | _, _ => bif Nat.beq x.1 7 && Nat.beq y.1 9 then (8, x.2.1, y.2.1)
    else bif Nat.beq x.1 7 && Nat.beq y.1 3 && Nat.blt y.2.1 2147483648 then (8, x.2.1, y.2.1) else (2, 0, 0)
noncomputable def rm_fit (ci k : Nat) (a : rm_V) : Bool := match am_ty ci k with
  | .int => rm_isI a
  | .boolean => Nat.beq a.1 0 && Nat.ble a.2.1 1
  | .long => rm_isJ a
  | .object _ => Nat.beq a.1 5 || Nat.beq a.1 6
  | .array _ => Nat.beq a.1 5 || Nat.beq a.1 6
  | _ => false
noncomputable def rm_dv (ty : FieldType) : rm_V := match ty with
  | .long => (3, 0, 0)
  | .int => (0, 0, 0)
  | .boolean => (0, 0, 0)
  | .object _ => (6, 0, 0)
  | .array _ => (6, 0, 0)
  | _ => (99, 0, 0)
noncomputable def rm_def (ci : Nat) : List rm_V := (List.range (am_N ci)).map (fun k => rm_dv (am_ty ci k))
noncomputable def rm_tgt (pc : Nat) (off : Int) : Nat := ((pc : Int) + off).toNat
noncomputable def rf_iconst (n : Int) (L own : Nat) (ini : Bool) (nL a b pc : Nat) (bx : rm_B) (lv : rm_L) (st : List rm_V) (h : List rm_E) : Option (List rm_R5) := rm_one bx (pc + 1) lv ((0, rm_tn (Int32.ofInt n), 0) :: st) h
noncomputable def rf_bipush (n : Int) (L own : Nat) (ini : Bool) (nL a b pc : Nat) (bx : rm_B) (lv : rm_L) (st : List rm_V) (h : List rm_E) : Option (List rm_R5) := rm_one bx (pc + 2) lv ((0, rm_tn (Int8.ofInt n).toInt32, 0) :: st) h
noncomputable def rf_sipush (n : Int) (L own : Nat) (ini : Bool) (nL a b pc : Nat) (bx : rm_B) (lv : rm_L) (st : List rm_V) (h : List rm_E) : Option (List rm_R5) := rm_one bx (pc + 3) lv ((0, rm_tn (Int16.ofInt n).toInt32, 0) :: st) h
noncomputable def rf_lconst (n : Fin 2) (L own : Nat) (ini : Bool) (nL a b pc : Nat) (bx : rm_B) (lv : rm_L) (st : List rm_V) (h : List rm_E) : Option (List rm_R5) := rm_one bx (pc + 1) lv ((3, n.val, 0) :: st) h
noncomputable def rf_ldc_w  (L own : Nat) (ini : Bool) (nL a b pc : Nat) (bx : rm_B) (lv : rm_L) (st : List rm_V) (h : List rm_E) : Option (List rm_R5) := am_CI[a]?.bind fun q => rm_one bx (pc + 3) lv ((0, rm_tn q.2.2.1, 0) :: st) h
noncomputable def rf_ldc2_w  (L own : Nat) (ini : Bool) (nL a b pc : Nat) (bx : rm_B) (lv : rm_L) (st : List rm_V) (h : List rm_E) : Option (List rm_R5) := am_CL[a]?.bind fun q => rm_one bx (pc + 3) lv ((3, q.2.2.1.toBitVec.toNat, 0) :: st) h
noncomputable def rf_iload_n (n : Fin 4) (L own : Nat) (ini : Bool) (nL a b pc : Nat) (bx : rm_B) (lv : rm_L) (st : List rm_V) (h : List rm_E) : Option (List rm_R5) := (rm_get lv n.val).bind fun x => am_if (rm_isI x) (rm_one bx (pc + 1) lv (rm_norm bx x :: st) h)
noncomputable def rf_iload (n : Nat) (L own : Nat) (ini : Bool) (nL a b pc : Nat) (bx : rm_B) (lv : rm_L) (st : List rm_V) (h : List rm_E) : Option (List rm_R5) := (rm_get lv n).bind fun x => am_if (rm_isI x) (rm_one bx (pc + 2) lv (rm_norm bx x :: st) h)
noncomputable def rf_lload_n (n : Fin 4) (L own : Nat) (ini : Bool) (nL a b pc : Nat) (bx : rm_B) (lv : rm_L) (st : List rm_V) (h : List rm_E) : Option (List rm_R5) := (rm_get lv n.val).bind fun x => am_if (rm_isJ x) (rm_one bx (pc + 1) lv (x :: st) h)
noncomputable def rf_lload (n : Nat) (L own : Nat) (ini : Bool) (nL a b pc : Nat) (bx : rm_B) (lv : rm_L) (st : List rm_V) (h : List rm_E) : Option (List rm_R5) := (rm_get lv n).bind fun x => am_if (rm_isJ x) (rm_one bx (pc + 2) lv (x :: st) h)
noncomputable def rf_aload_n (n : Fin 4) (L own : Nat) (ini : Bool) (nL a b pc : Nat) (bx : rm_B) (lv : rm_L) (st : List rm_V) (h : List rm_E) : Option (List rm_R5) := (rm_get lv n.val).bind fun x => am_if (rm_isR x) (rm_one bx (pc + 1) lv (x :: st) h)
noncomputable def rf_istore_n (n : Fin 4) (L own : Nat) (ini : Bool) (nL a b pc : Nat) (bx : rm_B) (lv : rm_L) (st : List rm_V) (h : List rm_E) : Option (List rm_R5) := match st with
    | x :: r => am_if (rm_isI x && Nat.blt n.val nL) (rm_one bx (pc + 1) (rm_put1 lv n.val x) r h)
    | [] => none
noncomputable def rf_istore (n : Nat) (L own : Nat) (ini : Bool) (nL a b pc : Nat) (bx : rm_B) (lv : rm_L) (st : List rm_V) (h : List rm_E) : Option (List rm_R5) := match st with
    | x :: r => am_if (rm_isI x && Nat.blt n nL) (rm_one bx (pc + 2) (rm_put1 lv n x) r h)
    | [] => none
noncomputable def rf_lstore_n (n : Fin 4) (L own : Nat) (ini : Bool) (nL a b pc : Nat) (bx : rm_B) (lv : rm_L) (st : List rm_V) (h : List rm_E) : Option (List rm_R5) := match st with
    | x :: r => am_if (rm_isJ x && Nat.blt (n.val + 1) nL) (rm_one bx (pc + 1) (rm_put2 lv n.val x) r h)
    | [] => none
noncomputable def rf_astore_n (n : Fin 4) (L own : Nat) (ini : Bool) (nL a b pc : Nat) (bx : rm_B) (lv : rm_L) (st : List rm_V) (h : List rm_E) : Option (List rm_R5) := match st with
    | x :: r => am_if (rm_isR x && Nat.blt n.val nL) (rm_one bx (pc + 1) (rm_put1 lv n.val x) r h)
    | [] => none
noncomputable def rf_iinc (n : Nat) (k : Int) (L own : Nat) (ini : Bool) (nL a b pc : Nat) (bx : rm_B) (lv : rm_L) (st : List rm_V) (h : List rm_E) : Option (List rm_R5) := (rm_get lv n).bind fun x => am_if (Nat.beq x.1 0 && Nat.blt n nL) (rm_one bx (pc + 3) (rm_put1 lv n (0, rm_tn (nI x.2.1 + Int32.ofInt k), 0)) st h)
noncomputable def rf_dup  (L own : Nat) (ini : Bool) (nL a b pc : Nat) (bx : rm_B) (lv : rm_L) (st : List rm_V) (h : List rm_E) : Option (List rm_R5) := match st with
    | x :: r => am_if (!(rm_isJ x)) (rm_one bx (pc + 1) lv (x :: x :: r) h)
    | [] => none
noncomputable def rf_dup2  (L own : Nat) (ini : Bool) (nL a b pc : Nat) (bx : rm_B) (lv : rm_L) (st : List rm_V) (h : List rm_E) : Option (List rm_R5) := match st with
    | x :: y :: r => am_if (!(rm_isJ x) && !(rm_isJ y)) (rm_one bx (pc + 1) lv (x :: y :: x :: y :: r) h)
    | _ => none
noncomputable def rf_iadd  (L own : Nat) (ini : Bool) (nL a b pc : Nat) (bx : rm_B) (lv : rm_L) (st : List rm_V) (h : List rm_E) : Option (List rm_R5) := rm_bin bx pc lv st h rm_add
noncomputable def rf_isub  (L own : Nat) (ini : Bool) (nL a b pc : Nat) (bx : rm_B) (lv : rm_L) (st : List rm_V) (h : List rm_E) : Option (List rm_R5) := rm_bin bx pc lv st h rm_sub
noncomputable def rf_imul  (L own : Nat) (ini : Bool) (nL a b pc : Nat) (bx : rm_B) (lv : rm_L) (st : List rm_V) (h : List rm_E) : Option (List rm_R5) := rm_bin bx pc lv st h (rm_b2 (fun x y => x * y))
noncomputable def rf_iand  (L own : Nat) (ini : Bool) (nL a b pc : Nat) (bx : rm_B) (lv : rm_L) (st : List rm_V) (h : List rm_E) : Option (List rm_R5) := rm_bin bx pc lv st h (rm_b2 (fun x y => x &&& y))
noncomputable def rf_ishr  (L own : Nat) (ini : Bool) (nL a b pc : Nat) (bx : rm_B) (lv : rm_L) (st : List rm_V) (h : List rm_E) : Option (List rm_R5) := rm_bin bx pc lv st h (rm_b2 (fun x y => x >>> (y &&& 31)))
noncomputable def rf_iushr  (L own : Nat) (ini : Bool) (nL a b pc : Nat) (bx : rm_B) (lv : rm_L) (st : List rm_V) (h : List rm_E) : Option (List rm_R5) := rm_bin bx pc lv st h (rm_b2 (fun x y => (x.toUInt32 >>> (y.toUInt32 &&& Int32.toUInt32 31)).toInt32))
noncomputable def rf_land  (L own : Nat) (ini : Bool) (nL a b pc : Nat) (bx : rm_B) (lv : rm_L) (st : List rm_V) (h : List rm_E) : Option (List rm_R5) := match st with
    | y :: x :: r => am_if (rm_isJ y && rm_isJ x) (rm_one bx (pc + 1) lv ((4, 0, 0) :: r) h)
    | _ => none
noncomputable def rf_lor  (L own : Nat) (ini : Bool) (nL a b pc : Nat) (bx : rm_B) (lv : rm_L) (st : List rm_V) (h : List rm_E) : Option (List rm_R5) := match st with
    | y :: x :: r => am_if (rm_isJ y && rm_isJ x) (rm_one bx (pc + 1) lv ((4, 0, 0) :: r) h)
    | _ => none
noncomputable def rf_lshl  (L own : Nat) (ini : Bool) (nL a b pc : Nat) (bx : rm_B) (lv : rm_L) (st : List rm_V) (h : List rm_E) : Option (List rm_R5) := match st with
    | y :: x :: r => am_if (rm_isI y && rm_isJ x) (rm_one bx (pc + 1) lv ((4, 0, 0) :: r) h)
    | _ => none
noncomputable def rf_lcmp  (L own : Nat) (ini : Bool) (nL a b pc : Nat) (bx : rm_B) (lv : rm_L) (st : List rm_V) (h : List rm_E) : Option (List rm_R5) := match st with
    | y :: x :: r => am_if (rm_isJ y && rm_isJ x) (rm_one bx (pc + 1) lv (rm_lc y x :: r) h)
    | _ => none
noncomputable def rf_i2l  (L own : Nat) (ini : Bool) (nL a b pc : Nat) (bx : rm_B) (lv : rm_L) (st : List rm_V) (h : List rm_E) : Option (List rm_R5) := match st with
    | x :: r => am_if (rm_isI x) (rm_one bx (pc + 1) lv ((bif Nat.beq x.1 0 then (9, x.2.1, 0) else bif Nat.beq x.1 1 then (7, x.2.1, 0) else (4, 0, 0)) :: r) h)
    | [] => none
noncomputable def rf_i2b  (L own : Nat) (ini : Bool) (nL a b pc : Nat) (bx : rm_B) (lv : rm_L) (st : List rm_V) (h : List rm_E) : Option (List rm_R5) := match st with
    | x :: r => am_if (rm_isI x) (rm_one bx (pc + 1) lv ((2, 0, 0) :: r) h)
    | [] => none
noncomputable def rf_goto  (L own : Nat) (ini : Bool) (nL a b pc : Nat) (bx : rm_B) (lv : rm_L) (st : List rm_V) (h : List rm_E) : Option (List rm_R5) := rm_one bx a lv st h
noncomputable def rf_ifCond (c : ClassFile.Cond) (L own : Nat) (ini : Bool) (nL a b pc : Nat) (bx : rm_B) (lv : rm_L) (st : List rm_V) (h : List rm_E) : Option (List rm_R5) := match st with
    | x :: r => am_if (rm_isI x) (let q := rm_br bx (rm_norm bx x) (0, 0, 0) c
      some (q.1.map (fun z => (z, a, lv, r, h)) ++ q.2.map (fun z => (z, pc + 3, lv, r, h))))
    | [] => none
noncomputable def rf_if_icmp (c : ClassFile.Cond) (L own : Nat) (ini : Bool) (nL a b pc : Nat) (bx : rm_B) (lv : rm_L) (st : List rm_V) (h : List rm_E) : Option (List rm_R5) := match st with
    | y :: x :: r => am_if (rm_isI y && rm_isI x) (let q := rm_br bx (rm_norm bx x) (rm_norm bx y) c
      some (q.1.map (fun z => (z, a, lv, r, h)) ++ q.2.map (fun z => (z, pc + 3, lv, r, h))))
    | _ => none
noncomputable def rf_tableswitch (d lo hi : Int) (offs : Array Int) (L own : Nat) (ini : Bool) (nL a b pc : Nat) (bx : rm_B) (lv : rm_L) (st : List rm_V) (h : List rm_E) : Option (List rm_R5) := match st with
    | x :: r => am_if (rm_isI x && decide (lo = 0) && decide (0 ≤ (pc : Int) + d) && Nat.beq offs.size (hi + 1).toNat && decide (0 ≤ hi) && decide (hi < 1000) && offs.toList.all (fun o => decide (0 ≤ (pc : Int) + o)))
        (bif Nat.beq (rm_norm bx x).1 1 then some (((rm_cut bx x.2.1 0 2147483647).map (fun z => (z, rm_tgt pc d, lv, r, h))) ++ ((rm_cut bx x.2.1 (2147483648 + (hi + 1).toNat) 4294967295).map (fun z => (z, rm_tgt pc d, lv, r, h))) ++ (List.range (hi + 1).toNat).flatMap (fun j => (rm_cut bx x.2.1 (2147483648 + j) (2147483648 + j)).map (fun z => (z, rm_tgt pc (offs.toList.getD j 0), lv, r, h))))
        else some ((bx, rm_tgt pc d, lv, r, h) :: offs.toList.map (fun o => (bx, rm_tgt pc o, lv, r, h))))
    | [] => none
noncomputable def rf_getfield  (L own : Nat) (ini : Bool) (nL a b pc : Nat) (bx : rm_B) (lv : rm_L) (st : List rm_V) (h : List rm_E) : Option (List rm_R5) := match st with
    | x :: r => am_if (rm_isR x) ((rm_ob h x.2.1 a).bind fun fs => fs[b]?.bind fun v => rm_one bx (pc + 3) lv (v :: r) h)
    | [] => none
noncomputable def rf_putfield  (L own : Nat) (ini : Bool) (nL a b pc : Nat) (bx : rm_B) (lv : rm_L) (st : List rm_V) (h : List rm_E) : Option (List rm_R5) := match st with
    | v :: x :: r => am_if (rm_isR x) ((rm_ob h x.2.1 a).bind fun fs => am_if (Nat.blt b fs.length && rm_fit a b v && (!(am_fin a b) || (ini && Nat.beq own a))) (rm_one bx (pc + 3) lv r (rm_set h (x.2.1 - 1) (.inr (a, fs.set b v)))))
    | _ => none
noncomputable def rf_iaload  (L own : Nat) (ini : Bool) (nL a b pc : Nat) (bx : rm_B) (lv : rm_L) (st : List rm_V) (h : List rm_E) : Option (List rm_R5) := match st with
    | i :: x :: r => am_if (rm_isR x && rm_isI i) ((rm_conc bx (rm_norm bx i)).bind fun l => bif Nat.beq x.2.1 0 then none
        else (rm_ar h x.2.1).bind fun c => am_if (Nat.beq c.1 0 && l.all (fun z => Nat.blt z.2 c.2.1)) (some (l.map (fun z => (z.1, pc + 1, lv, rm_norm z.1 (rm_ov c.1 c.2.2 z.2) :: r, h)))))
    | _ => none
noncomputable def rf_laload  (L own : Nat) (ini : Bool) (nL a b pc : Nat) (bx : rm_B) (lv : rm_L) (st : List rm_V) (h : List rm_E) : Option (List rm_R5) := match st with
    | i :: x :: r => am_if (rm_isR x && rm_isI i) ((rm_conc bx (rm_norm bx i)).bind fun l => (rm_ar h x.2.1).bind fun c => am_if (Nat.beq c.1 2 && l.all (fun z => Nat.blt z.2 c.2.1)) (some (l.map (fun z => (z.1, pc + 1, lv, rm_ov c.1 c.2.2 z.2 :: r, h)))))
    | _ => none
noncomputable def rf_aaload  (L own : Nat) (ini : Bool) (nL a b pc : Nat) (bx : rm_B) (lv : rm_L) (st : List rm_V) (h : List rm_E) : Option (List rm_R5) := match st with
    | i :: x :: r => am_if (rm_isR x && rm_isI i) ((rm_conc bx (rm_norm bx i)).bind fun l => (rm_ar h x.2.1).bind fun c => am_if (Nat.ble 3 c.1 && Nat.blt c.1 9 && l.all (fun z => Nat.blt z.2 c.2.1)) (some (l.map (fun z => (z.1, pc + 1, lv, rm_ov c.1 c.2.2 z.2 :: r, h)))))
    | _ => none
noncomputable def rf_iastore  (L own : Nat) (ini : Bool) (nL a b pc : Nat) (bx : rm_B) (lv : rm_L) (st : List rm_V) (h : List rm_E) : Option (List rm_R5) := match st with
    | v :: i :: x :: r => am_if (rm_isR x && rm_isI i && rm_isI v) ((rm_conc bx (rm_norm bx i)).bind fun l => (rm_ar h x.2.1).bind fun c => am_if (Nat.beq c.1 0 && l.all (fun z => Nat.blt z.2 c.2.1)) (some (l.map (fun z => (z.1, pc + 1, lv, r, rm_set h (x.2.1 - 1) (.inl (c.1, c.2.1, rm_ovs c.1 c.2.2 z.2 v)))))))
    | _ => none
noncomputable def rf_bastore  (L own : Nat) (ini : Bool) (nL a b pc : Nat) (bx : rm_B) (lv : rm_L) (st : List rm_V) (h : List rm_E) : Option (List rm_R5) := match st with
    | v :: i :: x :: r => am_if (rm_isR x && rm_isI i && rm_isI v) ((rm_conc bx (rm_norm bx i)).bind fun l => (rm_ar h x.2.1).bind fun c => am_if (Nat.beq c.1 1 && l.all (fun z => Nat.blt z.2 c.2.1)) (some (l.map (fun z => (z.1, pc + 1, lv, r, rm_set h (x.2.1 - 1) (.inl (c.1, c.2.1, rm_ovs c.1 c.2.2 z.2 (2, 0, 0))))))))
    | _ => none
noncomputable def rf_lastore  (L own : Nat) (ini : Bool) (nL a b pc : Nat) (bx : rm_B) (lv : rm_L) (st : List rm_V) (h : List rm_E) : Option (List rm_R5) := match st with
    | v :: i :: x :: r => am_if (rm_isR x && rm_isI i && rm_isJ v) ((rm_conc bx (rm_norm bx i)).bind fun l => (rm_ar h x.2.1).bind fun c => am_if (Nat.beq c.1 2 && l.all (fun z => Nat.blt z.2 c.2.1)) (some (l.map (fun z => (z.1, pc + 1, lv, r, rm_set h (x.2.1 - 1) (.inl (c.1, c.2.1, rm_ovs c.1 c.2.2 z.2 v)))))))
    | _ => none
noncomputable def rf_aastore  (L own : Nat) (ini : Bool) (nL a b pc : Nat) (bx : rm_B) (lv : rm_L) (st : List rm_V) (h : List rm_E) : Option (List rm_R5) := match st with
    | v :: i :: x :: r => am_if (rm_isR x && rm_isI i && rm_isR v) ((rm_conc bx (rm_norm bx i)).bind fun l => (rm_ar h x.2.1).bind fun c => (rm_ob h v.2.1 (am_tq c.1)).bind fun _ => am_if (Nat.ble 3 c.1 && Nat.blt c.1 9 && l.all (fun z => Nat.blt z.2 c.2.1)) (some (l.map (fun z => (z.1, pc + 1, lv, r, rm_set h (x.2.1 - 1) (.inl (c.1, c.2.1, rm_ovs c.1 c.2.2 z.2 v)))))))
    | _ => none
noncomputable def rf_arraylength  (L own : Nat) (ini : Bool) (nL a b pc : Nat) (bx : rm_B) (lv : rm_L) (st : List rm_V) (h : List rm_E) : Option (List rm_R5) := none
noncomputable def rf_new  (L own : Nat) (ini : Bool) (nL a b pc : Nat) (bx : rm_B) (lv : rm_L) (st : List rm_V) (h : List rm_E) : Option (List rm_R5) := am_if (Nat.blt a 13) (rm_one bx (pc + 3) lv ((5, h.length + 1, 0) :: st) (h ++ [.inr (a, rm_def a)]))
noncomputable def rf_newarray  (L own : Nat) (ini : Bool) (nL a b pc : Nat) (bx : rm_B) (lv : rm_L) (st : List rm_V) (h : List rm_E) : Option (List rm_R5) := match st with
    | n :: r => am_if (Nat.beq n.1 0 && Nat.ble n.2.1 65536 && Nat.ble a 2) (rm_one bx (pc + 2) lv ((5, h.length + 1, 0) :: r) (h ++ [.inl (a, n.2.1, [])]))
    | [] => none
noncomputable def rf_anewarray  (L own : Nat) (ini : Bool) (nL a b pc : Nat) (bx : rm_B) (lv : rm_L) (st : List rm_V) (h : List rm_E) : Option (List rm_R5) := match st with
    | n :: r => am_if (Nat.beq n.1 0 && Nat.ble n.2.1 65536 && Nat.ble 3 a && Nat.blt a 9) (rm_one bx (pc + 3) lv ((5, h.length + 1, 0) :: r) (h ++ [.inl (a, n.2.1, [])]))
    | [] => none
noncomputable def rm_disp (i : Instr) : Nat → Nat → Bool → Nat → Nat → Nat → Nat → rm_B → rm_L → List rm_V → List rm_E → Option (List rm_R5) := match i with
  | .iconst n => rf_iconst n
  | .bipush n => rf_bipush n
  | .sipush n => rf_sipush n
  | .lconst n => rf_lconst n
  | .ldc_w _ => rf_ldc_w
  | .ldc2_w _ => rf_ldc2_w
  | .iload_n n => rf_iload_n n
  | .iload n => rf_iload n
  | .lload_n n => rf_lload_n n
  | .lload n => rf_lload n
  | .aload_n n => rf_aload_n n
  | .istore_n n => rf_istore_n n
  | .istore n => rf_istore n
  | .lstore_n n => rf_lstore_n n
  | .astore_n n => rf_astore_n n
  | .iinc n k => rf_iinc n k
  | .dup => rf_dup
  | .dup2 => rf_dup2
  | .iadd => rf_iadd
  | .isub => rf_isub
  | .imul => rf_imul
  | .iand => rf_iand
  | .ishr => rf_ishr
  | .iushr => rf_iushr
  | .land => rf_land
  | .lor => rf_lor
  | .lshl => rf_lshl
  | .lcmp => rf_lcmp
  | .i2l => rf_i2l
  | .i2b => rf_i2b
  | .goto _ => rf_goto
  | .ifCond c _ => rf_ifCond c
  | .if_icmp c _ => rf_if_icmp c
  | .tableswitch d lo hi offs => rf_tableswitch d lo hi offs
  | .getfield _ => rf_getfield
  | .putfield _ => rf_putfield
  | .iaload => rf_iaload
  | .laload => rf_laload
  | .aaload => rf_aaload
  | .iastore => rf_iastore
  | .bastore => rf_bastore
  | .lastore => rf_lastore
  | .aastore => rf_aastore
  | .arraylength => rf_arraylength
  | .new _ => rf_new
  | .newarray _ => rf_newarray
  | .anewarray _ => rf_anewarray
  | _ => fun _ _ _ _ _ _ _ _ _ _ _ => none
noncomputable def rm_simple (L own : Nat) (ini : Bool) (nL : Nat) (i : Instr) (a b pc : Nat) (bx : rm_B) (lv : rm_L) (st : List rm_V) (h : List rm_E) : Option (List rm_R5) := rm_disp i L own ini nL a b pc bx lv st h
