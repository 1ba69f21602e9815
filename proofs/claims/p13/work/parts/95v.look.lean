/-! The same walk of both threads; what an instruction is stands fixed by its place, and is looked up but once -/
/-- the cells that it looks at -/
noncomputable def af_lk (i : Instr) (a b : Nat) : Option (ae_K → List ae_V → Option (Nat × ae_X)) := match i with
  | .getfield _ => some fun _ st => ab_gfl a b st
  | .iaload => some ab_ra
  | .baload => some ab_ra
  | .laload => some ab_ra
  | _ => none
noncomputable def af_pf (b : Nat) (st : List ae_V) : ae_Mo := match st with
  | _ :: p :: _ => [(p.2.1, (b : Int), (b : Int))]
  | _ => []
/-- what it writes -/
noncomputable def af_wr (i : Instr) (b : Nat) : Option (ae_K → List ae_V → ae_Mo) := match i with
  | .putfield _ => some fun _ st => af_pf b st
  | .iastore => some ab_wa
  | .bastore => some ab_wa
  | .lastore => some ab_wa
  | _ => none
noncomputable def af_cw (P : ap_P) (y pc : Nat) (i : Instr) (a b : Nat) (k : ae_K) (st : List ae_V) : ae_Mo :=
  bif Nat.beq a 1004 then (match st with
    | _ :: _ :: t :: _ => [(t.2.1, 0, ((ae_sh t.2.1).2.2 : Int) - 1)]
    | _ => [])
  else bif Nat.ble 1000 a then [] else match P.cts.find? fun c => Nat.beq c.1 a && ae_fas k c.2.1 (st.take (am_pop i b)).reverse with
    | some c => c.2.2.2.1
    | none => bif P.sps.any fun s => Nat.beq s.1 y && Nat.beq s.2.1 pc then (P.cts.filter fun c => Nat.beq c.1 a).flatMap fun c => c.2.2.2.1 else []
