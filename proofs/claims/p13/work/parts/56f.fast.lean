/-! Instructions as what they do: looked up but once -/
/-- loads, constants and the like: what becomes of locals and stack -/
abbrev af_An : Type := ae_K → ae_L → List ae_V → Option (ae_L × List ae_V)
noncomputable def af_pu (v : ae_V) : af_An := fun _ lv st => some (lv, v :: st)
noncomputable def af_lo (t i : Nat) : af_An := fun k lv st => match ae_lg lv i with
  | some v => bif Nat.beq v.1 t then some (lv, (v.1, v.2.1, ae_nr k v.2.2) :: st) else none
  | none => none
noncomputable def af_so (t i : Nat) : af_An := fun _ lv st => match st with
  | v :: r => bif Nat.beq v.1 t then some ((bif Nat.beq t 1 then ae_p2 lv i v else ae_p1 lv i v), r) else none
  | [] => none
noncomputable def af_du : af_An := fun _ lv st => match st with
  | v :: r => bif Nat.beq v.1 1 then none else some (lv, v :: v :: r)
  | [] => none
noncomputable def af_po : af_An := fun _ lv st => match st with
  | v :: r => bif Nat.beq v.1 1 then none else some (lv, r)
  | [] => none
noncomputable def af_id : af_An := fun _ lv st => some (lv, st)
noncomputable def af_ou (p : Nat) (k : ae_K) (M : List ae_M) (o : Option (ae_L × List ae_V)) : Option (List ae_R) := match o with
  | some (lv, st) => some [(p, k, M, lv, st)]
  | none => none
noncomputable def af_a (nL : Nat) (i : Instr) (a pc : Nat) : Option (Nat × af_An) := match i with
  | .iconst n => some (pc + 1, af_pu (0, 0, ae_num (Int32.ofInt n).toInt))
  | .bipush n => some (pc + 2, af_pu (0, 0, ae_num (Int8.ofInt n).toInt32.toInt))
  | .sipush n => some (pc + 3, af_pu (0, 0, ae_num (Int16.ofInt n).toInt32.toInt))
  | .iload_n n => some (pc + 1, af_lo 0 n.val)
  | .iload n => some (pc + 2, af_lo 0 n)
  | .lload_n n => some (pc + 1, af_lo 1 n.val)
  | .lload n => some (pc + 2, af_lo 1 n)
  | .aload_n n => some (pc + 1, af_lo 2 n.val)
  | .aload n => some (pc + 2, af_lo 2 n)
  | .istore_n n => bif Nat.blt n.val nL then some (pc + 1, af_so 0 n.val) else none
  | .istore n => bif Nat.blt n nL then some (pc + 2, af_so 0 n) else none
  | .astore_n n => bif Nat.blt n.val nL then some (pc + 1, af_so 2 n.val) else none
  | .astore n => bif Nat.blt n nL then some (pc + 2, af_so 2 n) else none
  | .dup => some (pc + 1, af_du)
  | .pop => some (pc + 1, af_po)
  | .goto _ => some (a, af_id)
  | _ => none
/-- a plain instruction as what it does -/
abbrev af_Fn : Type := ae_Mo → ae_K → List ae_M → ae_L → List ae_V → Option (List ae_R)
/-- a place as a number that is written out -/
theorem af_lf {α : Type} {p n : Nat} {κ : Nat → α} : (bif Nat.beq p n then κ n else κ p) = κ p := by
  cases h : Nat.beq p n with
  | true => rw [Nat.eq_of_beq_eq_true h]; rfl
  | false => rfl
theorem af_nd {α : Type} {c : Bool} {x y z : α} (h1 : x = z) (h2 : y = z) : (bif c then x else y) = z := by
  cases c with
  | true => exact h1
  | false => exact h2
noncomputable def af_pl0_7 {α : Type} (p : Nat) (κ : Nat → α) : α := (bif Nat.blt p 3 then (bif Nat.blt p 1 then (bif Nat.beq p 0 then κ 0 else κ p) else (bif Nat.blt p 2 then (bif Nat.beq p 1 then κ 1 else κ p) else (bif Nat.beq p 2 then κ 2 else κ p))) else (bif Nat.blt p 5 then (bif Nat.blt p 4 then (bif Nat.beq p 3 then κ 3 else κ p) else (bif Nat.beq p 4 then κ 4 else κ p)) else (bif Nat.blt p 6 then (bif Nat.beq p 5 then κ 5 else κ p) else (bif Nat.beq p 6 then κ 6 else κ p))))
theorem af_pl0_7_ok {α : Type} {p : Nat} {κ : Nat → α} : af_pl0_7 p κ = κ p := (af_nd (af_nd af_lf (af_nd af_lf af_lf)) (af_nd (af_nd af_lf af_lf) (af_nd af_lf af_lf)))
noncomputable def af_pl7_14 {α : Type} (p : Nat) (κ : Nat → α) : α := (bif Nat.blt p 10 then (bif Nat.blt p 8 then (bif Nat.beq p 7 then κ 7 else κ p) else (bif Nat.blt p 9 then (bif Nat.beq p 8 then κ 8 else κ p) else (bif Nat.beq p 9 then κ 9 else κ p))) else (bif Nat.blt p 12 then (bif Nat.blt p 11 then (bif Nat.beq p 10 then κ 10 else κ p) else (bif Nat.beq p 11 then κ 11 else κ p)) else (bif Nat.blt p 13 then (bif Nat.beq p 12 then κ 12 else κ p) else (bif Nat.beq p 13 then κ 13 else κ p))))
theorem af_pl7_14_ok {α : Type} {p : Nat} {κ : Nat → α} : af_pl7_14 p κ = κ p := (af_nd (af_nd af_lf (af_nd af_lf af_lf)) (af_nd (af_nd af_lf af_lf) (af_nd af_lf af_lf)))
noncomputable def af_pl0_14 {α : Type} (p : Nat) (κ : Nat → α) : α := (bif Nat.blt p 7 then (af_pl0_7 p κ) else (af_pl7_14 p κ))
theorem af_pl0_14_ok {α : Type} {p : Nat} {κ : Nat → α} : af_pl0_14 p κ = κ p := (af_nd af_pl0_7_ok af_pl7_14_ok)
noncomputable def af_pl14_21 {α : Type} (p : Nat) (κ : Nat → α) : α := (bif Nat.blt p 17 then (bif Nat.blt p 15 then (bif Nat.beq p 14 then κ 14 else κ p) else (bif Nat.blt p 16 then (bif Nat.beq p 15 then κ 15 else κ p) else (bif Nat.beq p 16 then κ 16 else κ p))) else (bif Nat.blt p 19 then (bif Nat.blt p 18 then (bif Nat.beq p 17 then κ 17 else κ p) else (bif Nat.beq p 18 then κ 18 else κ p)) else (bif Nat.blt p 20 then (bif Nat.beq p 19 then κ 19 else κ p) else (bif Nat.beq p 20 then κ 20 else κ p))))
theorem af_pl14_21_ok {α : Type} {p : Nat} {κ : Nat → α} : af_pl14_21 p κ = κ p := (af_nd (af_nd af_lf (af_nd af_lf af_lf)) (af_nd (af_nd af_lf af_lf) (af_nd af_lf af_lf)))
noncomputable def af_pl21_29 {α : Type} (p : Nat) (κ : Nat → α) : α := (bif Nat.blt p 25 then (bif Nat.blt p 23 then (bif Nat.blt p 22 then (bif Nat.beq p 21 then κ 21 else κ p) else (bif Nat.beq p 22 then κ 22 else κ p)) else (bif Nat.blt p 24 then (bif Nat.beq p 23 then κ 23 else κ p) else (bif Nat.beq p 24 then κ 24 else κ p))) else (bif Nat.blt p 27 then (bif Nat.blt p 26 then (bif Nat.beq p 25 then κ 25 else κ p) else (bif Nat.beq p 26 then κ 26 else κ p)) else (bif Nat.blt p 28 then (bif Nat.beq p 27 then κ 27 else κ p) else (bif Nat.beq p 28 then κ 28 else κ p))))
theorem af_pl21_29_ok {α : Type} {p : Nat} {κ : Nat → α} : af_pl21_29 p κ = κ p := (af_nd (af_nd (af_nd af_lf af_lf) (af_nd af_lf af_lf)) (af_nd (af_nd af_lf af_lf) (af_nd af_lf af_lf)))
noncomputable def af_pl14_29 {α : Type} (p : Nat) (κ : Nat → α) : α := (bif Nat.blt p 21 then (af_pl14_21 p κ) else (af_pl21_29 p κ))
theorem af_pl14_29_ok {α : Type} {p : Nat} {κ : Nat → α} : af_pl14_29 p κ = κ p := (af_nd af_pl14_21_ok af_pl21_29_ok)
noncomputable def af_pl0_29 {α : Type} (p : Nat) (κ : Nat → α) : α := (bif Nat.blt p 14 then (af_pl0_14 p κ) else (af_pl14_29 p κ))
theorem af_pl0_29_ok {α : Type} {p : Nat} {κ : Nat → α} : af_pl0_29 p κ = κ p := (af_nd af_pl0_14_ok af_pl14_29_ok)
noncomputable def af_pl29_36 {α : Type} (p : Nat) (κ : Nat → α) : α := (bif Nat.blt p 32 then (bif Nat.blt p 30 then (bif Nat.beq p 29 then κ 29 else κ p) else (bif Nat.blt p 31 then (bif Nat.beq p 30 then κ 30 else κ p) else (bif Nat.beq p 31 then κ 31 else κ p))) else (bif Nat.blt p 34 then (bif Nat.blt p 33 then (bif Nat.beq p 32 then κ 32 else κ p) else (bif Nat.beq p 33 then κ 33 else κ p)) else (bif Nat.blt p 35 then (bif Nat.beq p 34 then κ 34 else κ p) else (bif Nat.beq p 35 then κ 35 else κ p))))
theorem af_pl29_36_ok {α : Type} {p : Nat} {κ : Nat → α} : af_pl29_36 p κ = κ p := (af_nd (af_nd af_lf (af_nd af_lf af_lf)) (af_nd (af_nd af_lf af_lf) (af_nd af_lf af_lf)))
noncomputable def af_pl36_44 {α : Type} (p : Nat) (κ : Nat → α) : α := (bif Nat.blt p 40 then (bif Nat.blt p 38 then (bif Nat.blt p 37 then (bif Nat.beq p 36 then κ 36 else κ p) else (bif Nat.beq p 37 then κ 37 else κ p)) else (bif Nat.blt p 39 then (bif Nat.beq p 38 then κ 38 else κ p) else (bif Nat.beq p 39 then κ 39 else κ p))) else (bif Nat.blt p 42 then (bif Nat.blt p 41 then (bif Nat.beq p 40 then κ 40 else κ p) else (bif Nat.beq p 41 then κ 41 else κ p)) else (bif Nat.blt p 43 then (bif Nat.beq p 42 then κ 42 else κ p) else (bif Nat.beq p 43 then κ 43 else κ p))))
theorem af_pl36_44_ok {α : Type} {p : Nat} {κ : Nat → α} : af_pl36_44 p κ = κ p := (af_nd (af_nd (af_nd af_lf af_lf) (af_nd af_lf af_lf)) (af_nd (af_nd af_lf af_lf) (af_nd af_lf af_lf)))
noncomputable def af_pl29_44 {α : Type} (p : Nat) (κ : Nat → α) : α := (bif Nat.blt p 36 then (af_pl29_36 p κ) else (af_pl36_44 p κ))
theorem af_pl29_44_ok {α : Type} {p : Nat} {κ : Nat → α} : af_pl29_44 p κ = κ p := (af_nd af_pl29_36_ok af_pl36_44_ok)
noncomputable def af_pl44_51 {α : Type} (p : Nat) (κ : Nat → α) : α := (bif Nat.blt p 47 then (bif Nat.blt p 45 then (bif Nat.beq p 44 then κ 44 else κ p) else (bif Nat.blt p 46 then (bif Nat.beq p 45 then κ 45 else κ p) else (bif Nat.beq p 46 then κ 46 else κ p))) else (bif Nat.blt p 49 then (bif Nat.blt p 48 then (bif Nat.beq p 47 then κ 47 else κ p) else (bif Nat.beq p 48 then κ 48 else κ p)) else (bif Nat.blt p 50 then (bif Nat.beq p 49 then κ 49 else κ p) else (bif Nat.beq p 50 then κ 50 else κ p))))
theorem af_pl44_51_ok {α : Type} {p : Nat} {κ : Nat → α} : af_pl44_51 p κ = κ p := (af_nd (af_nd af_lf (af_nd af_lf af_lf)) (af_nd (af_nd af_lf af_lf) (af_nd af_lf af_lf)))
noncomputable def af_pl51_59 {α : Type} (p : Nat) (κ : Nat → α) : α := (bif Nat.blt p 55 then (bif Nat.blt p 53 then (bif Nat.blt p 52 then (bif Nat.beq p 51 then κ 51 else κ p) else (bif Nat.beq p 52 then κ 52 else κ p)) else (bif Nat.blt p 54 then (bif Nat.beq p 53 then κ 53 else κ p) else (bif Nat.beq p 54 then κ 54 else κ p))) else (bif Nat.blt p 57 then (bif Nat.blt p 56 then (bif Nat.beq p 55 then κ 55 else κ p) else (bif Nat.beq p 56 then κ 56 else κ p)) else (bif Nat.blt p 58 then (bif Nat.beq p 57 then κ 57 else κ p) else (bif Nat.beq p 58 then κ 58 else κ p))))
theorem af_pl51_59_ok {α : Type} {p : Nat} {κ : Nat → α} : af_pl51_59 p κ = κ p := (af_nd (af_nd (af_nd af_lf af_lf) (af_nd af_lf af_lf)) (af_nd (af_nd af_lf af_lf) (af_nd af_lf af_lf)))
noncomputable def af_pl44_59 {α : Type} (p : Nat) (κ : Nat → α) : α := (bif Nat.blt p 51 then (af_pl44_51 p κ) else (af_pl51_59 p κ))
theorem af_pl44_59_ok {α : Type} {p : Nat} {κ : Nat → α} : af_pl44_59 p κ = κ p := (af_nd af_pl44_51_ok af_pl51_59_ok)
noncomputable def af_pl29_59 {α : Type} (p : Nat) (κ : Nat → α) : α := (bif Nat.blt p 44 then (af_pl29_44 p κ) else (af_pl44_59 p κ))
theorem af_pl29_59_ok {α : Type} {p : Nat} {κ : Nat → α} : af_pl29_59 p κ = κ p := (af_nd af_pl29_44_ok af_pl44_59_ok)
noncomputable def af_pl0_59 {α : Type} (p : Nat) (κ : Nat → α) : α := (bif Nat.blt p 29 then (af_pl0_29 p κ) else (af_pl29_59 p κ))
theorem af_pl0_59_ok {α : Type} {p : Nat} {κ : Nat → α} : af_pl0_59 p κ = κ p := (af_nd af_pl0_29_ok af_pl29_59_ok)
noncomputable def af_pl59_66 {α : Type} (p : Nat) (κ : Nat → α) : α := (bif Nat.blt p 62 then (bif Nat.blt p 60 then (bif Nat.beq p 59 then κ 59 else κ p) else (bif Nat.blt p 61 then (bif Nat.beq p 60 then κ 60 else κ p) else (bif Nat.beq p 61 then κ 61 else κ p))) else (bif Nat.blt p 64 then (bif Nat.blt p 63 then (bif Nat.beq p 62 then κ 62 else κ p) else (bif Nat.beq p 63 then κ 63 else κ p)) else (bif Nat.blt p 65 then (bif Nat.beq p 64 then κ 64 else κ p) else (bif Nat.beq p 65 then κ 65 else κ p))))
theorem af_pl59_66_ok {α : Type} {p : Nat} {κ : Nat → α} : af_pl59_66 p κ = κ p := (af_nd (af_nd af_lf (af_nd af_lf af_lf)) (af_nd (af_nd af_lf af_lf) (af_nd af_lf af_lf)))
noncomputable def af_pl66_73 {α : Type} (p : Nat) (κ : Nat → α) : α := (bif Nat.blt p 69 then (bif Nat.blt p 67 then (bif Nat.beq p 66 then κ 66 else κ p) else (bif Nat.blt p 68 then (bif Nat.beq p 67 then κ 67 else κ p) else (bif Nat.beq p 68 then κ 68 else κ p))) else (bif Nat.blt p 71 then (bif Nat.blt p 70 then (bif Nat.beq p 69 then κ 69 else κ p) else (bif Nat.beq p 70 then κ 70 else κ p)) else (bif Nat.blt p 72 then (bif Nat.beq p 71 then κ 71 else κ p) else (bif Nat.beq p 72 then κ 72 else κ p))))
theorem af_pl66_73_ok {α : Type} {p : Nat} {κ : Nat → α} : af_pl66_73 p κ = κ p := (af_nd (af_nd af_lf (af_nd af_lf af_lf)) (af_nd (af_nd af_lf af_lf) (af_nd af_lf af_lf)))
noncomputable def af_pl59_73 {α : Type} (p : Nat) (κ : Nat → α) : α := (bif Nat.blt p 66 then (af_pl59_66 p κ) else (af_pl66_73 p κ))
theorem af_pl59_73_ok {α : Type} {p : Nat} {κ : Nat → α} : af_pl59_73 p κ = κ p := (af_nd af_pl59_66_ok af_pl66_73_ok)
noncomputable def af_pl73_80 {α : Type} (p : Nat) (κ : Nat → α) : α := (bif Nat.blt p 76 then (bif Nat.blt p 74 then (bif Nat.beq p 73 then κ 73 else κ p) else (bif Nat.blt p 75 then (bif Nat.beq p 74 then κ 74 else κ p) else (bif Nat.beq p 75 then κ 75 else κ p))) else (bif Nat.blt p 78 then (bif Nat.blt p 77 then (bif Nat.beq p 76 then κ 76 else κ p) else (bif Nat.beq p 77 then κ 77 else κ p)) else (bif Nat.blt p 79 then (bif Nat.beq p 78 then κ 78 else κ p) else (bif Nat.beq p 79 then κ 79 else κ p))))
theorem af_pl73_80_ok {α : Type} {p : Nat} {κ : Nat → α} : af_pl73_80 p κ = κ p := (af_nd (af_nd af_lf (af_nd af_lf af_lf)) (af_nd (af_nd af_lf af_lf) (af_nd af_lf af_lf)))
noncomputable def af_pl80_88 {α : Type} (p : Nat) (κ : Nat → α) : α := (bif Nat.blt p 84 then (bif Nat.blt p 82 then (bif Nat.blt p 81 then (bif Nat.beq p 80 then κ 80 else κ p) else (bif Nat.beq p 81 then κ 81 else κ p)) else (bif Nat.blt p 83 then (bif Nat.beq p 82 then κ 82 else κ p) else (bif Nat.beq p 83 then κ 83 else κ p))) else (bif Nat.blt p 86 then (bif Nat.blt p 85 then (bif Nat.beq p 84 then κ 84 else κ p) else (bif Nat.beq p 85 then κ 85 else κ p)) else (bif Nat.blt p 87 then (bif Nat.beq p 86 then κ 86 else κ p) else (bif Nat.beq p 87 then κ 87 else κ p))))
theorem af_pl80_88_ok {α : Type} {p : Nat} {κ : Nat → α} : af_pl80_88 p κ = κ p := (af_nd (af_nd (af_nd af_lf af_lf) (af_nd af_lf af_lf)) (af_nd (af_nd af_lf af_lf) (af_nd af_lf af_lf)))
noncomputable def af_pl73_88 {α : Type} (p : Nat) (κ : Nat → α) : α := (bif Nat.blt p 80 then (af_pl73_80 p κ) else (af_pl80_88 p κ))
theorem af_pl73_88_ok {α : Type} {p : Nat} {κ : Nat → α} : af_pl73_88 p κ = κ p := (af_nd af_pl73_80_ok af_pl80_88_ok)
noncomputable def af_pl59_88 {α : Type} (p : Nat) (κ : Nat → α) : α := (bif Nat.blt p 73 then (af_pl59_73 p κ) else (af_pl73_88 p κ))
theorem af_pl59_88_ok {α : Type} {p : Nat} {κ : Nat → α} : af_pl59_88 p κ = κ p := (af_nd af_pl59_73_ok af_pl73_88_ok)
noncomputable def af_pl88_95 {α : Type} (p : Nat) (κ : Nat → α) : α := (bif Nat.blt p 91 then (bif Nat.blt p 89 then (bif Nat.beq p 88 then κ 88 else κ p) else (bif Nat.blt p 90 then (bif Nat.beq p 89 then κ 89 else κ p) else (bif Nat.beq p 90 then κ 90 else κ p))) else (bif Nat.blt p 93 then (bif Nat.blt p 92 then (bif Nat.beq p 91 then κ 91 else κ p) else (bif Nat.beq p 92 then κ 92 else κ p)) else (bif Nat.blt p 94 then (bif Nat.beq p 93 then κ 93 else κ p) else (bif Nat.beq p 94 then κ 94 else κ p))))
theorem af_pl88_95_ok {α : Type} {p : Nat} {κ : Nat → α} : af_pl88_95 p κ = κ p := (af_nd (af_nd af_lf (af_nd af_lf af_lf)) (af_nd (af_nd af_lf af_lf) (af_nd af_lf af_lf)))
noncomputable def af_pl95_103 {α : Type} (p : Nat) (κ : Nat → α) : α := (bif Nat.blt p 99 then (bif Nat.blt p 97 then (bif Nat.blt p 96 then (bif Nat.beq p 95 then κ 95 else κ p) else (bif Nat.beq p 96 then κ 96 else κ p)) else (bif Nat.blt p 98 then (bif Nat.beq p 97 then κ 97 else κ p) else (bif Nat.beq p 98 then κ 98 else κ p))) else (bif Nat.blt p 101 then (bif Nat.blt p 100 then (bif Nat.beq p 99 then κ 99 else κ p) else (bif Nat.beq p 100 then κ 100 else κ p)) else (bif Nat.blt p 102 then (bif Nat.beq p 101 then κ 101 else κ p) else (bif Nat.beq p 102 then κ 102 else κ p))))
theorem af_pl95_103_ok {α : Type} {p : Nat} {κ : Nat → α} : af_pl95_103 p κ = κ p := (af_nd (af_nd (af_nd af_lf af_lf) (af_nd af_lf af_lf)) (af_nd (af_nd af_lf af_lf) (af_nd af_lf af_lf)))
noncomputable def af_pl88_103 {α : Type} (p : Nat) (κ : Nat → α) : α := (bif Nat.blt p 95 then (af_pl88_95 p κ) else (af_pl95_103 p κ))
theorem af_pl88_103_ok {α : Type} {p : Nat} {κ : Nat → α} : af_pl88_103 p κ = κ p := (af_nd af_pl88_95_ok af_pl95_103_ok)
noncomputable def af_pl103_110 {α : Type} (p : Nat) (κ : Nat → α) : α := (bif Nat.blt p 106 then (bif Nat.blt p 104 then (bif Nat.beq p 103 then κ 103 else κ p) else (bif Nat.blt p 105 then (bif Nat.beq p 104 then κ 104 else κ p) else (bif Nat.beq p 105 then κ 105 else κ p))) else (bif Nat.blt p 108 then (bif Nat.blt p 107 then (bif Nat.beq p 106 then κ 106 else κ p) else (bif Nat.beq p 107 then κ 107 else κ p)) else (bif Nat.blt p 109 then (bif Nat.beq p 108 then κ 108 else κ p) else (bif Nat.beq p 109 then κ 109 else κ p))))
theorem af_pl103_110_ok {α : Type} {p : Nat} {κ : Nat → α} : af_pl103_110 p κ = κ p := (af_nd (af_nd af_lf (af_nd af_lf af_lf)) (af_nd (af_nd af_lf af_lf) (af_nd af_lf af_lf)))
noncomputable def af_pl110_118 {α : Type} (p : Nat) (κ : Nat → α) : α := (bif Nat.blt p 114 then (bif Nat.blt p 112 then (bif Nat.blt p 111 then (bif Nat.beq p 110 then κ 110 else κ p) else (bif Nat.beq p 111 then κ 111 else κ p)) else (bif Nat.blt p 113 then (bif Nat.beq p 112 then κ 112 else κ p) else (bif Nat.beq p 113 then κ 113 else κ p))) else (bif Nat.blt p 116 then (bif Nat.blt p 115 then (bif Nat.beq p 114 then κ 114 else κ p) else (bif Nat.beq p 115 then κ 115 else κ p)) else (bif Nat.blt p 117 then (bif Nat.beq p 116 then κ 116 else κ p) else (bif Nat.beq p 117 then κ 117 else κ p))))
theorem af_pl110_118_ok {α : Type} {p : Nat} {κ : Nat → α} : af_pl110_118 p κ = κ p := (af_nd (af_nd (af_nd af_lf af_lf) (af_nd af_lf af_lf)) (af_nd (af_nd af_lf af_lf) (af_nd af_lf af_lf)))
noncomputable def af_pl103_118 {α : Type} (p : Nat) (κ : Nat → α) : α := (bif Nat.blt p 110 then (af_pl103_110 p κ) else (af_pl110_118 p κ))
theorem af_pl103_118_ok {α : Type} {p : Nat} {κ : Nat → α} : af_pl103_118 p κ = κ p := (af_nd af_pl103_110_ok af_pl110_118_ok)
noncomputable def af_pl88_118 {α : Type} (p : Nat) (κ : Nat → α) : α := (bif Nat.blt p 103 then (af_pl88_103 p κ) else (af_pl103_118 p κ))
theorem af_pl88_118_ok {α : Type} {p : Nat} {κ : Nat → α} : af_pl88_118 p κ = κ p := (af_nd af_pl88_103_ok af_pl103_118_ok)
noncomputable def af_pl59_118 {α : Type} (p : Nat) (κ : Nat → α) : α := (bif Nat.blt p 88 then (af_pl59_88 p κ) else (af_pl88_118 p κ))
theorem af_pl59_118_ok {α : Type} {p : Nat} {κ : Nat → α} : af_pl59_118 p κ = κ p := (af_nd af_pl59_88_ok af_pl88_118_ok)
noncomputable def af_pl0_118 {α : Type} (p : Nat) (κ : Nat → α) : α := (bif Nat.blt p 59 then (af_pl0_59 p κ) else (af_pl59_118 p κ))
theorem af_pl0_118_ok {α : Type} {p : Nat} {κ : Nat → α} : af_pl0_118 p κ = κ p := (af_nd af_pl0_59_ok af_pl59_118_ok)
noncomputable def af_pl118_125 {α : Type} (p : Nat) (κ : Nat → α) : α := (bif Nat.blt p 121 then (bif Nat.blt p 119 then (bif Nat.beq p 118 then κ 118 else κ p) else (bif Nat.blt p 120 then (bif Nat.beq p 119 then κ 119 else κ p) else (bif Nat.beq p 120 then κ 120 else κ p))) else (bif Nat.blt p 123 then (bif Nat.blt p 122 then (bif Nat.beq p 121 then κ 121 else κ p) else (bif Nat.beq p 122 then κ 122 else κ p)) else (bif Nat.blt p 124 then (bif Nat.beq p 123 then κ 123 else κ p) else (bif Nat.beq p 124 then κ 124 else κ p))))
theorem af_pl118_125_ok {α : Type} {p : Nat} {κ : Nat → α} : af_pl118_125 p κ = κ p := (af_nd (af_nd af_lf (af_nd af_lf af_lf)) (af_nd (af_nd af_lf af_lf) (af_nd af_lf af_lf)))
noncomputable def af_pl125_132 {α : Type} (p : Nat) (κ : Nat → α) : α := (bif Nat.blt p 128 then (bif Nat.blt p 126 then (bif Nat.beq p 125 then κ 125 else κ p) else (bif Nat.blt p 127 then (bif Nat.beq p 126 then κ 126 else κ p) else (bif Nat.beq p 127 then κ 127 else κ p))) else (bif Nat.blt p 130 then (bif Nat.blt p 129 then (bif Nat.beq p 128 then κ 128 else κ p) else (bif Nat.beq p 129 then κ 129 else κ p)) else (bif Nat.blt p 131 then (bif Nat.beq p 130 then κ 130 else κ p) else (bif Nat.beq p 131 then κ 131 else κ p))))
theorem af_pl125_132_ok {α : Type} {p : Nat} {κ : Nat → α} : af_pl125_132 p κ = κ p := (af_nd (af_nd af_lf (af_nd af_lf af_lf)) (af_nd (af_nd af_lf af_lf) (af_nd af_lf af_lf)))
noncomputable def af_pl118_132 {α : Type} (p : Nat) (κ : Nat → α) : α := (bif Nat.blt p 125 then (af_pl118_125 p κ) else (af_pl125_132 p κ))
theorem af_pl118_132_ok {α : Type} {p : Nat} {κ : Nat → α} : af_pl118_132 p κ = κ p := (af_nd af_pl118_125_ok af_pl125_132_ok)
noncomputable def af_pl132_139 {α : Type} (p : Nat) (κ : Nat → α) : α := (bif Nat.blt p 135 then (bif Nat.blt p 133 then (bif Nat.beq p 132 then κ 132 else κ p) else (bif Nat.blt p 134 then (bif Nat.beq p 133 then κ 133 else κ p) else (bif Nat.beq p 134 then κ 134 else κ p))) else (bif Nat.blt p 137 then (bif Nat.blt p 136 then (bif Nat.beq p 135 then κ 135 else κ p) else (bif Nat.beq p 136 then κ 136 else κ p)) else (bif Nat.blt p 138 then (bif Nat.beq p 137 then κ 137 else κ p) else (bif Nat.beq p 138 then κ 138 else κ p))))
theorem af_pl132_139_ok {α : Type} {p : Nat} {κ : Nat → α} : af_pl132_139 p κ = κ p := (af_nd (af_nd af_lf (af_nd af_lf af_lf)) (af_nd (af_nd af_lf af_lf) (af_nd af_lf af_lf)))
noncomputable def af_pl139_147 {α : Type} (p : Nat) (κ : Nat → α) : α := (bif Nat.blt p 143 then (bif Nat.blt p 141 then (bif Nat.blt p 140 then (bif Nat.beq p 139 then κ 139 else κ p) else (bif Nat.beq p 140 then κ 140 else κ p)) else (bif Nat.blt p 142 then (bif Nat.beq p 141 then κ 141 else κ p) else (bif Nat.beq p 142 then κ 142 else κ p))) else (bif Nat.blt p 145 then (bif Nat.blt p 144 then (bif Nat.beq p 143 then κ 143 else κ p) else (bif Nat.beq p 144 then κ 144 else κ p)) else (bif Nat.blt p 146 then (bif Nat.beq p 145 then κ 145 else κ p) else (bif Nat.beq p 146 then κ 146 else κ p))))
theorem af_pl139_147_ok {α : Type} {p : Nat} {κ : Nat → α} : af_pl139_147 p κ = κ p := (af_nd (af_nd (af_nd af_lf af_lf) (af_nd af_lf af_lf)) (af_nd (af_nd af_lf af_lf) (af_nd af_lf af_lf)))
noncomputable def af_pl132_147 {α : Type} (p : Nat) (κ : Nat → α) : α := (bif Nat.blt p 139 then (af_pl132_139 p κ) else (af_pl139_147 p κ))
theorem af_pl132_147_ok {α : Type} {p : Nat} {κ : Nat → α} : af_pl132_147 p κ = κ p := (af_nd af_pl132_139_ok af_pl139_147_ok)
noncomputable def af_pl118_147 {α : Type} (p : Nat) (κ : Nat → α) : α := (bif Nat.blt p 132 then (af_pl118_132 p κ) else (af_pl132_147 p κ))
theorem af_pl118_147_ok {α : Type} {p : Nat} {κ : Nat → α} : af_pl118_147 p κ = κ p := (af_nd af_pl118_132_ok af_pl132_147_ok)
noncomputable def af_pl147_154 {α : Type} (p : Nat) (κ : Nat → α) : α := (bif Nat.blt p 150 then (bif Nat.blt p 148 then (bif Nat.beq p 147 then κ 147 else κ p) else (bif Nat.blt p 149 then (bif Nat.beq p 148 then κ 148 else κ p) else (bif Nat.beq p 149 then κ 149 else κ p))) else (bif Nat.blt p 152 then (bif Nat.blt p 151 then (bif Nat.beq p 150 then κ 150 else κ p) else (bif Nat.beq p 151 then κ 151 else κ p)) else (bif Nat.blt p 153 then (bif Nat.beq p 152 then κ 152 else κ p) else (bif Nat.beq p 153 then κ 153 else κ p))))
theorem af_pl147_154_ok {α : Type} {p : Nat} {κ : Nat → α} : af_pl147_154 p κ = κ p := (af_nd (af_nd af_lf (af_nd af_lf af_lf)) (af_nd (af_nd af_lf af_lf) (af_nd af_lf af_lf)))
noncomputable def af_pl154_162 {α : Type} (p : Nat) (κ : Nat → α) : α := (bif Nat.blt p 158 then (bif Nat.blt p 156 then (bif Nat.blt p 155 then (bif Nat.beq p 154 then κ 154 else κ p) else (bif Nat.beq p 155 then κ 155 else κ p)) else (bif Nat.blt p 157 then (bif Nat.beq p 156 then κ 156 else κ p) else (bif Nat.beq p 157 then κ 157 else κ p))) else (bif Nat.blt p 160 then (bif Nat.blt p 159 then (bif Nat.beq p 158 then κ 158 else κ p) else (bif Nat.beq p 159 then κ 159 else κ p)) else (bif Nat.blt p 161 then (bif Nat.beq p 160 then κ 160 else κ p) else (bif Nat.beq p 161 then κ 161 else κ p))))
theorem af_pl154_162_ok {α : Type} {p : Nat} {κ : Nat → α} : af_pl154_162 p κ = κ p := (af_nd (af_nd (af_nd af_lf af_lf) (af_nd af_lf af_lf)) (af_nd (af_nd af_lf af_lf) (af_nd af_lf af_lf)))
noncomputable def af_pl147_162 {α : Type} (p : Nat) (κ : Nat → α) : α := (bif Nat.blt p 154 then (af_pl147_154 p κ) else (af_pl154_162 p κ))
theorem af_pl147_162_ok {α : Type} {p : Nat} {κ : Nat → α} : af_pl147_162 p κ = κ p := (af_nd af_pl147_154_ok af_pl154_162_ok)
noncomputable def af_pl162_169 {α : Type} (p : Nat) (κ : Nat → α) : α := (bif Nat.blt p 165 then (bif Nat.blt p 163 then (bif Nat.beq p 162 then κ 162 else κ p) else (bif Nat.blt p 164 then (bif Nat.beq p 163 then κ 163 else κ p) else (bif Nat.beq p 164 then κ 164 else κ p))) else (bif Nat.blt p 167 then (bif Nat.blt p 166 then (bif Nat.beq p 165 then κ 165 else κ p) else (bif Nat.beq p 166 then κ 166 else κ p)) else (bif Nat.blt p 168 then (bif Nat.beq p 167 then κ 167 else κ p) else (bif Nat.beq p 168 then κ 168 else κ p))))
theorem af_pl162_169_ok {α : Type} {p : Nat} {κ : Nat → α} : af_pl162_169 p κ = κ p := (af_nd (af_nd af_lf (af_nd af_lf af_lf)) (af_nd (af_nd af_lf af_lf) (af_nd af_lf af_lf)))
noncomputable def af_pl169_177 {α : Type} (p : Nat) (κ : Nat → α) : α := (bif Nat.blt p 173 then (bif Nat.blt p 171 then (bif Nat.blt p 170 then (bif Nat.beq p 169 then κ 169 else κ p) else (bif Nat.beq p 170 then κ 170 else κ p)) else (bif Nat.blt p 172 then (bif Nat.beq p 171 then κ 171 else κ p) else (bif Nat.beq p 172 then κ 172 else κ p))) else (bif Nat.blt p 175 then (bif Nat.blt p 174 then (bif Nat.beq p 173 then κ 173 else κ p) else (bif Nat.beq p 174 then κ 174 else κ p)) else (bif Nat.blt p 176 then (bif Nat.beq p 175 then κ 175 else κ p) else (bif Nat.beq p 176 then κ 176 else κ p))))
theorem af_pl169_177_ok {α : Type} {p : Nat} {κ : Nat → α} : af_pl169_177 p κ = κ p := (af_nd (af_nd (af_nd af_lf af_lf) (af_nd af_lf af_lf)) (af_nd (af_nd af_lf af_lf) (af_nd af_lf af_lf)))
noncomputable def af_pl162_177 {α : Type} (p : Nat) (κ : Nat → α) : α := (bif Nat.blt p 169 then (af_pl162_169 p κ) else (af_pl169_177 p κ))
theorem af_pl162_177_ok {α : Type} {p : Nat} {κ : Nat → α} : af_pl162_177 p κ = κ p := (af_nd af_pl162_169_ok af_pl169_177_ok)
noncomputable def af_pl147_177 {α : Type} (p : Nat) (κ : Nat → α) : α := (bif Nat.blt p 162 then (af_pl147_162 p κ) else (af_pl162_177 p κ))
theorem af_pl147_177_ok {α : Type} {p : Nat} {κ : Nat → α} : af_pl147_177 p κ = κ p := (af_nd af_pl147_162_ok af_pl162_177_ok)
noncomputable def af_pl118_177 {α : Type} (p : Nat) (κ : Nat → α) : α := (bif Nat.blt p 147 then (af_pl118_147 p κ) else (af_pl147_177 p κ))
theorem af_pl118_177_ok {α : Type} {p : Nat} {κ : Nat → α} : af_pl118_177 p κ = κ p := (af_nd af_pl118_147_ok af_pl147_177_ok)
noncomputable def af_pl177_184 {α : Type} (p : Nat) (κ : Nat → α) : α := (bif Nat.blt p 180 then (bif Nat.blt p 178 then (bif Nat.beq p 177 then κ 177 else κ p) else (bif Nat.blt p 179 then (bif Nat.beq p 178 then κ 178 else κ p) else (bif Nat.beq p 179 then κ 179 else κ p))) else (bif Nat.blt p 182 then (bif Nat.blt p 181 then (bif Nat.beq p 180 then κ 180 else κ p) else (bif Nat.beq p 181 then κ 181 else κ p)) else (bif Nat.blt p 183 then (bif Nat.beq p 182 then κ 182 else κ p) else (bif Nat.beq p 183 then κ 183 else κ p))))
theorem af_pl177_184_ok {α : Type} {p : Nat} {κ : Nat → α} : af_pl177_184 p κ = κ p := (af_nd (af_nd af_lf (af_nd af_lf af_lf)) (af_nd (af_nd af_lf af_lf) (af_nd af_lf af_lf)))
noncomputable def af_pl184_191 {α : Type} (p : Nat) (κ : Nat → α) : α := (bif Nat.blt p 187 then (bif Nat.blt p 185 then (bif Nat.beq p 184 then κ 184 else κ p) else (bif Nat.blt p 186 then (bif Nat.beq p 185 then κ 185 else κ p) else (bif Nat.beq p 186 then κ 186 else κ p))) else (bif Nat.blt p 189 then (bif Nat.blt p 188 then (bif Nat.beq p 187 then κ 187 else κ p) else (bif Nat.beq p 188 then κ 188 else κ p)) else (bif Nat.blt p 190 then (bif Nat.beq p 189 then κ 189 else κ p) else (bif Nat.beq p 190 then κ 190 else κ p))))
theorem af_pl184_191_ok {α : Type} {p : Nat} {κ : Nat → α} : af_pl184_191 p κ = κ p := (af_nd (af_nd af_lf (af_nd af_lf af_lf)) (af_nd (af_nd af_lf af_lf) (af_nd af_lf af_lf)))
noncomputable def af_pl177_191 {α : Type} (p : Nat) (κ : Nat → α) : α := (bif Nat.blt p 184 then (af_pl177_184 p κ) else (af_pl184_191 p κ))
theorem af_pl177_191_ok {α : Type} {p : Nat} {κ : Nat → α} : af_pl177_191 p κ = κ p := (af_nd af_pl177_184_ok af_pl184_191_ok)
noncomputable def af_pl191_198 {α : Type} (p : Nat) (κ : Nat → α) : α := (bif Nat.blt p 194 then (bif Nat.blt p 192 then (bif Nat.beq p 191 then κ 191 else κ p) else (bif Nat.blt p 193 then (bif Nat.beq p 192 then κ 192 else κ p) else (bif Nat.beq p 193 then κ 193 else κ p))) else (bif Nat.blt p 196 then (bif Nat.blt p 195 then (bif Nat.beq p 194 then κ 194 else κ p) else (bif Nat.beq p 195 then κ 195 else κ p)) else (bif Nat.blt p 197 then (bif Nat.beq p 196 then κ 196 else κ p) else (bif Nat.beq p 197 then κ 197 else κ p))))
theorem af_pl191_198_ok {α : Type} {p : Nat} {κ : Nat → α} : af_pl191_198 p κ = κ p := (af_nd (af_nd af_lf (af_nd af_lf af_lf)) (af_nd (af_nd af_lf af_lf) (af_nd af_lf af_lf)))
noncomputable def af_pl198_206 {α : Type} (p : Nat) (κ : Nat → α) : α := (bif Nat.blt p 202 then (bif Nat.blt p 200 then (bif Nat.blt p 199 then (bif Nat.beq p 198 then κ 198 else κ p) else (bif Nat.beq p 199 then κ 199 else κ p)) else (bif Nat.blt p 201 then (bif Nat.beq p 200 then κ 200 else κ p) else (bif Nat.beq p 201 then κ 201 else κ p))) else (bif Nat.blt p 204 then (bif Nat.blt p 203 then (bif Nat.beq p 202 then κ 202 else κ p) else (bif Nat.beq p 203 then κ 203 else κ p)) else (bif Nat.blt p 205 then (bif Nat.beq p 204 then κ 204 else κ p) else (bif Nat.beq p 205 then κ 205 else κ p))))
theorem af_pl198_206_ok {α : Type} {p : Nat} {κ : Nat → α} : af_pl198_206 p κ = κ p := (af_nd (af_nd (af_nd af_lf af_lf) (af_nd af_lf af_lf)) (af_nd (af_nd af_lf af_lf) (af_nd af_lf af_lf)))
noncomputable def af_pl191_206 {α : Type} (p : Nat) (κ : Nat → α) : α := (bif Nat.blt p 198 then (af_pl191_198 p κ) else (af_pl198_206 p κ))
theorem af_pl191_206_ok {α : Type} {p : Nat} {κ : Nat → α} : af_pl191_206 p κ = κ p := (af_nd af_pl191_198_ok af_pl198_206_ok)
noncomputable def af_pl177_206 {α : Type} (p : Nat) (κ : Nat → α) : α := (bif Nat.blt p 191 then (af_pl177_191 p κ) else (af_pl191_206 p κ))
theorem af_pl177_206_ok {α : Type} {p : Nat} {κ : Nat → α} : af_pl177_206 p κ = κ p := (af_nd af_pl177_191_ok af_pl191_206_ok)
noncomputable def af_pl206_213 {α : Type} (p : Nat) (κ : Nat → α) : α := (bif Nat.blt p 209 then (bif Nat.blt p 207 then (bif Nat.beq p 206 then κ 206 else κ p) else (bif Nat.blt p 208 then (bif Nat.beq p 207 then κ 207 else κ p) else (bif Nat.beq p 208 then κ 208 else κ p))) else (bif Nat.blt p 211 then (bif Nat.blt p 210 then (bif Nat.beq p 209 then κ 209 else κ p) else (bif Nat.beq p 210 then κ 210 else κ p)) else (bif Nat.blt p 212 then (bif Nat.beq p 211 then κ 211 else κ p) else (bif Nat.beq p 212 then κ 212 else κ p))))
theorem af_pl206_213_ok {α : Type} {p : Nat} {κ : Nat → α} : af_pl206_213 p κ = κ p := (af_nd (af_nd af_lf (af_nd af_lf af_lf)) (af_nd (af_nd af_lf af_lf) (af_nd af_lf af_lf)))
noncomputable def af_pl213_221 {α : Type} (p : Nat) (κ : Nat → α) : α := (bif Nat.blt p 217 then (bif Nat.blt p 215 then (bif Nat.blt p 214 then (bif Nat.beq p 213 then κ 213 else κ p) else (bif Nat.beq p 214 then κ 214 else κ p)) else (bif Nat.blt p 216 then (bif Nat.beq p 215 then κ 215 else κ p) else (bif Nat.beq p 216 then κ 216 else κ p))) else (bif Nat.blt p 219 then (bif Nat.blt p 218 then (bif Nat.beq p 217 then κ 217 else κ p) else (bif Nat.beq p 218 then κ 218 else κ p)) else (bif Nat.blt p 220 then (bif Nat.beq p 219 then κ 219 else κ p) else (bif Nat.beq p 220 then κ 220 else κ p))))
theorem af_pl213_221_ok {α : Type} {p : Nat} {κ : Nat → α} : af_pl213_221 p κ = κ p := (af_nd (af_nd (af_nd af_lf af_lf) (af_nd af_lf af_lf)) (af_nd (af_nd af_lf af_lf) (af_nd af_lf af_lf)))
noncomputable def af_pl206_221 {α : Type} (p : Nat) (κ : Nat → α) : α := (bif Nat.blt p 213 then (af_pl206_213 p κ) else (af_pl213_221 p κ))
theorem af_pl206_221_ok {α : Type} {p : Nat} {κ : Nat → α} : af_pl206_221 p κ = κ p := (af_nd af_pl206_213_ok af_pl213_221_ok)
noncomputable def af_pl221_228 {α : Type} (p : Nat) (κ : Nat → α) : α := (bif Nat.blt p 224 then (bif Nat.blt p 222 then (bif Nat.beq p 221 then κ 221 else κ p) else (bif Nat.blt p 223 then (bif Nat.beq p 222 then κ 222 else κ p) else (bif Nat.beq p 223 then κ 223 else κ p))) else (bif Nat.blt p 226 then (bif Nat.blt p 225 then (bif Nat.beq p 224 then κ 224 else κ p) else (bif Nat.beq p 225 then κ 225 else κ p)) else (bif Nat.blt p 227 then (bif Nat.beq p 226 then κ 226 else κ p) else (bif Nat.beq p 227 then κ 227 else κ p))))
theorem af_pl221_228_ok {α : Type} {p : Nat} {κ : Nat → α} : af_pl221_228 p κ = κ p := (af_nd (af_nd af_lf (af_nd af_lf af_lf)) (af_nd (af_nd af_lf af_lf) (af_nd af_lf af_lf)))
noncomputable def af_pl228_236 {α : Type} (p : Nat) (κ : Nat → α) : α := (bif Nat.blt p 232 then (bif Nat.blt p 230 then (bif Nat.blt p 229 then (bif Nat.beq p 228 then κ 228 else κ p) else (bif Nat.beq p 229 then κ 229 else κ p)) else (bif Nat.blt p 231 then (bif Nat.beq p 230 then κ 230 else κ p) else (bif Nat.beq p 231 then κ 231 else κ p))) else (bif Nat.blt p 234 then (bif Nat.blt p 233 then (bif Nat.beq p 232 then κ 232 else κ p) else (bif Nat.beq p 233 then κ 233 else κ p)) else (bif Nat.blt p 235 then (bif Nat.beq p 234 then κ 234 else κ p) else (bif Nat.beq p 235 then κ 235 else κ p))))
theorem af_pl228_236_ok {α : Type} {p : Nat} {κ : Nat → α} : af_pl228_236 p κ = κ p := (af_nd (af_nd (af_nd af_lf af_lf) (af_nd af_lf af_lf)) (af_nd (af_nd af_lf af_lf) (af_nd af_lf af_lf)))
noncomputable def af_pl221_236 {α : Type} (p : Nat) (κ : Nat → α) : α := (bif Nat.blt p 228 then (af_pl221_228 p κ) else (af_pl228_236 p κ))
theorem af_pl221_236_ok {α : Type} {p : Nat} {κ : Nat → α} : af_pl221_236 p κ = κ p := (af_nd af_pl221_228_ok af_pl228_236_ok)
noncomputable def af_pl206_236 {α : Type} (p : Nat) (κ : Nat → α) : α := (bif Nat.blt p 221 then (af_pl206_221 p κ) else (af_pl221_236 p κ))
theorem af_pl206_236_ok {α : Type} {p : Nat} {κ : Nat → α} : af_pl206_236 p κ = κ p := (af_nd af_pl206_221_ok af_pl221_236_ok)
noncomputable def af_pl177_236 {α : Type} (p : Nat) (κ : Nat → α) : α := (bif Nat.blt p 206 then (af_pl177_206 p κ) else (af_pl206_236 p κ))
theorem af_pl177_236_ok {α : Type} {p : Nat} {κ : Nat → α} : af_pl177_236 p κ = κ p := (af_nd af_pl177_206_ok af_pl206_236_ok)
noncomputable def af_pl118_236 {α : Type} (p : Nat) (κ : Nat → α) : α := (bif Nat.blt p 177 then (af_pl118_177 p κ) else (af_pl177_236 p κ))
theorem af_pl118_236_ok {α : Type} {p : Nat} {κ : Nat → α} : af_pl118_236 p κ = κ p := (af_nd af_pl118_177_ok af_pl177_236_ok)
noncomputable def af_pl0_236 {α : Type} (p : Nat) (κ : Nat → α) : α := (bif Nat.blt p 118 then (af_pl0_118 p κ) else (af_pl118_236 p κ))
theorem af_pl0_236_ok {α : Type} {p : Nat} {κ : Nat → α} : af_pl0_236 p κ = κ p := (af_nd af_pl0_118_ok af_pl118_236_ok)
noncomputable def af_pl {α : Type} (p : Nat) (κ : Nat → α) : α := af_pl0_236 p κ
theorem af_pl_ok {α : Type} {p : Nat} {κ : Nat → α} : af_pl p κ = κ p := af_pl0_236_ok
/-- the families of a place -/
noncomputable def af_ff (p : Nat) : List ae_Fm := ae_fam.filter fun f => Nat.beq f.1 p
theorem af_f4_eq (ex : Bool) (M : List ae_M) (p : Nat) (e : ae_X) : ∀ (F : List ae_Fm) (k : ae_K), ae_f4 ex M p e (F.filter fun f => Nat.beq f.1 p) k = ae_f4 ex M p e F k
  | [], _ => rfl
  | f :: r, k => by
    cases h : Nat.beq f.1 p with
    | true =>
      rw [List.filter_cons_of_pos (by exact h)]
      show (bif Nat.beq f.1 p then (ae_f3 ex M p e f (ae_of f.2.2.2.2.2).eraseDups k).flatMap (ae_f4 ex M p e (r.filter fun f => Nat.beq f.1 p)) else ae_f4 ex M p e (r.filter fun f => Nat.beq f.1 p) k) = (bif Nat.beq f.1 p then (ae_f3 ex M p e f (ae_of f.2.2.2.2.2).eraseDups k).flatMap (ae_f4 ex M p e r) else ae_f4 ex M p e r k)
      rw [show ae_f4 ex M p e (r.filter fun f => Nat.beq f.1 p) = ae_f4 ex M p e r from funext fun k => af_f4_eq ex M p e r k]
    | false =>
      rw [List.filter_cons_of_neg (by rw [h]; exact Bool.false_ne_true)]
      show _ = (bif Nat.beq f.1 p then (ae_f3 ex M p e f (ae_of f.2.2.2.2.2).eraseDups k).flatMap (ae_f4 ex M p e r) else ae_f4 ex M p e r k)
      rw [h]
      exact af_f4_eq ex M p e r k
theorem af_pt_eq (ex : Bool) (p : Nat) (e : ae_X) : ∀ (F : List ae_Fm) (k : ae_K) (M : List ae_M), ae_pt ex p e (F.filter fun f => Nat.beq f.1 p) k M = ae_pt ex p e F k M
  | [], _, _ => rfl
  | f :: r, k, M => by
    have i := funext fun k => funext fun M => af_pt_eq ex p e r k M
    cases h : Nat.beq f.1 p with
    | true =>
      rw [List.filter_cons_of_pos (by exact h)]
      show (bif Nat.beq f.1 p && ae_sin f.2.2.2.2.2 && !(ex && f.2.2.2.2.1) then (ae_pq ex p e f (ae_of f.2.2.2.2.2) k M).bind fun q => ae_pt ex p e (r.filter fun f => Nat.beq f.1 p) q.1 q.2 else ae_pt ex p e (r.filter fun f => Nat.beq f.1 p) k M) = (bif Nat.beq f.1 p && ae_sin f.2.2.2.2.2 && !(ex && f.2.2.2.2.1) then (ae_pq ex p e f (ae_of f.2.2.2.2.2) k M).bind fun q => ae_pt ex p e r q.1 q.2 else ae_pt ex p e r k M)
      rw [show ae_pt ex p e (r.filter fun f => Nat.beq f.1 p) = ae_pt ex p e r from i]
    | false =>
      rw [List.filter_cons_of_neg (by rw [h]; exact Bool.false_ne_true)]
      show _ = (bif Nat.beq f.1 p && ae_sin f.2.2.2.2.2 && !(ex && f.2.2.2.2.1) then (ae_pq ex p e f (ae_of f.2.2.2.2.2) k M).bind fun q => ae_pt ex p e r q.1 q.2 else ae_pt ex p e r k M)
      rw [h]
      exact af_pt_eq ex p e r k M
noncomputable def af_fks (k : ae_K) (M : List ae_M) (p : Nat) (e : ae_X) : List ae_K := ae_fks false k M p e
theorem af_fks_eq (k : ae_K) (M : List ae_M) (p : Nat) (e : ae_X) : af_fks k M p e = ae_fks false k M p e := rfl
theorem af_any_f {α : Type} {f g : α → Bool} : ∀ {l : List α}, (l.filter f).any g = l.any fun x => f x && g x
  | [] => rfl
  | a :: r => by
    cases h : f a with
    | true => rw [List.filter_cons_of_pos (by exact h), List.any_cons, List.any_cons, af_any_f, h, Bool.true_and]
    | false => rw [List.filter_cons_of_neg (by rw [h]; exact Bool.false_ne_true), List.any_cons, af_any_f, h, Bool.false_and, Bool.false_or]
noncomputable def af_tc (k : ae_K) (p : Nat) (e : ae_X) : Bool := ae_tc k p e
theorem af_tc_eq (k : ae_K) (p : Nat) (e : ae_X) : af_tc k p e = ae_tc k p e := rfl
noncomputable def af_rd (pc : Nat) (k : ae_K) (M : List ae_M) (lv : ae_L) (p : Nat) (e : ae_X) (r : List ae_V) : Option (List ae_R) := match ae_ld false k M p e with
  | some (k1, M1, v) => some ((af_fks k1 M1 p e).map fun k' => (pc, k', M1, lv, v :: r))
  | none => none
theorem af_rd_eq (pc : Nat) (k : ae_K) (M : List ae_M) (lv : ae_L) (p : Nat) (e : ae_X) (r : List ae_V) : af_rd pc k M lv p e r = ae_rd false pc k M lv p e r := by
  unfold af_rd ae_rd
  cases ae_ld false k M p e with
  | none => rfl
  | some q => show some ((af_fks q.1 q.2.1 p e).map _) = some ((ae_fks false q.1 q.2.1 p e).map _); rw [af_fks_eq]
noncomputable def af_s1 (mo : ae_Mo) (k : ae_K) (M : List ae_M) (p : Nat) (e : ae_X) (a : ae_V) : Option (List ae_M) :=
  bif ae_im k mo p e && ai_all (fun m => ae_kp k p e m || !m.2.2.2 || ae_xe m.2.1 e) M then some ((p, e, a, af_tc k p e || !(ae_oi k p e a)) :: ai_flt (ae_kp k p e) M) else none
theorem af_s1_eq (mo : ae_Mo) (k : ae_K) (M : List ae_M) (p : Nat) (e : ae_X) (a : ae_V) : af_s1 mo k M p e a = ae_s1 false mo k M p e a := by
  unfold af_s1 ae_s1
  rw [af_tc_eq]
  show _ = (bif ae_im k mo p e && true && ai_all (fun m => ae_kp k p e m || !m.2.2.2 || ae_xe m.2.1 e) M then some ((p, e, a, ae_tc k p e || !(ae_oi k p e a)) :: ai_flt (ae_kp k p e) M) else none)
  rw [Bool.and_true]
noncomputable def af_st (mo : ae_Mo) (k : ae_K) (M : List ae_M) (p : Nat) (e : ae_X) (a : ae_V) : Option (List (ae_K × List ae_M)) :=
  bif ae_tc k p e then (ae_pt false p e (ae_ffe k p e) k M).bind fun q => ae_cat (fun k' => (af_s1 mo k' q.2 p e a).bind fun M' => some [(k', M')]) (ae_f4 false q.2 p (ae_nr q.1 e) (ae_ffe q.1 p (ae_nr q.1 e)) q.1)
  else (af_s1 mo k M p e a).bind fun M' => some [(k, M')]
theorem af_st_eq (mo : ae_Mo) (k : ae_K) (M : List ae_M) (p : Nat) (e : ae_X) (a : ae_V) : af_st mo k M p (ae_nr k e) a = ae_st false mo k M p e a := by
  unfold af_st ae_st
  have h3 : ∀ mo k M e, af_s1 mo k M p e a = ae_s1 false mo k M p e a := fun mo k M e => af_s1_eq mo k M p e a
  simp only [h3]
  all_goals rfl
noncomputable def af_w2 (mo : ae_Mo) (pc : Nat) (k : ae_K) (M : List ae_M) (lv : ae_L) (p : Nat) (e : ae_X) (a : ae_V) (r : List ae_V) : Option (List ae_R) := match af_st mo k M p (ae_nr k e) a with
  | some o => some (o.map fun q => match q with
    | (k', M') => (pc, k', M', lv, r))
  | none => none
theorem af_w2_eq (mo : ae_Mo) (pc : Nat) (k : ae_K) (M : List ae_M) (lv : ae_L) (p : Nat) (e : ae_X) (a : ae_V) (r : List ae_V) : af_w2 mo pc k M lv p e a r = ae_wt2 false mo pc k M lv p e a r := by
  unfold af_w2 ae_wt2
  rw [af_st_eq]
  cases ae_st false mo k M p e a with
  | none => rfl
  | some o => rfl
noncomputable def af_gfd (a b pc : Nat) (k : ae_K) (M : List ae_M) (lv : ae_L) (st : List ae_V) : Option (List ae_R) := match st with
  | v :: r => af_pl v.2.1 fun p => bif Nat.beq v.1 2 && ae_isO p a b then af_rd (pc + 3) k M lv p (ae_num (b : Int)) r else none
  | [] => none
theorem af_gfd_eq (a b pc : Nat) (k : ae_K) (M : List ae_M) (lv : ae_L) (st : List ae_V) : af_gfd a b pc k M lv st = ae_q_getfield false a b pc k M lv st := by
  cases st with
  | nil => rfl
  | cons v r =>
    show af_pl v.2.1 _ = _
    rw [af_pl_ok, af_rd_eq]
    rfl
noncomputable def af_pfd (mo : ae_Mo) (a b pc : Nat) (k : ae_K) (M : List ae_M) (lv : ae_L) (st : List ae_V) : Option (List ae_R) := match st with
  | v :: p :: r => af_pl p.2.1 fun q => bif Nat.beq p.1 2 && ae_isO q a b && ae_ft a b k v && !(am_fin a b) then af_w2 mo (pc + 3) k M lv q (ae_num (b : Int)) v r else none
  | _ => none
theorem af_pfd_eq (mo : ae_Mo) (a b pc : Nat) (k : ae_K) (M : List ae_M) (lv : ae_L) (st : List ae_V) : af_pfd mo a b pc k M lv st = ae_q_putfield false mo a b pc k M lv st := by
  cases st with
  | nil => rfl
  | cons v r =>
    cases r with
    | nil => rfl
    | cons p r =>
      show af_pl p.2.1 _ = _
      rw [af_pl_ok, af_w2_eq]
      rfl
noncomputable def af_al (t pc : Nat) (k : ae_K) (M : List ae_M) (lv : ae_L) (st : List ae_V) : Option (List ae_R) := match st with
  | i :: p :: r => af_pl p.2.1 fun q => bif Nat.beq i.1 0 && Nat.beq p.1 2 && ae_isA q t && ae_ib k q i.2.2 then af_rd pc k M lv q i.2.2 r else none
  | _ => none
theorem af_al_eq (t pc : Nat) (k : ae_K) (M : List ae_M) (lv : ae_L) (st : List ae_V) : af_al t pc k M lv st = ae_al false t pc k M lv st := by
  cases st with
  | nil => rfl
  | cons i r =>
    cases r with
    | nil => rfl
    | cons p r =>
      show af_pl p.2.1 _ = _
      rw [af_pl_ok, af_rd_eq]
      rfl
noncomputable def af_al0 (pc : Nat) (k : ae_K) (M : List ae_M) (lv : ae_L) (st : List ae_V) : Option (List ae_R) := match st with
  | i :: p :: r => bif Nat.beq i.1 0 && Nat.beq p.1 2 && Nat.beq p.2.1 0 then (bif ae_ib k 0 i.2.2 then af_rd pc k M lv 0 i.2.2 r else none) else af_al 0 pc k M lv st
  | _ => none
theorem af_al0_eq (pc : Nat) (k : ae_K) (M : List ae_M) (lv : ae_L) (st : List ae_V) : af_al0 pc k M lv st = ae_al0 false pc k M lv st := by
  cases st with
  | nil => rfl
  | cons i r =>
    cases r with
    | nil => rfl
    | cons p r =>
      show (bif _ then (bif _ then af_rd pc k M lv 0 i.2.2 r else none) else af_al 0 pc k M lv (i :: p :: r)) = _
      rw [af_rd_eq, af_al_eq]
      rfl
noncomputable def af_as3 (mo : ae_Mo) (t pc : Nat) (k : ae_K) (M : List ae_M) (lv : ae_L) (st : List ae_V) : Option (List ae_R) := match st with
  | z :: i :: p :: r => af_pl p.2.1 fun q => bif Nat.beq z.1 (bif Nat.beq t 2 then 1 else 0) && Nat.beq i.1 0 && Nat.beq p.1 2 && ae_isA q t && ae_ib k q i.2.2 then
      (bif Nat.beq t 1 && !(ae_rg k z.2.2 (-128) 127) then af_w2 mo pc (ae_ni k (-128) 127).1 M lv q i.2.2 (ae_ni k (-128) 127).2 r else af_w2 mo pc k M lv q i.2.2 z r) else none
  | _ => none
theorem af_as3_eq (mo : ae_Mo) (t pc : Nat) (k : ae_K) (M : List ae_M) (lv : ae_L) (st : List ae_V) : af_as3 mo t pc k M lv st = ae_as3 false mo t pc k M lv st := by
  cases st with
  | nil => rfl
  | cons z r =>
    cases r with
    | nil => rfl
    | cons i r =>
      cases r with
      | nil => rfl
      | cons p r =>
        show af_pl p.2.1 _ = _
        rw [af_pl_ok, af_w2_eq, af_w2_eq]
        rfl
noncomputable def af_sp (nL : Nat) (i : Instr) (a b pc : Nat) : Option af_Fn := match i with
  | .iconst n => some fun mo k M lv st => ae_ps (pc + 1) k M lv st (0, 0, ae_num (Int32.ofInt n).toInt)
  | .bipush n => some fun mo k M lv st => ae_ps (pc + 2) k M lv st (0, 0, ae_num (Int8.ofInt n).toInt32.toInt)
  | .sipush n => some fun mo k M lv st => ae_ps (pc + 3) k M lv st (0, 0, ae_num (Int16.ofInt n).toInt32.toInt)
  | .lconst n => some fun mo k M lv st => ae_ps (pc + 1) k M lv st (1, 0, ae_num (Int64.ofNat n.val).toInt)
  | .ldc _ => some fun mo k M lv st => bif Nat.ble 1000 a then bif Nat.ble (ae_cats st) 8 then (bif Nat.beq a 1000 then ae_ps (pc + 5) k M lv st (0, 0, ae_num (nI am_wn).toInt) else
      (ae_lg lv b).bind fun v => bif Nat.beq v.1 0 && ae_rg k v.2.2 0 ((am_wn : Int) - 1) then ae_ps (pc + 7) (ae_ni k 0 127).1 M lv st (ae_ni k 0 127).2 else none) else none
      else am_CI[a]?.bind fun q => ae_ps (pc + 2) k M lv st (0, 0, ae_num q.2.2.1.toInt)
  | .ldc_w _ => some fun mo k M lv st => am_CI[a]?.bind fun q => ae_ps (pc + 3) k M lv st (0, 0, ae_num q.2.2.1.toInt)
  | .ldc2_w _ => some fun mo k M lv st => am_CL[a]?.bind fun q => ae_ps (pc + 3) k M lv st (1, 0, ae_num q.2.2.1.toInt)
  | .iload_n n => some fun mo k M lv st => ae_ll 0 (pc + 1) n.val k M lv st
  | .iload n => some fun mo k M lv st => ae_ll 0 (pc + 2) n k M lv st
  | .lload_n n => some fun mo k M lv st => ae_ll 1 (pc + 1) n.val k M lv st
  | .lload n => some fun mo k M lv st => ae_ll 1 (pc + 2) n k M lv st
  | .aload_n n => some fun mo k M lv st => ae_ll 2 (pc + 1) n.val k M lv st
  | .aload n => some fun mo k M lv st => ae_ll 2 (pc + 2) n k M lv st
  | .istore_n n => some fun mo k M lv st => bif Nat.blt n.val nL then ae_ss 0 (pc + 1) n.val k M lv st else none
  | .istore n => some fun mo k M lv st => bif Nat.blt n nL then ae_ss 0 (pc + 2) n k M lv st else none
  | .lstore_n n => some fun mo k M lv st => bif Nat.blt (n.val + 1) nL then ae_ss 1 (pc + 1) n.val k M lv st else none
  | .lstore n => some fun mo k M lv st => bif Nat.blt (n + 1) nL then ae_ss 1 (pc + 2) n k M lv st else none
  | .astore_n n => some fun mo k M lv st => bif Nat.blt n.val nL then ae_ss 2 (pc + 1) n.val k M lv st else none
  | .astore n => some fun mo k M lv st => bif Nat.blt n nL then ae_ss 2 (pc + 2) n k M lv st else none
  | .iinc n d => some fun mo k M lv st => bif Nat.blt n nL then (ae_lg lv n).bind fun v => bif Nat.beq v.1 0 then some [(pc + 3, (ae_pi k (ae_pls (ae_nr k v.2.2) (ae_w32 d))).1, M, ae_p1 lv n (ae_pi k (ae_pls (ae_nr k v.2.2) (ae_w32 d))).2, st)] else none else none
  | .dup => some fun mo k M lv st => ae_q_dup pc k M lv st
  | .dup2 => some fun mo k M lv st => ae_q_dup2 pc k M lv st
  | .pop => some fun mo k M lv st => ae_q_pop pc k M lv st
  | .pop2 => some fun mo k M lv st => ae_q_pop2 pc k M lv st
  | .iadd => some fun mo k M lv st => ae_bo (ae_bc (fun x y => x + y) ae_gadd) (pc + 1) k M lv st
  | .isub => some fun mo k M lv st => ae_bo (ae_bc (fun x y => x - y) ae_gsub) (pc + 1) k M lv st
  | .imul => some fun mo k M lv st => ae_bo (ae_bc (fun x y => x * y) ae_gmul) (pc + 1) k M lv st
  | .iand => some fun mo k M lv st => ae_bo (ae_bc (fun x y => x &&& y) ae_gand) (pc + 1) k M lv st
  | .ior => some fun mo k M lv st => ae_bo (ae_bc (fun x y => x ||| y) ae_gor) (pc + 1) k M lv st
  | .ixor => some fun mo k M lv st => ae_bo (ae_bc (fun x y => x ^^^ y) ae_gor) (pc + 1) k M lv st
  | .ishl => some fun mo k M lv st => ae_bo (ae_bc (fun x y => x <<< (y &&& 31)) ae_gful) (pc + 1) k M lv st
  | .ishr => some fun mo k M lv st => ae_bo (ae_bc (fun x y => x >>> (y &&& 31)) ae_gful) (pc + 1) k M lv st
  | .iushr => some fun mo k M lv st => ae_bo (ae_bc (fun x y => (x.toUInt32 >>> (y.toUInt32 &&& Int32.toUInt32 31)).toInt32) ae_gful) (pc + 1) k M lv st
  | .idiv => some fun mo k M lv st => ae_bo (ae_dv (ae_bc (fun x y => x / y) ae_gdiv)) (pc + 1) k M lv st
  | .irem => some fun mo k M lv st => ae_bo (ae_dv (ae_bc (fun x y => x - x / y * y) ae_grem)) (pc + 1) k M lv st
  | .ladd => some fun mo k M lv st => ae_bj ae_hadd (pc + 1) k M lv st
  | .lsub => some fun mo k M lv st => ae_bj ae_hsub (pc + 1) k M lv st
  | .lmul => some fun mo k M lv st => ae_bj ae_hmul (pc + 1) k M lv st
  | .land => some fun mo k M lv st => ae_bj ae_hful (pc + 1) k M lv st
  | .lor => some fun mo k M lv st => ae_bj ae_hful (pc + 1) k M lv st
  | .ldiv => some fun mo k M lv st => ae_bj (ae_dv ae_hful) (pc + 1) k M lv st
  | .lrem => some fun mo k M lv st => ae_bj (ae_dv ae_hful) (pc + 1) k M lv st
  | .lshl => some fun mo k M lv st => ae_q_lshl pc k M lv st
  | .lcmp => some fun mo k M lv st => ae_bj ae_hcmp (pc + 1) k M lv st
  | .i2l => some fun mo k M lv st => ae_q_i2l pc k M lv st
  | .l2i => some fun mo k M lv st => ae_q_l2i pc k M lv st
  | .i2b => some fun mo k M lv st => ae_i2 (-128) 127 (pc + 1) k M lv st
  | .i2s => some fun mo k M lv st => ae_i2 (-32768) 32767 (pc + 1) k M lv st
  | .ifCond c _ => some fun mo k M lv st => ae_q_ifCond c a pc k M lv st
  | .if_icmp c _ => some fun mo k M lv st => ae_q_if_icmp c a pc k M lv st
  | .goto _ => some fun mo k M lv st => some [(a, k, M, lv, st)]
  | .tableswitch d lo hi offs => some fun mo k M lv st => ae_q_tableswitch d lo hi offs pc k M lv st
  | .getfield _ => some fun mo k M lv st => af_gfd a b pc k M lv st
  | .putfield _ => some fun mo k M lv st => af_pfd mo a b pc k M lv st
  | .iaload => some fun mo k M lv st => af_al0 (pc + 1) k M lv st
  | .baload => some fun mo k M lv st => af_al 1 (pc + 1) k M lv st
  | .laload => some fun mo k M lv st => af_al 2 (pc + 1) k M lv st
  | .aaload => some fun mo k M lv st => ae_alq false (pc + 1) k M lv st
  | .iastore => some fun mo k M lv st => af_as3 mo 0 (pc + 1) k M lv st
  | .bastore => some fun mo k M lv st => af_as3 mo 1 (pc + 1) k M lv st
  | .lastore => some fun mo k M lv st => af_as3 mo 2 (pc + 1) k M lv st
  | .arraylength => some fun mo k M lv st => ae_q_arraylength pc k M lv st
  | _ => none
theorem af_sp_ok {nL a b pc : Nat} {i : Instr} {mo : ae_Mo} {k : ae_K} {M : List ae_M} {lv : ae_L} {st : List ae_V} : (match af_sp nL i a b pc with
    | some f => f mo k M lv st
    | none => none) = ae_sp false mo nL i a b pc k M lv st := by
  cases i with
  | getfield n => exact af_gfd_eq a b pc k M lv st
  | putfield n => exact af_pfd_eq mo a b pc k M lv st
  | iaload => exact af_al0_eq (pc + 1) k M lv st
  | baload => exact af_al_eq 1 (pc + 1) k M lv st
  | laload => exact af_al_eq 2 (pc + 1) k M lv st
  | iastore => exact af_as3_eq mo 0 (pc + 1) k M lv st
  | bastore => exact af_as3_eq mo 1 (pc + 1) k M lv st
  | lastore => exact af_as3_eq mo 2 (pc + 1) k M lv st
  | _ => rfl
noncomputable def af_rt (i : Instr) (rk : Nat) : Option (ae_K → List ae_V → Option (Option ae_V)) := match i with
  | .return_ => some fun _ st => (match st with
    | [] => bif Nat.beq rk 0 then some none else none
    | _ :: _ => none)
  | .ireturn => some fun k st => (match st with
    | [v] => bif Nat.beq v.1 0 && (Nat.beq rk 1 || (Nat.beq rk 2 && ae_rg k v.2.2 0 1)) then some (some v) else none
    | _ => none)
  | .lreturn => some fun _ st => (match st with
    | [v] => bif Nat.beq v.1 1 && Nat.beq rk 3 then some (some v) else none
    | _ => none)
  | _ => none
theorem af_rt_ok {i : Instr} {rk : Nat} {k : ae_K} {M : List ae_M} {st : List ae_V} : (match af_rt i rk with
    | some g => (match g k st with
      | some v => some [(k, M, v)]
      | none => none)
    | none => none) = ae_re i rk k M st := by
  cases i <;> first
    | rfl
    | (cases st with
      | nil => show (match (bif Nat.beq rk 0 then some none else none : Option (Option ae_V)) with | some v => some [(k, M, v)] | none => none) = (bif Nat.beq rk 0 then some [(k, M, none)] else none); cases Nat.beq rk 0 <;> rfl
      | cons _ _ => rfl)
    | (cases st with
      | nil => rfl
      | cons v r => cases r with
        | nil => show (match (bif Nat.beq v.1 0 && (Nat.beq rk 1 || (Nat.beq rk 2 && ae_rg k v.2.2 0 1)) then some (some v) else none : Option (Option ae_V)) with | some v => some [(k, M, v)] | none => none) = (bif Nat.beq v.1 0 && (Nat.beq rk 1 || (Nat.beq rk 2 && ae_rg k v.2.2 0 1)) then some [(k, M, some v)] else none); cases Nat.beq v.1 0 && (Nat.beq rk 1 || (Nat.beq rk 2 && ae_rg k v.2.2 0 1)) <;> rfl
        | cons _ _ => rfl)
    | (cases st with
      | nil => rfl
      | cons v r => cases r with
        | nil => show (match (bif Nat.beq v.1 1 && Nat.beq rk 3 then some (some v) else none : Option (Option ae_V)) with | some v => some [(k, M, v)] | none => none) = (bif Nat.beq v.1 1 && Nat.beq rk 3 then some [(k, M, some v)] else none); cases Nat.beq v.1 1 && Nat.beq rk 3 <;> rfl
        | cons _ _ => rfl)
noncomputable def af_iv (i : Instr) : Bool := match i with
  | .invokevirtual _ => true
  | _ => false
noncomputable def af_is (i : Instr) : Bool := match i with
  | .invokespecial _ => true
  | _ => false
noncomputable def af_it (i : Instr) : Bool := match i with
  | .invokestatic _ => true
  | _ => false
noncomputable def af_rcv (i : Instr) (args : List ae_V) (own : Nat) : Bool := bif af_iv i then (match args with
    | a :: _ => Nat.beq a.1 2 && ae_isO a.2.1 own 0
    | [] => false)
  else bif af_is i then (match args with
    | a :: _ => Nat.beq a.1 2
    | [] => false)
  else af_it i
theorem af_rcv_eq (i : Instr) (args : List ae_V) (own : Nat) : af_rcv i args own = ae_rcv i args own := by cases i <;> rfl
theorem af_a_sp {nL a b pc p : Nat} {i : Instr} {g : af_An} (q : af_a nL i a pc = some (p, g)) : am_isR i = false ∧ am_isC i = false ∧ ∀ (ex : Bool) (mo : ae_Mo) (k : ae_K) (M : List ae_M) (lv : ae_L) (st : List ae_V), ae_sp ex mo nL i a b pc k M lv st = af_ou p k M (g k lv st) := by
  have lo : ∀ (t p j : Nat) (k : ae_K) (M : List ae_M) (lv : ae_L) (st : List ae_V), ae_ll t p j k M lv st = af_ou p k M (af_lo t j k lv st) := by
    intro t p j k M lv st
    unfold ae_ll af_lo
    cases ae_lg lv j with
    | none => rfl
    | some v => show (bif Nat.beq v.1 t then _ else _) = af_ou p k M (bif Nat.beq v.1 t then _ else _); cases Nat.beq v.1 t <;> rfl
  have so : ∀ (t p j : Nat) (k : ae_K) (M : List ae_M) (lv : ae_L) (st : List ae_V), ae_ss t p j k M lv st = af_ou p k M (af_so t j k lv st) := by
    intro t p j k M lv st
    cases st with
    | nil => rfl
    | cons v r => show (bif Nat.beq v.1 t then _ else _) = af_ou p k M (bif Nat.beq v.1 t then _ else _); cases Nat.beq v.1 t <;> rfl
  have sb : ∀ {c : Bool} {t p' j : Nat}, (bif c then some (p', af_so t j) else none : Option (Nat × af_An)) = some (p, g) → c = true ∧ p' = p ∧ af_so t j = g := by
    intro c t p' j q
    cases c with
    | false => cases q
    | true => cases q; exact ⟨rfl, rfl, rfl⟩
  cases i <;> first
    | (cases q; done)
    | (cases q; exact ⟨rfl, rfl, fun _ _ _ _ _ _ => rfl⟩)
    | (cases q; exact ⟨rfl, rfl, fun _ _ k M lv st => lo _ _ _ k M lv st⟩)
    | (obtain ⟨h1, h2, h3⟩ := sb q; subst h2; subst h3; exact ⟨rfl, rfl, fun _ _ k M lv st => by show (bif _ then ae_ss _ _ _ k M lv st else none) = _; rw [h1]; exact so _ _ _ k M lv st⟩)
    | (cases q; exact ⟨rfl, rfl, fun _ _ k M lv st => by
        cases st with
        | nil => rfl
        | cons v r => show (bif Nat.beq v.1 1 then _ else _) = af_ou _ k M (bif Nat.beq v.1 1 then _ else _); cases Nat.beq v.1 1 <;> rfl⟩)
/-! the walk of one thread -/
theorem af_find_f {α : Type} {f g : α → Bool} : ∀ {l : List α}, (l.filter f).find? g = l.find? fun x => f x && g x
  | [] => rfl
  | a :: r => by
    cases h : f a with
    | true =>
      rw [List.filter_cons_of_pos (by exact h), List.find?_cons, List.find?_cons, af_find_f, h]
      cases g a <;> rfl
    | false => rw [List.filter_cons_of_neg (by rw [h]; exact Bool.false_ne_true), List.find?_cons, af_find_f, h]; rfl
theorem af_fs_f {α β : Type} {f : α → Bool} {g : α → Option β} (h : ∀ a, f a = false → g a = none) : ∀ {l : List α}, (l.filter f).findSome? g = l.findSome? g
  | [] => rfl
  | a :: r => by
    cases hf : f a with
    | true => rw [List.filter_cons_of_pos (by exact hf), List.findSome?_cons, List.findSome?_cons, af_fs_f h]
    | false => rw [List.filter_cons_of_neg (by rw [hf]; exact Bool.false_ne_true), List.findSome?_cons, af_fs_f h, h a hf]
theorem af_cat1 {α β : Type} {f : α → Option (List β)} {a : α} : ae_cat f [a] = f a := by
  show (f a).bind (fun x => (some []).bind fun y => some (x ++ y)) = f a
  cases f a with
  | none => rfl
  | some x => show some (x ++ []) = some x; rw [List.append_nil]
noncomputable def af_c1 (P : ae_P) (ih : ae_Go) (dd y : Nat) (i : Instr) (a b pc : Nat) (k : ae_K) (M : List ae_M) (lv : ae_L) (st : List ae_V) (cxs : List ae_Cx) : Option (List ae_Ou) :=
  bif Nat.ble 1000 a then (bif Nat.ble 1 dd && Nat.ble (ae_cats st) 16 then (ae_sy P.1 P.2.1 a pc k M lv st).bind (ae_cat fun z => match z with
    | (pc, k, M, lv, st) => ih dd y pc k M lv st cxs) else none)
  else match dd with
    | 0 => none
    | e + 1 => bif Nat.ble (am_pop i b) st.length && Nat.ble (ae_cats (st.drop (am_pop i b))) 8 && af_rcv i (st.take (am_pop i b)).reverse (am_inf a).1 && Nat.ble (ae_cats (st.take (am_pop i b))) (am_inf a).2.2.1 then
      (match P.2.2.2.1.bind fun q => bif Nat.beq q.1.1 a && ae_fas k q.1.2.1 (st.take (am_pop i b)).reverse then some q else none with
      | some c => bif Nat.ble c.1.2.2.2.2.2.2.2 (e + 2) then (ae_cc P.1 P.2.1 c.1 (ae_ci2 c.2.1 c.2.2) (pc + 3) k M lv (st.drop (am_pop i b))).bind (ae_cat fun z => match z with
          | (pc, k, M, lv, st) => ih (e + 1) y pc k M lv st cxs) else none
      | none => (match P.2.2.1.find? fun c => Nat.beq c.1 a && ae_fas k c.2.1 (st.take (am_pop i b)).reverse with
        | some c => bif Nat.ble c.2.2.2.2.2.2.2 e then (ae_cc P.1 P.2.1 c (fun _ _ => true) (pc + 3) k M lv (st.drop (am_pop i b))).bind (ae_cat fun z => match z with
          | (pc, k, M, lv, st) => ih (e + 1) y pc k M lv st cxs) else none
        | none => (ih e a 0 k M (ae_ag2 0 (st.take (am_pop i b)).reverse) [] []).bind (ae_cat fun o => match o with
          | (k, M, v) => ih (e + 1) y (pc + 3) k M lv (v.toList ++ st.drop (am_pop i b)) cxs)))
      else none
theorem af_c1_eq (P : ae_P) (ih : ae_Go) (dd y : Nat) (i : Instr) (a b pc : Nat) (k : ae_K) (M : List ae_M) (lv : ae_L) (st : List ae_V) (cxs : List ae_Cx) : af_c1 P ih dd y i a b pc k M lv st cxs = ae_ca P ih dd y i a b pc k M lv st cxs := by
  unfold af_c1
  rw [af_rcv_eq]
  cases dd <;> rfl
noncomputable def af_b1 (P : ae_P) (ih : ae_Go) (dd y pc : Nat) (k : ae_K) (M : List ae_M) (lv : ae_L) (st : List ae_V) (cxs : List ae_Cx) : Option (List ae_Ou) :=
  match am_code y pc with
  | none => none
  | some (i, a, b) => (match af_a (am_inf y).2.2.1 i a pc with
    | some (p, g) => (match g k lv st with
      | some (lv, st) => ih dd y p k M lv st cxs
      | none => none)
    | none => bif P.1 then ae_b1 P ih dd y pc k M lv st cxs
      else bif am_isR i then (match af_rt i (am_inf y).2.2.2 with
        | some g => (match g k st with
          | some v => some [(k, M, v)]
          | none => none)
        | none => none)
      else bif am_isC i then af_c1 P ih dd y i a b pc k M lv st cxs
      else (match af_sp (am_inf y).2.2.1 i a b pc with
        | some f => (match f P.2.1 k M lv st with
          | some l => ae_cat (fun z => match z with
            | (pc, k, M, lv, st) => ih dd y pc k M lv st cxs) l
          | none => none)
        | none => none))
theorem af_b1_eq (P : ae_P) (ih : ae_Go) (dd y pc : Nat) (k : ae_K) (M : List ae_M) (lv : ae_L) (st : List ae_V) (cxs : List ae_Cx) : af_b1 P ih dd y pc k M lv st cxs = ae_b1 P ih dd y pc k M lv st cxs := by
  have e : ae_b1 P ih dd y pc k M lv st cxs = (am_code y pc).bind fun q =>
    bif am_isR q.1 then ae_re q.1 (am_inf y).2.2.2 k M st
    else bif am_isC q.1 then ae_ca P ih dd y q.1 q.2.1 q.2.2 pc k M lv st cxs
    else (ae_sp P.1 P.2.1 (am_inf y).2.2.1 q.1 q.2.1 q.2.2 pc k M lv st).bind (ae_cat fun z => ih dd y z.1 z.2.1 z.2.2.1 z.2.2.2.1 z.2.2.2.2 cxs) := rfl
  unfold af_b1
  cases hc : am_code y pc with
  | none => rw [e, hc]; rfl
  | some q =>
    obtain ⟨i, a, b⟩ := q
    rw [hc] at e
    have e : ae_b1 P ih dd y pc k M lv st cxs = bif am_isR i then ae_re i (am_inf y).2.2.2 k M st
      else bif am_isC i then ae_ca P ih dd y i a b pc k M lv st cxs
      else (ae_sp P.1 P.2.1 (am_inf y).2.2.1 i a b pc k M lv st).bind (ae_cat fun z => ih dd y z.1 z.2.1 z.2.2.1 z.2.2.2.1 z.2.2.2.2 cxs) := e
    show (match af_a (am_inf y).2.2.1 i a pc with
      | some (p, g) => (match g k lv st with
        | some (lv, st) => ih dd y p k M lv st cxs
        | none => none)
      | none => bif P.1 then ae_b1 P ih dd y pc k M lv st cxs
        else bif am_isR i then (match af_rt i (am_inf y).2.2.2 with
          | some g => (match g k st with
            | some v => some [(k, M, v)]
            | none => none)
          | none => none)
        else bif am_isC i then af_c1 P ih dd y i a b pc k M lv st cxs
        else (match af_sp (am_inf y).2.2.1 i a b pc with
          | some f => (match f P.2.1 k M lv st with
            | some l => ae_cat (fun z => match z with
              | (pc, k, M, lv, st) => ih dd y pc k M lv st cxs) l
            | none => none)
          | none => none)) = _
    cases hA : af_a (am_inf y).2.2.1 i a pc with
    | some q =>
      obtain ⟨p, g⟩ := q
      obtain ⟨h1, h2, h3⟩ := af_a_sp (b := b) hA
      rw [e, h1, h2]
      show _ = (ae_sp P.1 P.2.1 (am_inf y).2.2.1 i a b pc k M lv st).bind _
      rw [h3]
      show (match g k lv st with
        | some (lv, st) => ih dd y p k M lv st cxs
        | none => none) = (af_ou p k M (g k lv st)).bind _
      cases g k lv st with
      | none => rfl
      | some r =>
        obtain ⟨lv', st'⟩ := r
        show ih dd y p k M lv' st' cxs = ae_cat (fun z => ih dd y z.1 z.2.1 z.2.2.1 z.2.2.2.1 z.2.2.2.2 cxs) [(p, k, M, lv', st')]
        rw [af_cat1]
    | none =>
      show (bif P.1 then ae_b1 P ih dd y pc k M lv st cxs
        else bif am_isR i then (match af_rt i (am_inf y).2.2.2 with
          | some g => (match g k st with
            | some v => some [(k, M, v)]
            | none => none)
          | none => none)
        else bif am_isC i then af_c1 P ih dd y i a b pc k M lv st cxs
        else (match af_sp (am_inf y).2.2.1 i a b pc with
          | some f => (match f P.2.1 k M lv st with
            | some l => ae_cat (fun z => match z with
              | (pc, k, M, lv, st) => ih dd y pc k M lv st cxs) l
            | none => none)
          | none => none)) = _
      cases hx : P.1 with
      | true => rfl
      | false =>
        rw [hx] at e
        rw [e]
        cases hR : am_isR i with
        | true =>
          show (match af_rt i (am_inf y).2.2.2 with
            | some g => (match g k st with
              | some v => some [(k, M, v)]
              | none => none)
            | none => none) = ae_re i (am_inf y).2.2.2 k M st
          exact af_rt_ok
        | false =>
          cases hC : am_isC i with
          | true => exact af_c1_eq P ih dd y i a b pc k M lv st cxs
          | false =>
            show (match af_sp (am_inf y).2.2.1 i a b pc with
              | some f => (match f P.2.1 k M lv st with
                | some l => ae_cat (fun z => match z with
                  | (pc, k, M, lv, st) => ih dd y pc k M lv st cxs) l
                | none => none)
              | none => none) = (ae_sp false P.2.1 (am_inf y).2.2.1 i a b pc k M lv st).bind _
            rw [← af_sp_ok]
            cases af_sp (am_inf y).2.2.1 i a b pc with
            | none => rfl
            | some f =>
              show (match f P.2.1 k M lv st with
                | some l => ae_cat (fun z => match z with
                  | (pc, k, M, lv, st) => ih dd y pc k M lv st cxs) l
                | none => none) = (f P.2.1 k M lv st).bind _
              cases f P.2.1 k M lv st with
              | none => rfl
              | some l => rfl
noncomputable def af_b2 (P : ae_P) (ih : ae_Go) (dd y pc : Nat) (k : ae_K) (M : List ae_M) (lv : ae_L) (st : List ae_V) (cxs : List ae_Cx) : Option (List ae_Ou) :=
  match P.2.2.2.2.2.2.1.filter fun s => Nat.beq s.1 y && Nat.beq s.2.1 pc with
  | [] => af_b1 P ih dd y pc k M lv st cxs
  | s :: r => (ae_sx P.1 st (s :: r) k M).bind (ae_cat fun q => match q with
    | (k, M) => af_b1 P ih dd y pc k M lv st cxs)
theorem af_b2_eq (P : ae_P) (ih : ae_Go) (dd y pc : Nat) (k : ae_K) (M : List ae_M) (lv : ae_L) (st : List ae_V) (cxs : List ae_Cx) : af_b2 P ih dd y pc k M lv st cxs = ae_b2 P ih dd y pc k M lv st cxs := by
  unfold af_b2 ae_b2
  have h : (fun (q : ae_K × List ae_M) => match q with
    | (k, M) => af_b1 P ih dd y pc k M lv st cxs) = fun q => ae_b1 P ih dd y pc q.1 q.2 lv st cxs := funext fun q => af_b1_eq P ih dd y pc q.1 q.2 lv st cxs
  rw [af_b1_eq, h]
  rfl
noncomputable def af_b3 (P : ae_P) (ih : ae_Go) (dd y pc : Nat) (k : ae_K) (M : List ae_M) (lv : ae_L) (st : List ae_V) (cxs : List ae_Cx) : Option (List ae_Ou) :=
  match P.2.2.2.2.1.filter fun m => Nat.beq m.1 y && Nat.beq m.2.1 pc with
  | _ :: _ => ae_b3 P ih dd y pc k M lv st cxs
  | [] => (match P.2.2.2.2.2.1.find? fun c => Nat.beq c.1 y && Nat.beq c.2.1 pc with
    | none => af_b2 P ih dd y pc k M lv st cxs
    | some cu => (match cxs.find? fun c => Nat.beq c.1 pc with
      | some c => bif ae_bkk P.1 c k M lv st then some [] else none
      | none => (match ae_gn P.1 cu.2.2 pc k M lv st with
        | some c => (match ae_gx c with
          | (k, lv, M, _) => af_b2 P ih dd y pc k M lv [] (c :: cxs))
        | none => af_b2 P ih dd y pc k M lv st cxs)))
theorem af_b3_eq (P : ae_P) (ih : ae_Go) (dd y pc : Nat) (k : ae_K) (M : List ae_M) (lv : ae_L) (st : List ae_V) (cxs : List ae_Cx) : af_b3 P ih dd y pc k M lv st cxs = ae_b3 P ih dd y pc k M lv st cxs := by
  unfold af_b3
  cases hm : P.2.2.2.2.1.filter (fun m => Nat.beq m.1 y && Nat.beq m.2.1 pc) with
  | cons _ _ => rfl
  | nil =>
    have h0 : P.2.2.2.2.1.find? (fun m => Nat.beq m.1 y && Nat.beq m.2.1 pc && m.2.2.2.2.1.all (ae_lc k lv)) = none := by
      rw [← af_find_f (f := fun m : ae_Mc => Nat.beq m.1 y && Nat.beq m.2.1 pc) (g := fun m : ae_Mc => m.2.2.2.2.1.all (ae_lc k lv)), hm]
      rfl
    unfold ae_b3
    rw [h0]
    show (match P.2.2.2.2.2.1.find? fun c => Nat.beq c.1 y && Nat.beq c.2.1 pc with
      | none => af_b2 P ih dd y pc k M lv st cxs
      | some cu => (match cxs.find? fun (c : ae_Cx) => Nat.beq c.1 pc with
        | some c => bif ae_bkk P.1 c k M lv st then some [] else none
        | none => (match ae_gn P.1 cu.2.2 pc k M lv st with
          | some c => (match ae_gx c with
            | (k, lv, M, _) => af_b2 P ih dd y pc k M lv [] (c :: cxs))
          | none => af_b2 P ih dd y pc k M lv st cxs))) = (match P.2.2.2.2.2.1.find? fun c => Nat.beq c.1 y && Nat.beq c.2.1 pc with
      | none => ae_b2 P ih dd y pc k M lv st cxs
      | some cu => (match cxs.find? fun (c : ae_Cx) => Nat.beq c.1 pc with
        | some c => bif ae_bkk P.1 c k M lv st then some [] else none
        | none => (match ae_gn P.1 cu.2.2 pc k M lv st with
          | some c => ae_b2 P ih dd y pc (ae_gx c).1 (ae_gx c).2.2.1 (ae_gx c).2.1 [] (c :: cxs)
          | none => ae_b2 P ih dd y pc k M lv st cxs)))
    cases P.2.2.2.2.2.1.find? fun c => Nat.beq c.1 y && Nat.beq c.2.1 pc with
    | none => exact af_b2_eq P ih dd y pc k M lv st cxs
    | some cu =>
      show (match cxs.find? fun (c : ae_Cx) => Nat.beq c.1 pc with
        | some c => bif ae_bkk P.1 c k M lv st then some [] else none
        | none => (match ae_gn P.1 cu.2.2 pc k M lv st with
          | some c => (match ae_gx c with
            | (k, lv, M, _) => af_b2 P ih dd y pc k M lv [] (c :: cxs))
          | none => af_b2 P ih dd y pc k M lv st cxs)) = (match cxs.find? fun (c : ae_Cx) => Nat.beq c.1 pc with
        | some c => bif ae_bkk P.1 c k M lv st then some [] else none
        | none => (match ae_gn P.1 cu.2.2 pc k M lv st with
          | some c => ae_b2 P ih dd y pc (ae_gx c).1 (ae_gx c).2.2.1 (ae_gx c).2.1 [] (c :: cxs)
          | none => ae_b2 P ih dd y pc k M lv st cxs))
      cases cxs.find? fun (c : ae_Cx) => Nat.beq c.1 pc with
      | some c => rfl
      | none =>
        show (match ae_gn P.1 cu.2.2 pc k M lv st with
          | some c => (match ae_gx c with
            | (k, lv, M, _) => af_b2 P ih dd y pc k M lv [] (c :: cxs))
          | none => af_b2 P ih dd y pc k M lv st cxs) = (match ae_gn P.1 cu.2.2 pc k M lv st with
          | some c => ae_b2 P ih dd y pc (ae_gx c).1 (ae_gx c).2.2.1 (ae_gx c).2.1 [] (c :: cxs)
          | none => ae_b2 P ih dd y pc k M lv st cxs)
        cases ae_gn P.1 cu.2.2 pc k M lv st with
        | some c => exact af_b2_eq P ih dd y pc (ae_gx c).1 (ae_gx c).2.2.1 (ae_gx c).2.1 [] (c :: cxs)
        | none => exact af_b2_eq P ih dd y pc k M lv st cxs
noncomputable def af_b4 (P : ae_P) (ih : ae_Go) : ae_Go := fun dd y pc k M lv st cxs => match st with
  | [] => (match P.2.2.2.2.2.2.2.filter fun s => Nat.beq s.2.2.1 y && Nat.beq s.1 pc with
    | [] => af_b3 P ih dd y pc k M lv [] cxs
    | _ :: _ => (match P.2.2.2.2.2.2.2.findSome? (ae_sfx P dd y pc k M lv) with
      | some rs => some (rs.map fun (z : ae_R) => (z.2.1, z.2.2.1, z.2.2.2.2.head?))
      | none => af_b3 P ih dd y pc k M lv [] cxs))
  | v :: r => af_b3 P ih dd y pc k M lv (v :: r) cxs
theorem af_b4_eq (P : ae_P) (ih : ae_Go) (dd y pc : Nat) (k : ae_K) (M : List ae_M) (lv : ae_L) (st : List ae_V) (cxs : List ae_Cx) : af_b4 P ih dd y pc k M lv st cxs = ae_b4 P ih dd y pc k M lv st cxs := by
  unfold af_b4 ae_b4
  cases st with
  | cons v r => exact af_b3_eq P ih dd y pc k M lv (v :: r) cxs
  | nil =>
    show (match P.2.2.2.2.2.2.2.filter fun s => Nat.beq s.2.2.1 y && Nat.beq s.1 pc with
      | [] => af_b3 P ih dd y pc k M lv [] cxs
      | _ :: _ => (match P.2.2.2.2.2.2.2.findSome? (ae_sfx P dd y pc k M lv) with
        | some rs => some (rs.map fun (z : ae_R) => (z.2.1, z.2.2.1, z.2.2.2.2.head?))
        | none => af_b3 P ih dd y pc k M lv [] cxs)) = (match P.2.2.2.2.2.2.2.findSome? (ae_sfx P dd y pc k M lv) with
      | some rs => some (rs.map fun (z : ae_R) => (z.2.1, z.2.2.1, z.2.2.2.2.head?))
      | none => ae_b3 P ih dd y pc k M lv [] cxs)
    rw [af_b3_eq]
    cases hf : P.2.2.2.2.2.2.2.filter (fun s => Nat.beq s.2.2.1 y && Nat.beq s.1 pc) with
    | cons _ _ => rfl
    | nil =>
      have h0 : P.2.2.2.2.2.2.2.findSome? (ae_sfx P dd y pc k M lv) = none := by
        rw [← af_fs_f (f := fun s : Nat × List (Int × Int) × ae_Ct => Nat.beq s.2.2.1 y && Nat.beq s.1 pc) (fun s hs => by
          unfold ae_sfx
          rw [hs]
          rfl), hf]
        rfl
      rw [h0]
noncomputable def af_gs (P : ae_P) (n : Nat) : ae_Go :=
  Nat.rec (motive := fun _ => ae_Go) (fun _ _ _ _ _ _ _ _ => none) (fun _ ih => af_b4 P ih) n
theorem af_gs_eq (P : ae_P) : ∀ n : Nat, af_gs P n = ae_go P n
  | 0 => rfl
  | n + 1 => by
    funext dd y pc k M lv st cxs
    show af_b4 P (af_gs P n) dd y pc k M lv st cxs = ae_b4 P (ae_go P n) dd y pc k M lv st cxs
    rw [af_gs_eq P n]
    exact af_b4_eq P _ dd y pc k M lv st cxs
noncomputable def af_chc (fuel : Nat) (c : ae_Ct) (cts : List ae_Ct) (rc : Option (ae_Ct × Int)) (mcs : List ae_Mc) (cus : List (Nat × Nat × ae_Cu)) (sps : List ae_Sp) (sfs : List (Nat × List (Int × Int) × ae_Ct)) (pc0 : Nat) (pre : List (Int × Int)) : Bool := ae_wok c.2.2.2.2.1 &&
  (match ae_ia c.2.1 ae_k00 with
  | some a => (match ae_wl c.2.2.2.2.2.2.1 c.2.2.2.2.1 a.1 [] with
    | some w => (ae_ask w.1 (ae_prl pre w.2.2)).all fun k1 => (match af_gs (ae_Pc c cts (rc.bind fun q => w.2.2.head?.bind fun e => some (q.1, q.2, e)) mcs cus sps sfs) fuel c.2.2.2.2.2.2.2 c.1 pc0 k1 w.2.1 (ae_ag2 0 a.2) [] [] with
      | some outs => outs.all (ae_fi c w.2.2)
      | none => false)
    | none => false)
  | none => false)
theorem af_kc {fuel : Nat} {c : ae_Ct} {cts : List ae_Ct} {rc : Option (ae_Ct × Int)} {mcs : List ae_Mc} {cus : List (Nat × Nat × ae_Cu)} {sps : List ae_Sp} {sfs : List (Nat × List (Int × Int) × ae_Ct)} {pc0 : Nat} {pre : List (Int × Int)} (q : af_chc fuel c cts rc mcs cus sps sfs pc0 pre = true) : ae_chc fuel c cts rc mcs cus sps sfs pc0 pre = true := by
  unfold af_chc at q
  simp only [af_gs_eq] at q
  exact q
