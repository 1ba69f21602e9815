/-! Cutting tokens: the words; what is known of both threads at once -/
noncomputable def aq_kw : List (List Int) := [[114, 105, 99, 107], [104, 111, 108, 100, 115], [108, 97, 121, 101, 114, 115], [99, 97, 112, 115], [115, 105, 100, 101], [119, 101, 105, 103, 104, 116], [110, 101, 116], [116, 111], [100, 111, 103], [97, 116], [99, 97, 116, 99, 104, 101, 115], [116, 105, 114, 101, 115], [98, 111, 121], [114, 101, 97, 99, 104], [112, 101, 110, 110, 121], [99, 111, 114, 110], [98, 114, 101, 101, 100], [99, 111, 115, 116], [116, 97, 107, 101], [104, 111, 117, 114], [108, 97, 115, 116], [103, 97, 112], [109, 111, 118, 101], [119, 101, 101, 107], [119, 105, 110, 100], [119, 104, 101, 110], [114, 97, 116, 115], [111, 102, 102], [116, 105, 114, 101, 100], [108, 111, 111, 112], [101, 110, 100], [115, 116, 111, 112]]
noncomputable def aq_code (w : List Int) : Int := w.foldl (fun a b => a * 32 + (b - 96)) 0
/-- letters as expressions, five bits each -/
noncomputable def aq_cx (w : List ae_X) : ae_X := w.foldl (fun a b => ae_add (ae_scl 32 a) (ae_pls b (-96))) (ae_num 0)
noncomputable def aq_eqs : List ae_X → List Int → List ae_X
  | e :: r, c :: s => ae_pls e (-c) :: ae_neg e c :: aq_eqs r s
  | _, _ => []
noncomputable def aq_pop (v : Int) (fs : List ap_F) : ap_T := ap_pop (some (0, 0, ae_num v)) fs
/-- a byte of the class's is the reference's, too -/
noncomputable def aq_mir (z : ap_St) : Option (List ap_St) := match z.t2.1 with
  | f :: _ => (match f.2.2.2.2 with
    | i :: _ => bif Nat.beq i.1 0 && ae_rg z.k i.2.2 0 899 then
        (match ae_fd z.m 223 (ae_nr z.k i.2.2) with
          | some _ => some [z]
          | none => (ae_ld true z.k z.m 4 i.2.2).bind fun q => some [⟨q.1, z.cl, (223, ae_nr z.k i.2.2, q.2.2, false) :: q.2.1, z.t1, z.t2⟩])
        else none
    | [] => none)
  | [] => none
noncomputable def aq_bys (k : ae_K) (M : List ae_M) (f : ae_X) : Nat → Option (List ae_X)
  | 0 => some []
  | n + 1 => (M.find? fun m => Nat.beq m.1 4 && ae_rg k (ae_sub m.2.1 (ae_pls f (n : Int))) 0 0).bind fun m => bif Nat.beq m.2.2.1.1 0 && ae_rg k m.2.2.1.2.2 97 122 then (aq_bys k M f n).bind fun l => some (l ++ [m.2.2.1.2.2]) else none
/-- which word it is, by the call's end -/
noncomputable def aq_wd (z : ap_St) : Option (List ap_St) := match z.t1.1 with
  | f :: fs => (match f.2.2.2.2 with
    | [a, r] => (match ae_fd z.m 3 (ae_num 7), ae_fd z.m 3 (ae_num 6) with
      | some mp, some mn => bif Nat.beq f.2.1 55 && Nat.beq f.2.2.1 69 && z.m.all (fun m => !m.2.2.2) && Nat.beq a.1 0 && Nat.beq r.1 2 && Nat.beq r.2.1 3 && Nat.ble 4 f.1 && Nat.beq mp.2.2.1.1 0 && Nat.beq mn.2.2.1.1 0 && ae_z z.k (ae_neg a.2.2 0) && ae_z z.k (ae_sub mp.2.2.1.2.2 mn.2.2.1.2.2) && ae_z z.k (ae_pls mn.2.2.1.2.2 (-900)) then
          (let d := ae_nr z.k (ae_sub mp.2.2.1.2.2 a.2.2)
           let nx (v : Int) : ap_T := ((f.1, f.2.1, f.2.2.1 + 3, f.2.2.2.1, [(0, 0, ae_num v)]) :: fs, none)
           bif ae_z z.k (ae_neg d 9) then some [⟨z.k, z.cl, z.m, nx (-1), z.t2⟩]
           else bif ae_kc d && ae_le 1 d.1 && ae_le d.1 8 then (aq_bys z.k z.m a.2.2 d.1.toNat).bind fun bs =>
             some (((List.range 32).flatMap fun w => bif Nat.beq (aq_kw.getD w []).length d.1.toNat then (ae_ask z.k (aq_eqs bs (aq_kw.getD w []))).map fun k' => ⟨k', z.cl, z.m, nx (w : Int), z.t2⟩ else [])
               ++ [⟨z.k, (aq_kw.filter fun w => Nat.beq w.length d.1.toNat).map (fun w => [ae_pls (aq_cx bs) (1 - aq_code w), ae_neg (aq_cx bs) (aq_code w + 1)]) ++ z.cl, z.m, nx (-1), z.t2⟩])
           else none)
          else none
      | _, _ => none)
    | _ => none)
  | [] => none
noncomputable def aq_top (t : ap_T) (y pc : Nat) : Bool := match t.1 with
  | f :: _ => Nat.beq f.2.1 y && Nat.beq f.2.2.1 pc
  | [] => false
noncomputable def aq_hf (f1 _ : Bool) (z : ap_St) : Bool := (f1 && aq_top z.t1 55 69) || aq_top z.t2 215 13
noncomputable def aq_hk (z : ap_St) : Option (List ap_St) := bif aq_top z.t1 55 69 then aq_wd z else aq_mir z
