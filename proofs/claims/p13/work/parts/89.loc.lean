/-! An instruction looks at nothing of the heap but where the references on its stack lead -/
theorem am_lbd {α β : Type} {o : Option α} {f g : α → Option β} (h : ∀ q, o = some q → f q = g q) : o.bind f = o.bind g := by
  cases o with
  | none => rfl
  | some q => exact h q rfl
theorem am_pr_in {st : List Value} {q : Nat × List Value} (h : am_pr st = some q) : Value.ref q.1 ∈ st ∧ ∀ v ∈ q.2, v ∈ st := by
  unfold am_pr at h
  split at h
  · cases h; exact ⟨List.mem_cons_self, fun v hv => List.mem_cons_of_mem _ hv⟩
  · cases h
theorem am_pi_in {st : List Value} {q : Int32 × List Value} (h : am_pi st = some q) : ∀ v ∈ q.2, v ∈ st := by
  unfold am_pi at h
  split at h
  · cases h; exact fun v hv => List.mem_cons_of_mem _ hv
  · cases h
theorem am_pl_in {st : List Value} {q : Int64 × List Value} (h : am_pl st = some q) : ∀ v ∈ q.2, v ∈ st := by
  unfold am_pl at h
  split at h
  · cases h; exact fun v hv => List.mem_cons_of_mem _ hv
  · cases h
section AMZ
variable {h h' : List am_E} {k : Nat}
theorem am_ob_at (e : am_at h k = am_at h' k) (ci : Nat) : am_ob h k ci = am_ob h' k ci := by unfold am_ob; rw [e]
theorem am_ai_at (e : am_at h k = am_at h' k) (t : Nat) : am_ai h k t = am_ai h' k t := by unfold am_ai; rw [e]
theorem am_al_at (e : am_at h k = am_at h' k) : am_al h k = am_al h' k := by unfold am_al; rw [e]
theorem am_aq_at (e : am_at h k = am_at h' k) : am_aq h k = am_aq h' k := by unfold am_aq; rw [e]
end AMZ
theorem am_simple_loc {L : Nat} {xs : Nat → Int32} {own : Nat} {ini : Bool} {nL : Nat} {i : Instr} {a b pc : Nat} {lv : am_L} {st : List Value} {h h' : List am_E} (hl : h.length = h'.length) (hs : ∀ k, Value.ref k ∈ st → am_at h k = am_at h' k) :
    am_simple L xs own ini nL i a b pc lv st h = am_simple L xs own ini nL i a b pc lv st h' := by
  cases i <;> try rfl
  case getfield => exact am_lbd fun q h1 => by rw [am_ob_at (hs _ (am_pr_in h1).1)]
  case putfield =>
    cases st with
    | nil => rfl
    | cons v st => exact am_lbd fun q h1 => by rw [am_ob_at (hs _ (List.mem_cons_of_mem _ (am_pr_in h1).1))]
  case iaload =>
    refine am_lbd fun q h1 => am_lbd fun r h2 => ?_
    have e := hs _ (am_pi_in h1 _ (am_pr_in h2).1)
    obtain ⟨k, r⟩ := r
    cases k with
    | zero => rfl
    | succ k => show ((am_ai h (k + 1) 0).bind _) = _; rw [am_ai_at e]
  case baload => exact am_lbd fun q h1 => am_lbd fun r h2 => by rw [am_ai_at (hs _ (am_pi_in h1 _ (am_pr_in h2).1))]
  case laload => exact am_lbd fun q h1 => am_lbd fun r h2 => by rw [am_al_at (hs _ (am_pi_in h1 _ (am_pr_in h2).1))]
  case aaload => exact am_lbd fun q h1 => am_lbd fun r h2 => by rw [am_aq_at (hs _ (am_pi_in h1 _ (am_pr_in h2).1))]
  case iastore => exact am_lbd fun z h0 => am_lbd fun q h1 => am_lbd fun r h2 => by rw [am_ai_at (hs _ (am_pi_in h0 _ (am_pi_in h1 _ (am_pr_in h2).1)))]
  case bastore => exact am_lbd fun z h0 => am_lbd fun q h1 => am_lbd fun r h2 => by rw [am_ai_at (hs _ (am_pi_in h0 _ (am_pi_in h1 _ (am_pr_in h2).1)))]
  case lastore => exact am_lbd fun z h0 => am_lbd fun q h1 => am_lbd fun r h2 => by rw [am_al_at (hs _ (am_pl_in h0 _ (am_pi_in h1 _ (am_pr_in h2).1)))]
  case aastore =>
    refine am_lbd fun z h0 => am_lbd fun q h1 => am_lbd fun r h2 => ?_
    rw [am_aq_at (hs _ ((am_pr_in h0).2 _ (am_pi_in h1 _ (am_pr_in h2).1)))]
    exact am_lbd fun c _ => by rw [am_ob_at (hs _ (am_pr_in h0).1)]
  case new => show some (pc + 3, lv, Value.ref (h.length + 1) :: st, _) = some (pc + 3, lv, Value.ref (h'.length + 1) :: st, _); rw [hl]
  case newarray => exact am_lbd fun q _ => by rw [hl]
  case anewarray => exact am_lbd fun q _ => by rw [hl]
theorem am_sys_loc {a pc : Nat} {lv : am_L} {st : List Value} {h h' : List am_E} (hs : ∀ k, Value.ref k ∈ st → am_at h k = am_at h' k) : am_sys a pc lv st h = am_sys a pc lv st h' := by
  unfold am_sys
  split <;> try rfl
  refine am_lbd fun n h0 => am_lbd fun dp h1 => am_lbd fun b h2 => am_lbd fun sp h3 => am_lbd fun c h4 => ?_
  have m1 := am_pi_in h1
  have eb := hs _ (am_pi_in h0 _ (m1 _ (am_pr_in h2).1))
  have ec := hs _ (am_pi_in h0 _ (m1 _ ((am_pr_in h2).2 _ (am_pi_in h3 _ (am_pr_in h4).1))))
  rw [am_ai_at ec, am_ai_at eb, am_al_at ec, am_al_at eb]
theorem am_rcv_loc {i : Instr} {a : Nat} {args : List Value} {h h' : List am_E} {own : Nat} (hs : ∀ k, Value.ref k ∈ args → am_at h k = am_at h' k) : am_rcv i a args h own = am_rcv i a args h' own := by
  unfold am_rcv
  split <;> try rfl
  split
  · rw [am_ob_at (hs _ List.mem_cons_self)]
  · rfl
