/-! Lists, by their recursor: the kernel unfolds them in few steps -/
theorem ai_bif {b c : Bool} (h : (bif b then c else false) = true) : b = true ∧ c = true := by
  cases b with
  | true => exact ⟨rfl, h⟩
  | false => cases h
noncomputable def ai_all {α : Type} (f : α → Bool) (l : List α) : Bool := List.rec (motive := fun _ => Bool) true (fun h _ r => Bool.rec (motive := fun _ => Bool) false r (f h)) l
theorem ai_all_e {α : Type} (f : α → Bool) : ∀ l : List α, ai_all f l = l.all f
  | [] => rfl
  | h :: r => by
    rw [List.all_cons, ← ai_all_e f r]
    show Bool.rec (motive := fun _ => Bool) false (ai_all f r) (f h) = _
    cases f h <;> rfl
noncomputable def ai_any {α : Type} (f : α → Bool) (l : List α) : Bool := List.rec (motive := fun _ => Bool) false (fun h _ r => Bool.rec (motive := fun _ => Bool) r true (f h)) l
theorem ai_any_e {α : Type} (f : α → Bool) : ∀ l : List α, ai_any f l = l.any f
  | [] => rfl
  | h :: r => by
    rw [List.any_cons, ← ai_any_e f r]
    show Bool.rec (motive := fun _ => Bool) (ai_any f r) true (f h) = _
    cases f h <;> rfl
noncomputable def ai_map {α β : Type} (f : α → β) (l : List α) : List β := List.rec (motive := fun _ => List β) [] (fun h _ r => f h :: r) l
theorem ai_map_e {α β : Type} (f : α → β) : ∀ l : List α, ai_map f l = l.map f
  | [] => rfl
  | h :: r => by
    rw [List.map_cons, ← ai_map_e f r]
    rfl
noncomputable def ai_flt {α : Type} (f : α → Bool) (l : List α) : List α := List.rec (motive := fun _ => List α) [] (fun h _ r => Bool.rec (motive := fun _ => List α) r (h :: r) (f h)) l
theorem ai_flt_e {α : Type} (f : α → Bool) : ∀ l : List α, ai_flt f l = l.filter f
  | [] => rfl
  | h :: r => by
    rw [List.filter_cons, ← ai_flt_e f r]
    show Bool.rec (motive := fun _ => List α) (ai_flt f r) (h :: ai_flt f r) (f h) = _
    cases f h <;> rfl
noncomputable def ai_fm {α β : Type} (f : α → Option β) (l : List α) : List β := List.rec (motive := fun _ => List β) [] (fun h _ r => Option.rec (motive := fun _ => List β) r (fun x => x :: r) (f h)) l
theorem ai_fm_e {α β : Type} (f : α → Option β) : ∀ l : List α, ai_fm f l = l.filterMap f
  | [] => rfl
  | h :: r => by
    rw [List.filterMap_cons, ← ai_fm_e f r]
    show Option.rec (motive := fun _ => List β) (ai_fm f r) (fun x => x :: ai_fm f r) (f h) = _
    cases f h <;> rfl
noncomputable def ai_fnd {α : Type} (f : α → Bool) (l : List α) : Option α := List.rec (motive := fun _ => Option α) none (fun h _ r => Bool.rec (motive := fun _ => Option α) r (some h) (f h)) l
theorem ai_fnd_e {α : Type} (f : α → Bool) : ∀ l : List α, ai_fnd f l = l.find? f
  | [] => rfl
  | h :: r => by
    rw [List.find?_cons, ← ai_fnd_e f r]
    show Bool.rec (motive := fun _ => Option α) (ai_fnd f r) (some h) (f h) = _
    cases f h <;> rfl
noncomputable def ai_app {α : Type} (a b : List α) : List α := List.rec (motive := fun _ => List α) b (fun h _ r => h :: r) a
theorem ai_app_e {α : Type} (b : List α) : ∀ a : List α, ai_app a b = a ++ b
  | [] => rfl
  | h :: r => by
    rw [List.cons_append, ← ai_app_e b r]
    rfl
noncomputable def ai_len {α : Type} (l : List α) : Nat := List.rec (motive := fun _ => Nat) 0 (fun _ _ r => Nat.succ r) l
theorem ai_len_e {α : Type} : ∀ l : List α, ai_len l = l.length
  | [] => rfl
  | _ :: r => by
    rw [List.length_cons, ← ai_len_e r]
    rfl
noncomputable def ai_drp {α : Type} (n : Nat) (l : List α) : List α := Nat.rec (motive := fun _ => List α → List α) (fun l => l) (fun _ ih l => List.rec (motive := fun _ => List α) [] (fun _ r _ => ih r) l) n l
theorem ai_drp_e {α : Type} : ∀ (n : Nat) (l : List α), ai_drp n l = l.drop n
  | 0, _ => rfl
  | _ + 1, [] => rfl
  | n + 1, _ :: r => by
    rw [List.drop_succ_cons, ← ai_drp_e n r]
    rfl
noncomputable def ai_tak {α : Type} (n : Nat) (l : List α) : List α := Nat.rec (motive := fun _ => List α → List α) (fun _ => []) (fun _ ih l => List.rec (motive := fun _ => List α) [] (fun h r _ => h :: ih r) l) n l
theorem ai_tak_e {α : Type} : ∀ (n : Nat) (l : List α), ai_tak n l = l.take n
  | 0, _ => rfl
  | _ + 1, [] => rfl
  | n + 1, h :: r => by
    rw [List.take_succ_cons, ← ai_tak_e n r]
    rfl
noncomputable def ai_rv {α : Type} (l a : List α) : List α := List.rec (motive := fun _ => List α → List α) (fun a => a) (fun h _ ih a => ih (h :: a)) l a
theorem ai_rv_e {α : Type} : ∀ l a : List α, ai_rv l a = l.reverse ++ a
  | [], _ => rfl
  | h :: r, a => by
    show ai_rv r (h :: a) = _
    rw [ai_rv_e r, List.reverse_cons, List.append_assoc]
    rfl
noncomputable def ai_rev {α : Type} (l : List α) : List α := ai_rv l []
theorem ai_rev_e {α : Type} (l : List α) : ai_rev l = l.reverse := by
  unfold ai_rev
  rw [ai_rv_e, List.append_nil]
noncomputable def ai_ble {α : Type} (n : Nat) (l : List α) : Bool := Nat.rec (motive := fun _ => List α → Bool) (fun _ => true) (fun _ ih l => List.rec (motive := fun _ => Bool) false (fun _ r _ => ih r) l) n l
theorem ai_ble_e {α : Type} : ∀ (n : Nat) (l : List α), ai_ble n l = Nat.ble n l.length
  | 0, l => by cases l <;> rfl
  | _ + 1, [] => rfl
  | n + 1, _ :: r => by
    show ai_ble n r = Nat.ble n r.length
    exact ai_ble_e n r
