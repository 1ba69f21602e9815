/-! How a run over places stands for a run of the machine: the script lies at sa, below S; the k-th cell made lies at S + k -/
def am_ad (sa S : Nat) : Nat → Nat
  | 0 => sa
  | k + 1 => S + k
def am_sh (sa S : Nat) : Value → Value
  | .ref k => .ref (am_ad sa S k)
  | .int x => .int x
  | .long x => .long x
  | .float x => .float x
  | .double x => .double x
  | .null => .null
  | .retAddr x => .retAddr x
def am_shQ (sa S : Nat) (f : Nat → Option Nat) : Nat → Option Nat := fun j => (f j).map (am_ad sa S)
def am_shC (sa S : Nat) : ((Nat → Int32) ⊕ (Nat → Int64) ⊕ (Nat → UInt32) ⊕ (Nat → UInt64) ⊕ (Nat → Option Nat)) → ((Nat → Int32) ⊕ (Nat → Int64) ⊕ (Nat → UInt32) ⊕ (Nat → UInt64) ⊕ (Nat → Option Nat))
  | .inl f => .inl f
  | .inr (.inl f) => .inr (.inl f)
  | .inr (.inr (.inl f)) => .inr (.inr (.inl f))
  | .inr (.inr (.inr (.inl f))) => .inr (.inr (.inr (.inl f)))
  | .inr (.inr (.inr (.inr f))) => .inr (.inr (.inr (.inr (am_shQ sa S f))))
def am_shE (sa S : Nat) (cT : Nat → ClassId) : am_E → va_E
  | .inl x => .inl (cT x.1, x.2.1, am_shC sa S x.2.2)
  | .inr o => .inr (o.1, o.2.map (am_sh sa S))
def am_W (sa S : Nat) (cT : Nat → ClassId) (h : List am_E) : va_W := h.mapIdx (fun k e => (S + k, am_shE sa S cT e))
theorem am_W_get (sa S : Nat) (cT : Nat → ClassId) (h : List am_E) (k : Nat) : (am_W sa S cT h)[k]? = (h[k]?).map (fun e => (S + k, am_shE sa S cT e)) := by
  simp [am_W]
theorem am_W_at {sa S : Nat} {cT : Nat → ClassId} {h : List am_E} {k : Nat} {e : am_E} (hk : h[k]? = some e) : (am_W sa S cT h)[k]? = some (S + k, am_shE sa S cT e) := by
  rw [am_W_get, hk]; rfl
theorem am_W_set (sa S : Nat) (cT : Nat → ClassId) (h : List am_E) (k : Nat) (e : am_E) : (am_W sa S cT h).set k (S + k, am_shE sa S cT e) = am_W sa S cT (h.set k e) := by
  apply List.ext_getElem?
  intro j
  rw [am_W_get]
  by_cases hj : k = j
  · subst hj
    by_cases hl : k < h.length
    · rw [List.getElem?_set_self (by simpa [am_W] using hl), List.getElem?_set_self hl]; rfl
    · rw [List.getElem?_eq_none (by simpa [am_W] using hl), List.getElem?_eq_none (by simpa using hl)]; rfl
  · rw [List.getElem?_set_ne hj, List.getElem?_set_ne hj, am_W_get]
theorem am_W_push (sa S : Nat) (cT : Nat → ClassId) (h : List am_E) (e : am_E) : am_W sa S cT h ++ [(S + h.length, am_shE sa S cT e)] = am_W sa S cT (h ++ [e]) := by
  simp [am_W, List.mapIdx_append]
theorem am_W_len (sa S : Nat) (cT : Nat → ClassId) (h : List am_E) : (am_W sa S cT h).length = h.length := by simp [am_W]
theorem am_D (sa S : Nat) (cT : Nat → ClassId) (h : List am_E) : va_D (fun q => S ≤ q) (am_W sa S cT h) := by
  refine ⟨fun i j p q hi hj e => ?_, fun k q hk => ?_⟩
  · rw [am_W_get] at hi hj
    obtain ⟨a, -, rfl⟩ := Option.map_eq_some_iff.mp hi
    obtain ⟨b, -, rfl⟩ := Option.map_eq_some_iff.mp hj
    simp only at e
    omega
  · rw [am_W_get] at hk
    obtain ⟨a, -, rfl⟩ := Option.map_eq_some_iff.mp hk
    exact Nat.le_add_right _ _
theorem am_sh_cat (sa S : Nat) (v : Value) : (am_sh sa S v).category = v.category := by cases v <;> rfl
abbrev am_g (sa S : Nat) : Nat × Value → Nat × Value := fun q => (q.1, am_sh sa S q.2)
theorem am_put1_map (sa S : Nat) (lv : am_L) (i : Nat) (v : Value) : (i, am_sh sa S v) :: (lv.map (am_g sa S)).filter (fun q => !(q.1 == i) && !(q.1 + 1 == i && q.2.category == 2)) = (am_put1 lv i v).map (am_g sa S) := by
  simp only [am_put1, List.map_cons, List.filter_map, List.cons.injEq, true_and]
  congr 1
  apply List.filter_congr
  intro q _
  simp [am_sh_cat]
theorem am_put2_map (sa S : Nat) (lv : am_L) (i : Nat) (v : Value) : (i, am_sh sa S v) :: (lv.map (am_g sa S)).filter (fun q => !(q.1 == i) && (!(q.1 == i + 1) && !(q.1 + 1 == i && q.2.category == 2))) = (am_put2 lv i v).map (am_g sa S) := by
  simp only [am_put2, List.map_cons, List.filter_map, List.cons.injEq, true_and]
  congr 1
  apply List.filter_congr
  intro q _
  simp [am_sh_cat]
theorem am_lk_mem : ∀ {lv : am_L} {i : Nat} {v : Value}, am_lk lv i = some v → (i, v) ∈ lv
  | [], _, _, h => by cases h
  | q :: t, i, v, h => by
    unfold am_lk at h
    cases hb : Nat.beq q.1 i with
    | true =>
      rw [hb] at h
      have e : q.1 = i := Nat.eq_of_beq_eq_true hb
      have e2 : q.2 = v := Option.some.inj h
      subst e; subst e2
      exact List.mem_cons_self
    | false =>
      rw [hb] at h
      exact List.mem_cons_of_mem _ (am_lk_mem h)
theorem am_at_sl {sa S nL i : Nat} {lv : am_L} {ls : Array Slot} {v : Value} (hl : lv_has ls nL (lv.map (am_g sa S))) (h : am_lk lv i = some v) : ls[i]? = some (.val (am_sh sa S v)) :=
  hl.2.2 (i, am_sh sa S v) (List.mem_map.mpr ⟨(i, v), am_lk_mem h, rfl⟩)
theorem am_gi_eq {lv : am_L} {i : Nat} {x : Int32} (h : am_gi lv i = some x) : am_lk lv i = some (.int x) := by
  unfold am_gi am_vi at h
  split at h
  · rename_i z; rw [z]; cases h; rfl
  · cases h
theorem am_gl_eq {lv : am_L} {i : Nat} {x : Int64} (h : am_gl lv i = some x) : am_lk lv i = some (.long x) := by
  unfold am_gl am_vl at h
  split at h
  · rename_i z; rw [z]; cases h; rfl
  · cases h
theorem am_gr_eq {lv : am_L} {i : Nat} {x : Nat} (h : am_gr lv i = some x) : am_lk lv i = some (.ref x) := by
  unfold am_gr am_vr at h
  split at h
  · rename_i z; rw [z]; cases h; rfl
  · cases h
theorem am_pi_eq {st r : List Value} {x : Int32} (h : am_pi st = some (x, r)) : st = .int x :: r := by
  unfold am_pi at h
  split at h
  · cases h; rfl
  · cases h
theorem am_pl_eq {st r : List Value} {x : Int64} (h : am_pl st = some (x, r)) : st = .long x :: r := by
  unfold am_pl at h
  split at h
  · cases h; rfl
  · cases h
theorem am_pr_eq {st r : List Value} {x : Nat} (h : am_pr st = some (x, r)) : st = .ref x :: r := by
  unfold am_pr at h
  split at h
  · cases h; rfl
  · cases h
theorem am_p1_eq {st r : List Value} {v : Value} (h : am_p1 st = some (v, r)) : st = v :: r ∧ v.category = 1 := by
  unfold am_p1 at h
  split at h
  · rename_i w t
    cases hb : Nat.beq w.category 1 with
    | true => rw [hb] at h; cases h; exact ⟨rfl, Nat.eq_of_beq_eq_true hb⟩
    | false => rw [hb] at h; cases h
  · cases h
theorem am_if_eq {α : Type} {b : Bool} {o : Option α} {x : α} (h : am_if b o = some x) : b = true ∧ o = some x := by
  cases b with
  | true => exact ⟨rfl, h⟩
  | false => cases h
theorem am_in_eq {i : Int32} {n : Nat} (h : am_in i n = true) : vp_in i n := by
  unfold am_in at h
  rw [Bool.and_eq_true] at h
  intro q
  rcases q with q | q
  · simp [q] at h
  · have := Nat.blt_eq.mp h.2
    omega
theorem am_ob_eq {h : List am_E} {k ci : Nat} {fs : List Value} (e : am_ob h k ci = some fs) : ∃ j, k = j + 1 ∧ h[j]? = some (.inr (ci, fs)) := by
  unfold am_ob at e
  cases k with
  | zero => simp [am_at] at e
  | succ j =>
    simp only [am_at] at e
    split at e
    · rename_i c fs' hz
      obtain ⟨e1, e2⟩ := am_if_eq e
      have e3 := Nat.eq_of_beq_eq_true e1
      cases e2
      exact ⟨j, rfl, by rw [hz, e3]⟩
    · cases e
theorem am_ai_eq {h : List am_E} {k t n : Nat} {f : Nat → Int32} (e : am_ai h k t = some (n, f)) : ∃ j, k = j + 1 ∧ h[j]? = some (.inl (t, n, .inl f)) := by
  unfold am_ai at e
  cases k with
  | zero => simp [am_at] at e
  | succ j =>
    simp only [am_at] at e
    split at e
    · rename_i c n' f' hz
      obtain ⟨e1, e2⟩ := am_if_eq e
      have e3 := Nat.eq_of_beq_eq_true e1
      cases e2
      exact ⟨j, rfl, by rw [hz, e3]⟩
    · cases e
theorem am_al_eq {h : List am_E} {k n : Nat} {f : Nat → Int64} (e : am_al h k = some (n, f)) : ∃ j, k = j + 1 ∧ h[j]? = some (.inl (2, n, .inr (.inl f))) := by
  unfold am_al at e
  cases k with
  | zero => simp [am_at] at e
  | succ j =>
    simp only [am_at] at e
    split at e
    · rename_i c n' f' hz
      obtain ⟨e1, e2⟩ := am_if_eq e
      have e3 := Nat.eq_of_beq_eq_true e1
      cases e2
      exact ⟨j, rfl, by rw [hz, e3]⟩
    · cases e
theorem am_aq_eq {h : List am_E} {k t n : Nat} {f : Nat → Option Nat} (e : am_aq h k = some (t, n, f)) : ∃ j, k = j + 1 ∧ h[j]? = some (.inl (t, n, .inr (.inr (.inr (.inr f))))) ∧ 3 ≤ t ∧ t < 9 := by
  unfold am_aq at e
  cases k with
  | zero => simp [am_at] at e
  | succ j =>
    simp only [am_at] at e
    split at e
    · rename_i c n' f' hz
      obtain ⟨e1, e2⟩ := am_if_eq e
      cases e2
      rw [Bool.and_eq_true] at e1
      exact ⟨j, rfl, hz, Nat.le_of_ble_eq_true e1.1, Nat.blt_eq.mp e1.2⟩
    · cases e
theorem am_sw_eq {pc t : Nat} {off : Int} (h : am_sw pc off = some t) : (pc : Int) + off = (t : Int) := by
  obtain ⟨h1, h2⟩ := am_if_eq h
  have h3 := of_decide_eq_true h1
  cases h2
  exact (Int.toNat_of_nonneg h3).symm
theorem am_fit_sh {sa S ci k : Nat} {v : Value} (h : am_fit ci k v = true) : narrow (am_ty ci k) (am_sh sa S v) = am_sh sa S v ∧ fits (am_ty ci k) (am_sh sa S v) = true := by
  unfold am_fit at h
  rw [Bool.and_eq_true] at h
  have h1 := of_decide_eq_true h.1
  have h2 := h.2
  generalize am_ty ci k = ty at h1 h2 ⊢
  cases v with
  | ref q =>
    refine ⟨?_, ?_⟩
    · cases ty <;> rfl
    · cases ty <;> first | rfl | (simp [fits] at h2)
  | _ => exact ⟨h1, h2⟩
theorem am_app_len {h h' : List am_E} {ef : am_Ef} (e : am_app h ef = some h') : h.length ≤ h'.length ∧ am_sl h ≤ am_sl h' := by
  unfold am_app at e
  split at e
  · cases e; exact ⟨Nat.le_refl _, Nat.le_refl _⟩
  · rename_i k e1
    obtain ⟨e0, h0, h1⟩ := Option.bind_eq_some_iff.mp e
    cases hb : Nat.beq (am_sz e0) (am_sz e1) with
    | true =>
      rw [hb] at h1
      cases h1
      refine ⟨by simp, ?_⟩
      have hz := Nat.eq_of_beq_eq_true hb
      have hm : (h.set k e1).map am_sz = h.map am_sz := by
        apply List.ext_getElem?
        intro j
        rw [List.getElem?_map, List.getElem?_map]
        by_cases hj : k = j
        · subst hj
          have hl := (List.getElem?_eq_some_iff.mp h0).1
          rw [List.getElem?_set_self hl, h0]
          simp [hz]
        · rw [List.getElem?_set_ne hj]
      unfold am_sl
      rw [hm]
      exact Nat.le_refl _
    | false => rw [hb] at h1; cases h1
  · cases e
    refine ⟨by simp, ?_⟩
    simp [am_sl]
theorem am_app_set {h h' : List am_E} {k : Nat} {e : am_E} (q : am_app h (some (some k, e)) = some h') : h' = h.set k e ∧ h'.length = h.length ∧ am_sl h' = am_sl h := by
  have h0 := q
  unfold am_app at q
  obtain ⟨e0, h1, h2⟩ := Option.bind_eq_some_iff.mp q
  cases hb : Nat.beq (am_sz e0) (am_sz e) with
  | true =>
    rw [hb] at h2
    cases h2
    have hz := Nat.eq_of_beq_eq_true hb
    refine ⟨rfl, by simp, ?_⟩
    have hm : (h.set k e).map am_sz = h.map am_sz := by
      apply List.ext_getElem?
      intro j
      rw [List.getElem?_map, List.getElem?_map]
      by_cases hj : k = j
      · subst hj
        have hl := (List.getElem?_eq_some_iff.mp h1).1
        rw [List.getElem?_set_self hl, h1]
        simp [hz]
      · rw [List.getElem?_set_ne hj]
    unfold am_sl
    rw [hm]
  | false => rw [hb] at h2; cases h2
