/-! Which word: what the answer says of the letters -/
noncomputable def aq_nat (w : List Int) : List Nat := w.map Int.toNat
noncomputable def aq_mw (b : Int → Int) (pl : Int) : Int → List Int → Prop
  | a, [] => a = pl
  | a, c :: r => a < pl ∧ b a = c ∧ aq_mw b pl (a + 1) r
noncomputable def aq_let (w : List Int) : Bool := w.all fun c => decide (97 ≤ c) && decide (c ≤ 122)
theorem aq_kwr_w {b : Int → Int} {f pl pw : Int} {r : List Nat} : ∀ (w : List Int) (a : Int) (s : Bool), aq_let w = true →
    (s = true ∧ aq_mw b pl a w → aq_kwr b f pl (aq_nat w ++ 32 :: r) a pw s = pw) ∧ (¬ (s = true ∧ aq_mw b pl a w) → aq_kwr b f pl (aq_nat w ++ 32 :: r) a pw s = aq_kwr b f pl r f (pw + 1) true)
  | [], a, s, _ => by
    have e : aq_kwr b f pl (aq_nat [] ++ 32 :: r) a pw s = (bif s && decide (a = pl) then pw else aq_kwr b f pl r f (pw + 1) true) := rfl
    rw [e]
    refine ⟨fun ⟨h1, h2⟩ => ?_, fun h => ?_⟩
    · have h2 : a = pl := h2
      rw [h1, decide_eq_true h2]; rfl
    · cases hb : s && decide (a = pl) with
      | false => rfl
      | true =>
        rw [Bool.and_eq_true] at hb
        exact absurd (And.intro hb.1 (of_decide_eq_true hb.2)) h
  | c :: w, a, s, hl => by
    unfold aq_let at hl
    rw [List.all_cons, Bool.and_eq_true, Bool.and_eq_true] at hl
    have l1 := of_decide_eq_true hl.1.1
    have l2 := of_decide_eq_true hl.1.2
    have e : aq_kwr b f pl (aq_nat (c :: w) ++ 32 :: r) a pw s = aq_kwr b f pl (aq_nat w ++ 32 :: r) (a + 1) pw (s && decide (a < pl) && decide (b a = ((c.toNat : Nat) : Int))) := by
      show (bif Nat.beq c.toNat 32 then _ else aq_kwr b f pl (aq_nat w ++ 32 :: r) (a + 1) pw (s && decide (a < pl) && decide (b a = ((c.toNat : Nat) : Int)))) = _
      have hb : Nat.beq c.toNat 32 = false := by
        cases h : Nat.beq c.toNat 32 with
        | false => rfl
        | true => have := Nat.eq_of_beq_eq_true h; omega
      rw [hb]; rfl
    have ec : ((c.toNat : Nat) : Int) = c := by omega
    rw [ec] at e
    rw [e]
    have ih := aq_kwr_w (b := b) (f := f) (pl := pl) (pw := pw) (r := r) w (a + 1) (s && decide (a < pl) && decide (b a = c)) hl.2
    refine ⟨fun ⟨h1, h2, h3, h4⟩ => ih.1 ⟨?_, h4⟩, fun h => ih.2 (fun ⟨h1, h2⟩ => h ?_)⟩
    · rw [h1, decide_eq_true h2, decide_eq_true h3]; rfl
    · rw [Bool.and_eq_true, Bool.and_eq_true] at h1
      exact ⟨h1.1.1, of_decide_eq_true h1.1.2, of_decide_eq_true h1.2, h2⟩
noncomputable def aq_ltx (ws : List (List Int)) : List Nat := ws.flatMap fun w => aq_nat w ++ [32]
theorem aq_kwr_ws {b : Int → Int} {f pl : Int} : ∀ (ws : List (List Int)) (pw R : Int), (∀ w ∈ ws, aq_let w = true) → aq_kwr b f pl (aq_ltx ws) f pw true = R →
    (R = -1 ∧ ∀ w ∈ ws, ¬ aq_mw b pl f w) ∨ ∃ (k : Nat) (w : List Int), ws[k]? = some w ∧ aq_mw b pl f w ∧ R = pw + (k : Int)
  | [], pw, R, _, h => Or.inl ⟨h.symm, fun w hw => absurd hw List.not_mem_nil⟩
  | w :: ws, pw, R, hl, h => by
    have e : aq_ltx (w :: ws) = aq_nat w ++ 32 :: aq_ltx ws := by
      show (aq_nat w ++ [32]) ++ aq_ltx ws = _
      rw [List.append_assoc]; rfl
    rw [e] at h
    have k := aq_kwr_w (b := b) (f := f) (pl := pl) (pw := pw) (r := aq_ltx ws) w f true (hl w List.mem_cons_self)
    by_cases hm : aq_mw b pl f w
    · rw [k.1 ⟨rfl, hm⟩] at h
      exact Or.inr ⟨0, w, rfl, hm, by omega⟩
    · rw [k.2 (fun q => hm q.2)] at h
      rcases aq_kwr_ws ws (pw + 1) R (fun w hw => hl w (List.mem_cons_of_mem _ hw)) h with ⟨h1, h2⟩ | ⟨i, w', h1, h2, h3⟩
      · refine Or.inl ⟨h1, fun w' hw' => ?_⟩
        rcases List.mem_cons.mp hw' with rfl | hw'
        · exact hm
        · exact h2 w' hw'
      · exact Or.inr ⟨i + 1, w', h1, h2, by omega⟩
theorem aq_wl_eq : am_wl = aq_ltx aq_kw := by decide +kernel
theorem aq_kw_let : ∀ w ∈ aq_kw, aq_let w = true := by decide +kernel
theorem aq_kw_len : aq_kw.length = 32 ∧ ∀ w ∈ aq_kw, w.length ≤ 7 := by decide +kernel
theorem aq_mw_len {b : Int → Int} {pl : Int} : ∀ {w : List Int} {a : Int}, aq_mw b pl a w → pl = a + (w.length : Int)
  | [], a, h => by
    have h : a = pl := h
    show pl = a + ((0 : Nat) : Int)
    omega
  | c :: w, a, h => by
    have := aq_mw_len h.2.2
    rw [List.length_cons]
    omega
/-- letters that are read one after the other -/
noncomputable def aq_rd (b : Int → Int) : Int → List Int → Prop
  | _, [] => True
  | a, c :: r => b a = c ∧ aq_rd b (a + 1) r
theorem aq_mw_rd {b : Int → Int} {pl : Int} : ∀ {w u : List Int} {a : Int}, aq_mw b pl a w → aq_rd b a u → u.length = w.length → u = w
  | [], [], _, _, _, _ => rfl
  | c :: w, x :: u, a, h, g, e => by
    rw [List.length_cons, List.length_cons] at e
    rw [aq_mw_rd h.2.2 g.2 (by omega), ← h.2.1, ← g.1]
  | [], _ :: _, _, _, _, e => by cases e
  | _ :: _, [], _, _, _, e => by cases e
theorem aq_rd_mw {b : Int → Int} {pl : Int} : ∀ {u : List Int} {a : Int}, aq_rd b a u → pl = a + (u.length : Int) → aq_mw b pl a u
  | [], a, _, e => by
    have e : pl = a + ((0 : Nat) : Int) := e
    show a = pl
    omega
  | x :: u, a, g, e => by
    rw [List.length_cons] at e
    exact ⟨by omega, g.1, aq_rd_mw g.2 (by omega)⟩
theorem aq_code_inj : ∀ {u v : List Int} {a b : Int}, aq_let u = true → aq_let v = true → u.length = v.length → u.foldl (fun a b => a * 32 + (b - 96)) a = v.foldl (fun a b => a * 32 + (b - 96)) b → a = b ∧ u = v
  | [], [], _, _, _, _, _, h => ⟨h, rfl⟩
  | x :: u, y :: v, a, b, hu, hv, e, h => by
    unfold aq_let at hu hv
    rw [List.all_cons, Bool.and_eq_true, Bool.and_eq_true] at hu hv
    have u1 := of_decide_eq_true hu.1.1
    have u2 := of_decide_eq_true hu.1.2
    have v1 := of_decide_eq_true hv.1.1
    have v2 := of_decide_eq_true hv.1.2
    have h : u.foldl (fun a b => a * 32 + (b - 96)) (a * 32 + (x - 96)) = v.foldl (fun a b => a * 32 + (b - 96)) (b * 32 + (y - 96)) := h
    obtain ⟨h1, h2⟩ := aq_code_inj hu.2 hv.2 (by rw [List.length_cons, List.length_cons] at e; omega) h
    have h3 : x = y := by omega
    exact ⟨by omega, by rw [h2, h3]⟩
  | [], _ :: _, _, _, _, _, e, _ => by cases e
  | _ :: _, [], _, _, _, _, e, _ => by cases e
theorem aq_cx_ev (ρ : Nat → Int) : ∀ (es : List ae_X) (a : ae_X), ae_ev ρ (es.foldl (fun a b => ae_add (ae_scl 32 a) (ae_pls b (-96))) a) = (es.map (ae_ev ρ)).foldl (fun a b => a * 32 + (b - 96)) (ae_ev ρ a)
  | [], _ => rfl
  | e :: r, a => by
    show ae_ev ρ (r.foldl _ (ae_add (ae_scl 32 a) (ae_pls e (-96)))) = (r.map (ae_ev ρ)).foldl _ (ae_ev ρ a * 32 + (ae_ev ρ e - 96))
    rw [aq_cx_ev ρ r, ae_add_ev, ae_scl_ev, ae_pls_ev]
    congr 1
    omega
