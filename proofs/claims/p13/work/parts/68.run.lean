theorem am_nolaw_all : am_M.all (fun e => !(Nat.beq e.2.2.1 am_law)) = true := by decide +kernel
theorem am_nolaw {own ix k b : Nat} (h : am_hM own ix am_law k b = true) : False := by
  obtain ⟨e, he, h1⟩ := List.any_eq_true.mp h
  simp only [Bool.and_eq_true] at h1
  have h2 := List.all_eq_true.mp am_nolaw_all e he
  rw [h1.1.1.2] at h2
  cases h2
/-- a method's end, as its caller wants it -/
noncomputable def am_RetOK (p : Program) (l : Launch) (e : Env) (R : Room) (s : State) (m : MethodId) (args : Array Value) (below : List Frame) (meth : Method) (c : Code) (Q : State → Prop) (sa S : Nat) (dC : Nat → ClassId) (dI : Nat → Nat → Nat) (cT : Nat → ClassId) (y c0 s0 : Nat) (r : Option Value) (h' : List am_E) : Prop :=
  ∀ (i : Instr) (pc : Nat) (ls : Array Slot) (H : Heap) (locs : List Loc) (cells slots : Nat) (st : List Value), am_isR i = true → decode (am_bc y) pc = .ok (i, 1) → am_ret i (am_inf y).2.2.2 st h' = some (r, h') → H.size = S + h'.length → va_P (dC, dI) vwCl (am_W sa S cT h') H → va_S (fun q => S ≤ q) s.heap H locs → cells + c0 = h'.length → slots + s0 = am_sl h' →
    W p l e R s m args below meth c H locs cells slots Q (F0 m pc ls (st.map (am_sh sa S)))
noncomputable def am_Run (l : Launch) (sa S L : Nat) (xs : Nat → Int32) (dC : Nat → ClassId) (dI : Nat → Nat → Nat) (cT : Nat → ClassId) (n : Nat) : Prop :=
  ∀ (p : Program) (e : Env) (R : Room) (s : State) (m : MethodId) (args : Array Value) (below : List Frame) (meth : Method) (c : Code) (Q : State → Prop) (d y pc c0 s0 : Nat) (lv : am_L) (st : List Value) (h : List am_E) (r : Option Value) (h' : List am_E), am_go L xs n d y pc lv st h = some (r, h') → am_Cx p s m args meth c y sa S L xs dC dI cT → d + 4 ≤ R.frames → 100 * d + 400 ≤ R.locals → h'.length ≤ R.cells + c0 → am_sl h' ≤ R.slots + s0 →
    am_RetOK p l e R s m args below meth c Q sa S dC dI cT y c0 s0 r h' → am_K p l e R s m args below meth c Q sa S dC dI cT y c0 s0 pc lv st h
section AU
variable {l : Launch} {sa S L : Nat} {xs : Nat → Int32} {dC : Nat → ClassId} {dI : Nat → Nat → Nat} {cT : Nat → ClassId}
theorem am_met_of (hsS : sa < S) {n : Nat} (hrun : am_Run l sa S L xs dC dI cT n) {d y : Nat} {vs : List Value} {h : List am_E} {r : Option Value} {h' : List am_E} (hy : y < am_nM) (hyl : y ≠ am_law) (hv : am_cats vs ≤ (am_inf y).2.2.1) (hgo : am_go L xs n d y 0 (lv_args 0 vs) [] h = some (r, h')) :
    Met l (am_nm y) (am_ws y) (am_rm d (h'.length - h.length) (am_sl h' - am_sl h)) (am_Pr sa S L xs dC dI cT vs h) (am_Po sa S dC dI cT r h') (h'.length - h.length) (am_sl h' - am_sl h) (fun q => S ≤ q) := by
  rcases am_P_ok hy with hp | hp
  · exact absurd hp hyl
  obtain ⟨p1, p2, p3, p4, p5, p6, p7, p8, p9⟩ := hp
  have hmono := am_go_mono _ _ _ _ _ _ _ _ _ _ _ hgo
  refine Met.ofW (cc := am_bc y) (maxL := (am_inf y).2.2.1) (ret := am_rt y) p2 rfl ?_
  intro p e s m args below meth c s₁ B hml hv0
  obtain ⟨rfl, hz, hP, hTB, hX⟩ := hv0
  have hts := atoms_spec (ws := am_ws y) B.pre
  have hown : s.vm.findClass (am_cn (am_inf y).1) = some m.cls := by rw [← p1]; exact findClass_of_methodNamed B.named
  have C : am_Cx p s m (vs.map (am_sh sa S)).toArray meth c y sa S L xs dC dI cT := ⟨B.exec, B.bytes, hml, hown, fun w hw => hts w (List.mem_cons_of_mem _ hw), hTB, hX, hsS, by rw [hz]; exact Nat.le_add_right _ _, fun hi => (name_of_methodNamed B.named B.method).1.trans (p6 hi)⟩
  have hl := lv_entry (vs.map (am_sh sa S)) (n := (am_inf y).2.2.1) (by rw [am_lg_len, am_cats_map]; exact hv)
  rw [lg_entry_eq]
  rw [am_args_map] at hl
  have hret : am_RetOK p l e (headSpec (am_ws y) (am_rm d (h'.length - h.length) (am_sl h' - am_sl h))).room s m (vs.map (am_sh sa S)).toArray below meth c (MQ below (am_Po sa S dC dI cT r h') (vs.map (am_sh sa S)).toArray s (h'.length - h.length) (am_sl h' - am_sl h) (fun q => S ≤ q)) sa S dC dI cT y h.length (am_sl h) r h' := by
    intro i pc ls H locs cells slots st hi hd hr hz2 hP2 hS2 hc2 hs2
    obtain rfl : cells = h'.length - h.length := by omega
    obtain rfl : slots = am_sl h' - am_sl h := by omega
    have hfree : ∀ q ∈ locs, S ≤ q.base := fun q hq => hS2.2.2 q hq
    cases i with
    | return_ =>
      cases st with
      | nil =>
        obtain ⟨b1, b2⟩ := am_if_eq hr
        cases b2
        have hrt : am_rt y = none := by unfold am_rt; rw [Nat.eq_of_beq_eq_true b1]; rfl
        exact W.vret B.exec B.bytes (B.returns.trans hrt) (fun t ht hW => ⟨rfl, ⟨by rw [ht]; exact hz2, by rw [ht]; exact hP2⟩, hS2.F ht⟩) hfree hd (hlocks := B.notSynchronized)
      | cons v t =>
        have h9 : (none : Option (Option Value × List am_E)) = some (r, h') := hr
        cases h9
    | ireturn =>
      simp only [am_ret] at hr
      split at hr
      · rename_i v
        obtain ⟨b1, b2⟩ := am_if_eq hr
        cases b2
        rw [Bool.or_eq_true] at b1
        rcases b1 with b1 | b1
        · have hrt : am_rt y = some .int := by unfold am_rt; rw [Nat.eq_of_beq_eq_true b1]; rfl
          exact W.zret B.exec B.bytes (B.returns.trans hrt) rfl (fun t ht hW => ⟨rfl, ⟨by rw [ht]; exact hz2, by rw [ht]; exact hP2⟩, hS2.F ht⟩) hfree hd (hlocks := B.notSynchronized)
        · rw [Bool.and_eq_true] at b1
          have hrt : am_rt y = some .boolean := by unfold am_rt; rw [Nat.eq_of_beq_eq_true b1.1]; rfl
          have hn : narrow .boolean (.int v) = .int v := by
            show Value.int (v &&& 1) = .int v
            rw [of_decide_eq_true b1.2]
          exact W.zret B.exec B.bytes (B.returns.trans hrt) hn (fun t ht hW => ⟨rfl, ⟨by rw [ht]; exact hz2, by rw [ht]; exact hP2⟩, hS2.F ht⟩) hfree hd (hlocks := B.notSynchronized)
      · cases hr
    | lreturn =>
      simp only [am_ret] at hr
      split at hr
      · obtain ⟨b1, b2⟩ := am_if_eq hr
        cases b2
        have hrt : am_rt y = some .long := by unfold am_rt; rw [Nat.eq_of_beq_eq_true b1]; rfl
        exact W.lret B.exec B.bytes (B.returns.trans hrt) (fun t ht hW => ⟨rfl, ⟨by rw [ht]; exact hz2, by rw [ht]; exact hP2⟩, hS2.F ht⟩) hfree hd (hlocks := B.notSynchronized)
      · cases hr
    | _ => cases hi
  exact hrun p e _ s m _ below meth c _ d y 0 h.length (am_sl h) (lv_args 0 vs) [] h r h' hgo C (Nat.le_refl _) (Nat.le_refl _) (by show h'.length ≤ (h'.length - h.length) + h.length; omega) (by show am_sl h' ≤ (am_sl h' - am_sl h) + am_sl h; omega) hret _ s.heap [] 0 0 hl hz hP va_S.rf (Nat.zero_add _) (Nat.zero_add _)
set_option maxHeartbeats 4000000 in
theorem am_run (hsS : sa < S) : ∀ n : Nat, am_Run l sa S L xs dC dI cT n := by
  intro n
  induction n with
  | zero => intro p e R s m args below meth c Q d y pc c0 s0 lv st h r h' hgo; cases hgo
  | succ n ih =>
    intro p e R s m args below meth c Q d y pc c0 s0 lv st h r h' hgo C hf hlo hR1 hR2 hret
    have hm0 := am_go_mono _ _ _ _ _ _ _ _ _ _ _ hgo
    rw [am_go_succ] at hgo
    obtain ⟨⟨i, a, b⟩, hc, hgo⟩ := am_bd hgo
    obtain ⟨hy, hdg, hck, hck3⟩ := am_code_spec hc
    have go : ∀ {z : am_R4} {h2 : List am_E}, am_app h z.2.2.2 = some h2 → am_go L xs n d y z.1 z.2.1 z.2.2.1 h2 = some (r, h') → ∀ h3, am_app h z.2.2.2 = some h3 → am_K p l e R s m args below meth c Q sa S dC dI cT y c0 s0 z.1 z.2.1 z.2.2.1 h3 := by
      intro z h2 e2 hg h3 e3
      obtain rfl : h2 = h3 := Option.some.inj (e2.symm.trans e3)
      exact ih p e R s m args below meth c Q d y z.1 c0 s0 z.2.1 z.2.2.1 h2 r h' hg C hf hlo hR1 hR2 hret
    cases hR : am_isR i with
    | true =>
      have hg : am_ret i (am_inf y).2.2.2 st h = some (r, h') := by simpa [hR] using hgo
      obtain rfl := am_ret_h hg
      rw [am_len_R hR] at hdg
      intro ls H locs cells slots hl hz hP hS hcc hss
      exact hret i pc ls H locs cells slots st hR hdg hg hz hP hS hcc hss
    | false =>
      cases hC : am_isC i with
      | false =>
        have hg : (am_simple L xs (am_inf y).1 (am_inf y).2.1 (am_inf y).2.2.1 i a b pc lv st h).bind (fun z => (am_app h z.2.2.2).bind fun h' => am_go L xs n d y z.1 z.2.1 z.2.2.1 h') = some (r, h') := by simpa [hR, hC] using hgo
        obtain ⟨z, hz1, hg⟩ := am_bd hg
        obtain ⟨h2, hz2, hg⟩ := am_bd hg
        refine am_simple_ok hck3 (by omega) (by omega) C hdg hck hz1 (fun h3 e3 => ?_) (go hz2 hg)
        obtain rfl : h2 = h3 := Option.some.inj (hz2.symm.trans e3)
        have h5 := am_go_mono _ _ _ _ _ _ _ _ _ _ _ hg
        exact ⟨by omega, by omega⟩
      | true =>
        have hg : am_inv (am_go L xs n) d y i a b pc lv st h = some (r, h') := by simpa [hR, hC] using hgo
        unfold am_inv at hg
        cases hs : Nat.ble 1000 a with
        | true =>
          rw [hs] at hg
          have h1000 := Nat.le_of_ble_eq_true hs
          obtain ⟨z, hz1, hg⟩ := am_bd hg
          obtain ⟨hb, hz1⟩ := am_if_eq hz1
          obtain ⟨h2, hz2, hg⟩ := am_bd hg
          rw [Bool.and_eq_true] at hb
          have hd1 := Nat.le_of_ble_eq_true hb.1
          have hcat := Nat.le_of_ble_eq_true hb.2
          rw [am_len_C hC] at hdg
          have kgo := go hz2 hg
          have hnm : am_nM = 355 := rfl
          cases i with
          | invokevirtual ix =>
            obtain ⟨p0, he, hpm, hkk⟩ := am_hM_spec hck
            have := (hpm.1 (Or.inl rfl)).2
            have : a < am_nM := this
            omega
          | invokespecial ix =>
            simp only [am_chk2, Bool.or_eq_true, Bool.and_eq_true] at hck
            rcases hck with (hck | hck) | hck
            · obtain ⟨p0, he, hpm, hkk⟩ := am_hM_spec hck
              have : a < am_nM := (hpm.1 (Or.inr (Or.inl rfl))).2
              omega
            · obtain ⟨p0, he, hpm, hkk⟩ := am_hM_spec hck
              have : a < am_nM := (hpm.2.1 rfl).2
              omega
            · obtain rfl : a = 1000 := Nat.eq_of_beq_eq_true hck.2
              obtain ⟨p0, he, hpm, hkk⟩ := am_hM_spec hck.1
              have hw : Cond.methodLink (am_cn (am_inf y).1) ix objectInit ∈ lw_tbl := (hpm.2.2 rfl).1 rfl
              exact ao_oinit C hdg hw (by omega) (by omega) hcat hz1 kgo
          | invokestatic ix =>
            simp only [am_chk2, Bool.or_eq_true, Bool.and_eq_true] at hck
            rcases hck with hck | hck
            · obtain ⟨p0, he, hpm, hkk⟩ := am_hM_spec hck
              have : a < am_nM := (hpm.1 (Or.inr (Or.inr rfl))).2
              omega
            · obtain ⟨p0, he, hpm, hkk⟩ := am_hM_spec hck.1
              have h9 := hpm.2.2 rfl
              by_cases q1 : a = 1001
              · subst q1
                exact ao_min C hdg (h9.2.1 rfl) (by omega) (by omega) hcat ⟨by omega, by omega⟩ hz1 kgo
              · by_cases q4 : a = 1004
                · subst q4
                  exact ao_copy C hdg (h9.2.2.2.2 rfl) (by omega) (by omega) hcat hz1 kgo
                · by_cases q2 : a = 1002
                  · subst q2
                    exact ao_max C hdg (h9.2.2.1 rfl) (by omega) (by omega) hcat ⟨by omega, by omega⟩ hz1 kgo
                  · by_cases q3 : a = 1003
                    · subst q3
                      exact ao_abs C hdg (h9.2.2.2.1 rfl) (by omega) (by omega) hcat ⟨by omega, by omega⟩ hz1 kgo
                    · have hq := Nat.le_of_ble_eq_true hck.2
                      unfold am_sys at hz1
                      split at hz1
                      · omega
                      · exact absurd rfl q4
                      · exact absurd rfl q2
                      · exact absurd rfl q3
                      · exact absurd rfl q1
                      · cases hz1
          | _ => cases hC
        | false =>
          rw [hs] at hg
          cases d with
          | zero => cases hg
          | succ d =>
            obtain ⟨hb, hg⟩ := am_if_eq hg
            obtain ⟨⟨r1, h1⟩, hg1, hg⟩ := am_bd hg
            simp only [Bool.and_eq_true] at hb
            obtain ⟨⟨⟨b1, b2⟩, b3⟩, b4⟩ := hb
            have hm1 := am_go_mono _ _ _ _ _ _ _ _ _ _ _ hg1
            have hm2 : h1.length ≤ h'.length ∧ am_sl h1 ≤ am_sl h' := am_go_mono _ _ _ _ _ _ _ _ _ _ _ hg
            have hlt : ¬ 1000 ≤ a := fun q => by rw [Nat.ble_eq_true_of_le q] at hs; cases hs
            have hya : a < am_nM := by
              have hnm : am_nM = 355 := rfl
              cases i with
              | invokevirtual ix =>
                obtain ⟨p0, he, hpm, hkk⟩ := am_hM_spec hck
                exact (hpm.1 (Or.inl rfl)).2
              | invokespecial ix =>
                simp only [am_chk2, Bool.or_eq_true, Bool.and_eq_true] at hck
                rcases hck with (hck | hck) | hck
                · obtain ⟨p0, he, hpm, hkk⟩ := am_hM_spec hck
                  exact (hpm.1 (Or.inr (Or.inl rfl))).2
                · obtain ⟨p0, he, hpm, hkk⟩ := am_hM_spec hck
                  exact (hpm.2.1 rfl).2
                · have := Nat.eq_of_beq_eq_true hck.2
                  omega
              | invokestatic ix =>
                simp only [am_chk2, Bool.or_eq_true, Bool.and_eq_true] at hck
                rcases hck with hck | hck
                · obtain ⟨p0, he, hpm, hkk⟩ := am_hM_spec hck
                  exact (hpm.1 (Or.inr (Or.inr rfl))).2
                · have := Nat.le_of_ble_eq_true hck.2
                  omega
              | _ => cases hC
            by_cases hal : a = am_law
            · subst hal
              exact absurd hck (by
                have : ∀ i, am_isC i = true → am_chk2 (am_inf y).1 pc i am_law b = true → False := by
                  intro i hi hk
                  cases i with
                  | invokevirtual ix => exact am_nolaw hk
                  | invokespecial ix =>
                    simp only [am_chk2, Bool.or_eq_true, Bool.and_eq_true] at hk
                    rcases hk with (hk | hk) | hk
                    · exact am_nolaw hk
                    · exact am_nolaw hk
                    · exact am_nolaw hk.1
                  | invokestatic ix =>
                    simp only [am_chk2, Bool.or_eq_true, Bool.and_eq_true] at hk
                    rcases hk with hk | hk
                    · exact am_nolaw hk
                    · exact am_nolaw hk.1
                  | _ => cases hi
                exact fun hk => this i hC hk)
            · exact am_call_ok C hdg hck hC hs hf hlo (Nat.le_of_ble_eq_true b1) (Nat.le_of_ble_eq_true b2) b3 (am_met_of hsS ih hya hal (by rw [am_cats_rev]; exact Nat.le_of_ble_eq_true b4) hg1) hal hm1 (by omega) (by omega)
                (ih p e R s m args below meth c Q (d + 1) y (pc + 3) c0 s0 lv (r1.toList ++ st.drop (am_pop i b)) h1 r h' hg C hf hlo hR1 hR2 hret)
end AU
