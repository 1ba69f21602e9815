/-! THE CLAIM OUT OF ONE WALK OF THE LAW'S BODY. Your part is whole_start (and what it stands on); all else here is the same for every law, but numbers. -/
noncomputable def R_law : String := "LastLayerLaw"
noncomputable def lw_P (b : Addr) (xs : List Int32) (args : Array Value) (s : State) : Prop := args = #[.ref b] ∧ s.IntsAt b xs ∧ xs.length ≤ 3072 ∧ (Jvm.Cond.and given_1 narrow_1).before args s = true
noncomputable def lw_Q (_ : Array Value) (s : State) (o : Outcome) (t : State) : Prop := o = .returned (some (.int 1)) ∧ Framed s o t [] 600000 7302249
noncomputable def lw_Z (below : List Frame) (a : Array Value) (s : State) : State → Prop := fun t => ∃ o, t.status = .running ∧ Ended t below o ∧ lw_Q a s o t
/-- the law's own end, with 1 on the stack, nothing written that was there before, its room as the claim has it -/
theorem lw_ret {p : Program} {l : Launch} {e : Env} {s : State} {m : MethodId} {below : List Frame} {meth : Method} {c : Code} {b : Nat} (hx : p.tables.exec = Jvm.exec) (hb : c.code = code) (hr : meth.sig.returnType = ret) (hlocks : meth.locks = false) {pc : Nat} {H : Heap} {ls : Array Slot} (hdg : decode code pc = .ok (.ireturn, 1)) : W p l e room_1 s m #[Value.ref b] below meth c H [] 600000 7302249 (lw_Z below #[Value.ref b] s) (F0 m pc ls [.int 1]) := by
  intro T hT X
  obtain ⟨fs, hret, hrun, hended, hW, hframe⟩ := X.leave (v := some (.int 1)) (hlocks := hlocks) (fun h => by rw [hr] at h; cases h)
  have hmeth' : T.vm.method? m = some meth := X.method'
  refine ⟨T.setFrames fs, ?_, .returned (some (.int 1)), hrun, hended, rfl, ⟨_, rfl⟩, hW, hframe⟩
  jvm_step X.here [X.here.top, hx, hb, hdg, hmeth', hr, ret, narrow_b1]
  (try refine ⟨rfl, ?_⟩); (try refine ⟨rfl, ?_⟩)
  first | (intro acts; rw [hret _ acts rfl rfl rfl]) | rw [hret _ _ rfl rfl rfl]
  exact Steps.refl _
/-- what holds at the law's entry: the machine, the code, the tables' words (any of lw_tbl by 'hts w (by decide +kernel)'), the script of L ints xs at the cell b, what the Statement gives of the start (any of its parts by flat_of_before) -/
noncomputable def lw_At (p : Program) (s : State) (m : MethodId) (meth : Method) (c : Code) (b L : Nat) (xs : Nat → Int32) : Prop :=
  p.tables.exec = Jvm.exec ∧ c.code = code ∧ meth.sig.returnType = ret ∧ c.maxLocals = 4 ∧ s.vm.findClass R_law = some m.cls ∧ (∀ w ∈ lw_tbl, w.before #[Value.ref b] s = true) ∧ va_X b L xs s s.heap ∧ b < s.heap.size ∧ meth.locks = false ∧ (Jvm.Cond.and given_1 narrow_1).before #[Value.ref b] s = true
theorem am_arrP {s : State} {args : Array Value} {ty : FieldType} (h : (Cond.arrayClass ty).before args s = true) (hne : ∀ cA, s.vm.findClass ("[" ++ ty.toString) = some cA → va_RA s cA ty) : ∃ cA : ClassId, ArrOfT s cA ty ∧ va_RA s cA ty := by
  obtain ⟨cA, kA, comp, h1, h2, h3⟩ := Cond.arrayClass_spec h
  exact ⟨cA, fun n z => ⟨fun k h => (by cases h), kA, h2, comp, h3⟩, hne cA h1⟩
theorem am_arrQ {s : State} {C : String} (h : va_AO C s) : ∃ cA : ClassId, ArrOfT s cA (.object C) ∧ va_RA s cA (.object C) := by
  obtain ⟨comp, cA, kA, h1, h2, h3, h4, h5⟩ := Cond.arrayOver_spec h
  exact ⟨cA, fun n z => ⟨fun k h => (by cases h), kA, h3, comp, h4⟩, kA, comp, h3, h4, h1, h5⟩
theorem am_tables {s : State} {args : Array Value} (hts : ∀ w ∈ lw_tbl, w.before args s = true) : ∃ (dC : Nat → ClassId) (dI : Nat → Nat → Nat) (cT : Nat → ClassId), am_TB dC dI cT s := by
  have hao : ∀ t, 3 ≤ t → t < 9 → va_AO (am_cn (am_tq t)) s := by
    intro t h1 h2
    match t, h1, h2 with
    | 0, h1, _ => exact absurd h1 (by decide)
    | 1, h1, _ => exact absurd h1 (by decide)
    | 2, h1, _ => exact absurd h1 (by decide)
    | 3, _, _ => exact va_AO.of (hts _ am_w_ao3)
    | 4, _, _ => exact va_AO.of (hts _ am_w_ao4)
    | 5, _, _ => exact va_AO.of (hts _ am_w_ao5)
    | 6, _, _ => exact va_AO.of (hts _ am_w_ao6)
    | 7, _, _ => exact va_AO.of (hts _ am_w_ao7)
    | 8, _, _ => exact va_AO.of (hts _ am_w_ao8)
    | n + 9, _, h2 => exact absurd h2 (by omega)
  obtain ⟨c0, i0, k0⟩ := u_known (C := am_cn 0) (T := am_T 0) (N := am_N 0) hts (am_ws_in (by decide)) (hts _ am_w_ins0)
  obtain ⟨c1, i1, k1⟩ := u_known (C := am_cn 1) (T := am_T 1) (N := am_N 1) hts (am_ws_in (by decide)) (hts _ am_w_ins1)
  obtain ⟨c2, i2, k2⟩ := u_known (C := am_cn 2) (T := am_T 2) (N := am_N 2) hts (am_ws_in (by decide)) (hts _ am_w_ins2)
  obtain ⟨c3, i3, k3⟩ := u_known (C := am_cn 3) (T := am_T 3) (N := am_N 3) hts (am_ws_in (by decide)) (hts _ am_w_ins3)
  obtain ⟨c4, i4, k4⟩ := u_known (C := am_cn 4) (T := am_T 4) (N := am_N 4) hts (am_ws_in (by decide)) (hts _ am_w_ins4)
  obtain ⟨c5, i5, k5⟩ := u_known (C := am_cn 5) (T := am_T 5) (N := am_N 5) hts (am_ws_in (by decide)) (hts _ am_w_ins5)
  obtain ⟨c6, i6, k6⟩ := u_known (C := am_cn 6) (T := am_T 6) (N := am_N 6) hts (am_ws_in (by decide)) (hts _ am_w_ins6)
  obtain ⟨c7, i7, k7⟩ := u_known (C := am_cn 7) (T := am_T 7) (N := am_N 7) hts (am_ws_in (by decide)) (hts _ am_w_ins7)
  obtain ⟨c8, i8, k8⟩ := u_known (C := am_cn 8) (T := am_T 8) (N := am_N 8) hts (am_ws_in (by decide)) (hts _ am_w_ins8)
  obtain ⟨c9, i9, k9⟩ := u_known (C := am_cn 9) (T := am_T 9) (N := am_N 9) hts (am_ws_in (by decide)) (hts _ am_w_ins9)
  obtain ⟨c10, i10, k10⟩ := u_known (C := am_cn 10) (T := am_T 10) (N := am_N 10) hts (am_ws_in (by decide)) (hts _ am_w_ins10)
  obtain ⟨c11, i11, k11⟩ := u_known (C := am_cn 11) (T := am_T 11) (N := am_N 11) hts (am_ws_in (by decide)) (hts _ am_w_ins11)
  obtain ⟨c12, i12, k12⟩ := u_known (C := am_cn 12) (T := am_T 12) (N := am_N 12) hts (am_ws_in (by decide)) (hts _ am_w_ins12)
  obtain ⟨t0, a0⟩ := am_arrP (ty := .int) (hts _ am_w_aint) (fun _ h => h)
  obtain ⟨t1, a1⟩ := am_arrP (ty := .byte) (hts _ am_w_abyte) (fun _ h => h)
  obtain ⟨t2, a2⟩ := am_arrP (ty := .long) (hts _ am_w_along) (fun _ h => h)
  obtain ⟨t3, a3⟩ := am_arrQ (hao 3 (by decide) (by decide))
  obtain ⟨t4, a4⟩ := am_arrQ (hao 4 (by decide) (by decide))
  obtain ⟨t5, a5⟩ := am_arrQ (hao 5 (by decide) (by decide))
  obtain ⟨t6, a6⟩ := am_arrQ (hao 6 (by decide) (by decide))
  obtain ⟨t7, a7⟩ := am_arrQ (hao 7 (by decide) (by decide))
  obtain ⟨t8, a8⟩ := am_arrQ (hao 8 (by decide) (by decide))
  refine ⟨fun k => [c0, c1, c2, c3, c4, c5, c6, c7, c8, c9, c10, c11, c12].getD k c0, fun k => [i0, i1, i2, i3, i4, i5, i6, i7, i8, i9, i10, i11, i12].getD k i0, fun k => [t0, t1, t2, t3, t4, t5, t6, t7, t8].getD k t0, ⟨?_, ?_⟩, ?_, hao⟩
  · intro k q hq
    match k, hq with
    | 0, hq => cases hq; exact k0
    | 1, hq => cases hq; exact k1
    | 2, hq => cases hq; exact k2
    | 3, hq => cases hq; exact k3
    | 4, hq => cases hq; exact k4
    | 5, hq => cases hq; exact k5
    | 6, hq => cases hq; exact k6
    | 7, hq => cases hq; exact k7
    | 8, hq => cases hq; exact k8
    | 9, hq => cases hq; exact k9
    | 10, hq => cases hq; exact k10
    | 11, hq => cases hq; exact k11
    | 12, hq => cases hq; exact k12
    | k + 13, hq => simp [vwCl] at hq
  · intro k q hq
    match k, hq with
    | 0, hq => cases hq; exact a0
    | 1, hq => cases hq; exact a1
    | 2, hq => cases hq; exact a2
    | 3, hq => cases hq; exact a3
    | 4, hq => cases hq; exact a4
    | 5, hq => cases hq; exact a5
    | 6, hq => cases hq; exact a6
    | 7, hq => cases hq; exact a7
    | 8, hq => cases hq; exact a8
    | k + 9, hq => simp [am_tys] at hq
  · intro e he h2
    exact va_Nw.of rfl (hts _ ((am_M_ok e he).2.1 h2).1)
/-- the text, out of what the Statement gives -/
abbrev sj_t : Term := .string "LastLayer$Tape" 87
theorem sj_el : ∀ j, j < 163 → (flatC (Jvm.Cond.and given_1 narrow_1))[91 + j]? = some (Cond.eq (.elem (.field sj_t sj_S "value" "[B") (.int (Int32.ofNat j))) (.int ((am_wl.map nI).getD j 0))) := by decide +kernel
theorem sj_gd (j : Nat) : (am_wl.map nI).getD j 0 = nI (am_wl.getD j 0) := by
  rw [List.getD_eq_getElem?_getD, List.getD_eq_getElem?_getD, List.getElem?_map]
  cases am_wl[j]? <;> rfl
theorem sj_world {s : State} {b : Nat} (hts : ∀ w ∈ lw_tbl, w.before #[Value.ref b] s = true) (hgv : (Jvm.Cond.and given_1 narrow_1).before #[Value.ref b] s = true) : ∃ aK aV : Nat, vk_R "LastLayer$Tape" 87 sj_tx aK s ∧ sj_W s.heap.size aK aV s s.heap := by
  have hs := flat_of_before _ hgv
  have hA : ∀ a : Nat, a < s.heap.size → ¬ s.heap.size ≤ a := fun a h => Nat.not_le.mpr h
  have g0 : (Cond.exactly sj_t sj_S).before #[Value.ref b] s = true := hs _ (List.mem_of_getElem? (i := 87) (by decide +kernel))
  have g1 : (Cond.eq (.field sj_t sj_S "coder" "B") (.int 0)).before #[Value.ref b] s = true := hs _ (List.mem_of_getElem? (i := 88) (by decide +kernel))
  have g2 : (Cond.arrayOf (.field sj_t sj_S "value" "[B") .byte).before #[Value.ref b] s = true := hs _ (List.mem_of_getElem? (i := 89) (by decide +kernel))
  have g3 : (Cond.eq (.length (.field sj_t sj_S "value" "[B")) (.int (Int32.ofNat 163))).before #[Value.ref b] s = true := hs _ (List.mem_of_getElem? (i := 90) (by decide +kernel))
  have g4 : (Cond.eq (.static sj_S "COMPACT_STRINGS" "Z") (.int 1)).before #[Value.ref b] s = true := hs _ (List.mem_of_getElem? (i := 4) (by decide +kernel))
  have g5 : (Cond.isRef (.static "jdk/internal/util/Preconditions" "SIOOBE_FORMATTER" "Ljava/util/function/BiFunction;")).before #[Value.ref b] s = true := hs _ (List.mem_of_getElem? (i := 5) (by decide +kernel))
  have e0 : ∀ i : Nat, i < 1 → i = 0 := fun i h => by omega
  obtain ⟨adK, adV, hS, hE⟩ := vk_Sof (args := #[Value.ref b]) (s := s) (N := 1) (tm := fun _ => sj_t) (len := [163]) (byt := [am_wl.map nI]) (A := fun q => s.heap.size ≤ q)
    (fun i hi => by rw [e0 i hi]; decide) (fun _ _ => g0) (fun _ _ => g1) (fun _ _ => g2) (fun i hi => by rw [e0 i hi]; exact g3)
    (fun i hi j hj => by
      rw [e0 i hi] at hj ⊢
      exact hs _ (List.mem_of_getElem? (sj_el j hj)))
    (fun i j hi hj hij => absurd ((e0 i hi).trans (e0 j hj).symm) hij) hA
  obtain ⟨h1, h2, h3, h4⟩ := hS.1 0 Nat.one_pos
  have ef : (fun j => Value.int ((([am_wl.map nI] : List (List Int32)).getD 0 []).getD j 0)) = (fun j => Value.int (nI (am_wl.getD j 0))) := by
    funext j
    show Value.int ((am_wl.map nI).getD j 0) = _
    rw [sj_gd]
  rw [ef] at h4
  exact ⟨adK 0, adV 0, vk_R.of (hts _ sj_w_str) (hE 0 Nat.one_pos), h1, h2, h3, h4, va_Zof (hts _ sj_w_ls38) (hts _ sj_w_iS) (va_eqt g4) hA, va_Zqof (hts _ sj_w_ls1053) (hts _ sj_w_iP) g5 hA⟩
theorem am_top {p : Program} {e : Env} {s : State} {m : MethodId} {below : List Frame} {meth : Method} {c : Code} (l : Launch) {b L : Nat} {xs : Nat → Int32} (C0 : lw_At p s m meth c b L xs) {n : Nat} {h' : List am_E} (hgo : am_go L xs n 700 am_law 0 [(0, .ref 0)] [] [] = some (some (.int 1), h')) (hlen : h'.length ≤ 600000) (hsl : am_sl h' ≤ 7302249) :
    W p l e room_1 s m #[Value.ref b] below meth c s.heap [] 0 0 (lw_Z below #[Value.ref b] s) (entryFrame m ([Value.ref b] : List Value).toArray 4) := by
  obtain ⟨hx, hb, hr, hml, hown, hts, hX, hbl, hlocks, hgv⟩ := C0
  obtain ⟨dC, dI, cT, hTB⟩ := am_tables hts
  have hinf : am_inf am_law = (13, false, 4, 2) := by decide +kernel
  have C : am_Cx p s m #[Value.ref b] meth c am_law b s.heap.size L xs dC dI cT := ⟨hx, hb, by rw [hinf]; exact hml, by rw [hinf]; exact hown, fun w hw => hts w (List.mem_filter.mp hw).1, hTB, ⟨hX, sj_world hts hgv⟩, hbl, Nat.le_refl _, fun h => by rw [hinf] at h; cases h⟩
  have hret : am_RetOK p l e room_1 s m #[Value.ref b] below meth c (lw_Z below #[Value.ref b] s) b s.heap.size dC dI cT am_law 0 0 (some (.int 1)) h' := by
    intro i pc ls H locs cells slots st hi hd hr2 hz2 hP2 hS2 hc2 hs2
    cases i with
    | return_ =>
      cases st with
      | nil => obtain ⟨b1, b2⟩ := am_if_eq hr2; cases b2
      | cons v t =>
        have h9 : (none : Option (Option Value × List am_E)) = some (some (.int 1), h') := hr2
        cases h9
    | ireturn =>
      simp only [am_ret] at hr2
      split at hr2
      · obtain ⟨b1, b2⟩ := am_if_eq hr2
        cases b2
        refine va_forget (fun q hq => hS2.2.2 q hq) ?_
        refine W.widen (k := 600000) (n := 7302249) (by omega) (by omega) ?_
        exact lw_ret hx hb hr hlocks hd
      · cases hr2
    | lreturn =>
      simp only [am_ret] at hr2
      split at hr2
      · obtain ⟨b1, b2⟩ := am_if_eq hr2
        cases b2
      · cases hr2
    | _ => cases hi
  have hl := lv_entry ([.ref b]) (n := 4) (Nat.le_of_ble_eq_true rfl)
  rw [lg_entry_eq]
  exact am_run (l := l) hbl n p e room_1 s m #[Value.ref b] below meth c (lw_Z below #[Value.ref b] s) 700 am_law 0 0 0 [(0, .ref 0)] [] [] (some (.int 1)) h' hgo C (Nat.le_of_ble_eq_true rfl) (Nat.le_of_ble_eq_true rfl) (by show h'.length ≤ 600000 + 0; omega) (by show am_sl h' ≤ 7302249 + 0; omega) hret _ s.heap [] 0 0 (by rw [hinf]; exact hl) rfl (fun k q hq => by simp [am_W] at hq) va_S.rf rfl rfl
