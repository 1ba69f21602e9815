/-! The class's one text, and what the machine's own String does with it -/
theorem sj_good {l : List Cond} (h : ∀ w ∈ l, w ∈ am_G) : GoodIn am_G l := fun w hw => ⟨h w hw, good_of_word (List.mem_filter.mp (h w hw)).2⟩
noncomputable def sj_tx : String := "rick holds layers caps side weight net to dog at catches tires boy reach penny corn breed cost take hour last gap move week wind when rats off tired loop end stop "
abbrev sj_S : String := "java/lang/String"
/-- the text's object and its bytes, below all that may change -/
noncomputable def sj_W (S aK aV : Nat) (U : State) (H : Heap) : Prop :=
  va_O sj_S aK (fun q => S ≤ q) U H ∧ va_OF sj_S "coder" "B" (.int 0) aK (fun q => S ≤ q) U H ∧ va_OF sj_S "value" "[B" (.ref aV) aK (fun q => S ≤ q) U H ∧ va_T .byte aV 163 (fun j => .int (nI (am_wl.getD j 0))) (fun q => S ≤ q) U H ∧
  va_Z sj_S "COMPACT_STRINGS" "Z" (.int 1) (fun q => S ≤ q) U H ∧ va_Zq "jdk/internal/util/Preconditions" "SIOOBE_FORMATTER" "Ljava/util/function/BiFunction;" (fun q => S ≤ q) U H
theorem sj_W.moved {S aK aV : Nat} {u U : State} {H : Heap} (hvm : u.vm.Alike U.vm) (h : sj_W S aK aV u H) : sj_W S aK aV U H :=
  ⟨va_O.moved hvm h.1, va_OF.moved hvm h.2.1, va_OF.moved hvm h.2.2.1, va_T.moved hvm h.2.2.2.1, va_Z.moved hvm h.2.2.2.2.1, va_Zq.moved hvm h.2.2.2.2.2⟩
theorem sj_W.kept {S aK aV : Nat} {U : State} {H H1 : Heap} (h : sj_W S aK aV U H) (hq : ∀ a : Nat, a < H.size → ¬ S ≤ a → H1[a]? = H[a]?) : sj_W S aK aV U H1 :=
  ⟨va_O.kept h.1 hq, va_OF.kept h.2.1 hq, va_OF.kept h.2.2.1 hq, va_T.kept h.2.2.2.1 hq, va_Z.kept h.2.2.2.2.1 hq, va_Zq.kept h.2.2.2.2.2 hq⟩
noncomputable abbrev sj_ws (y : MethodName) (bytes : ByteArray) (n : Nat) (r : Option FieldType) : List Cond := Cond.code y bytes n r :: am_G
noncomputable def sj_P (S aK aV : Nat) (av : List Value) : Array Value → State → Prop := fun v U => v = av.toArray ∧ sj_W S aK aV U U.heap
theorem sj_blind (S aK aV : Nat) (av : List Value) : FrameBlind (sj_P S aK aV av) := by
  intro a U g mk q
  exact ⟨q.1, sj_W.moved (u := U) (U := U.calling g mk a) (Vm.Alike.refl U.vm) q.2⟩
theorem sj_pre {S aK aV : Nat} {av : List Value} {s : State} (h : sj_W S aK aV s s.heap) : ∀ U : State, U.heap = s.heap → s.WarmedH U.vm → sj_P S aK aV av av.toArray U := fun U hU hW => ⟨rfl, by rw [hU]; exact sj_W.moved hW.alike h⟩
noncomputable def sj_rm (d : Nat) : Room := { frames := d, cells := 0, slots := 0, locals := 40 * d }

noncomputable def sj_y_coder : MethodName := ⟨"java/lang/String", "coder", "()B"⟩
theorem sj_c_coder : Cond.code sj_y_coder prog_17_method_152_code 1 (some .byte) ∈ lw_tbl := am_t3 230 rfl
noncomputable def sj_y_length : MethodName := ⟨"java/lang/String", "length", "()I"⟩
theorem sj_c_length : Cond.code sj_y_length prog_17_method_54_code 1 (some .int) ∈ lw_tbl := am_t3 226 rfl
noncomputable def sj_y_isLatin1 : MethodName := ⟨"java/lang/String", "isLatin1", "()Z"⟩
theorem sj_c_isLatin1 : Cond.code sj_y_isLatin1 prog_17_method_154_code 1 (some .boolean) ∈ lw_tbl := am_t4 0 rfl
noncomputable def sj_y_charAt : MethodName := ⟨"java/lang/String", "charAt", "(I)C"⟩
theorem sj_c_charAt : Cond.code sj_y_charAt prog_17_method_56_code 2 (some .char) ∈ lw_tbl := am_t3 236 rfl
noncomputable def sj_y_lchar : MethodName := ⟨"java/lang/StringLatin1", "charAt", "([BI)C"⟩
theorem sj_c_lchar : Cond.code sj_y_lchar prog_18_method_2_code 2 (some .char) ∈ lw_tbl := am_t4 3 rfl
noncomputable def sj_y_scheck : MethodName := ⟨"java/lang/String", "checkIndex", "(II)V"⟩
theorem sj_c_scheck : Cond.code sj_y_scheck prog_17_method_155_code 2 none ∈ lw_tbl := am_t4 6 rfl
noncomputable def sj_y_pcheck : MethodName := ⟨"jdk/internal/util/Preconditions", "checkIndex", "(IILjava/util/function/BiFunction;)I"⟩
theorem sj_c_pcheck : Cond.code sj_y_pcheck prog_21_method_11_code 3 (some .int) ∈ lw_tbl := am_t4 11 rfl
theorem sj_w_l_length : Cond.methodLink "LastLayer$Tape" 89 sj_y_length ∈ lw_tbl := am_t3 223 rfl
theorem sj_w_i_length : Cond.instanceMethod sj_y_length ∈ lw_tbl := am_t3 224 rfl
theorem sj_w_s_length : Cond.selects sj_S sj_y_length sj_y_length ∈ lw_tbl := am_t3 225 rfl
theorem sj_w_l_coder : Cond.methodLink sj_S 335 sj_y_coder ∈ lw_tbl := am_t3 227 rfl
theorem sj_w_i_coder : Cond.instanceMethod sj_y_coder ∈ lw_tbl := am_t3 228 rfl
theorem sj_w_s_coder : Cond.selects sj_S sj_y_coder sj_y_coder ∈ lw_tbl := am_t3 229 rfl
theorem sj_w_f38 : Cond.fieldLink sj_S 38 sj_S "COMPACT_STRINGS" "Z" ∈ lw_tbl := am_t3 231 rfl
theorem sj_w_ls38 : Cond.laysStatic sj_S "COMPACT_STRINGS" "Z" ∈ lw_tbl := am_t3 232 rfl
theorem sj_w_l_charAt : Cond.methodLink "LastLayer$Tape" 94 sj_y_charAt ∈ lw_tbl := am_t3 233 rfl
theorem sj_w_i_charAt : Cond.instanceMethod sj_y_charAt ∈ lw_tbl := am_t3 234 rfl
theorem sj_w_s_charAt : Cond.selects sj_S sj_y_charAt sj_y_charAt ∈ lw_tbl := am_t3 235 rfl
theorem sj_w_l_isLatin1 : Cond.methodLink sj_S 492 sj_y_isLatin1 ∈ lw_tbl := am_t3 237 rfl
theorem sj_w_i_isLatin1 : Cond.instanceMethod sj_y_isLatin1 ∈ lw_tbl := am_t3 238 rfl
theorem sj_w_s_isLatin1 : Cond.selects sj_S sj_y_isLatin1 sj_y_isLatin1 ∈ lw_tbl := am_t3 239 rfl
theorem sj_w_l_lchar : Cond.methodLink sj_S 495 sj_y_lchar ∈ lw_tbl := am_t4 1 rfl
theorem sj_w_t_lchar : Cond.static sj_y_lchar ∈ lw_tbl := am_t4 2 rfl
theorem sj_w_l_scheck : Cond.methodLink "java/lang/StringLatin1" 9 sj_y_scheck ∈ lw_tbl := am_t4 4 rfl
theorem sj_w_t_scheck : Cond.static sj_y_scheck ∈ lw_tbl := am_t4 5 rfl
theorem sj_w_f1053 : Cond.fieldLink sj_S 1053 "jdk/internal/util/Preconditions" "SIOOBE_FORMATTER" "Ljava/util/function/BiFunction;" ∈ lw_tbl := am_t4 7 rfl
theorem sj_w_ls1053 : Cond.laysStatic "jdk/internal/util/Preconditions" "SIOOBE_FORMATTER" "Ljava/util/function/BiFunction;" ∈ lw_tbl := am_t4 8 rfl
theorem sj_w_l_pcheck : Cond.methodLink sj_S 1059 sj_y_pcheck ∈ lw_tbl := am_t4 9 rfl
theorem sj_w_t_pcheck : Cond.static sj_y_pcheck ∈ lw_tbl := am_t4 10 rfl
theorem sj_w_f9 : Cond.fieldLink sj_S 9 sj_S "value" "[B" ∈ lw_tbl := am_t10 49 rfl
theorem sj_w_f15 : Cond.fieldLink sj_S 15 sj_S "coder" "B" ∈ lw_tbl := am_t10 50 rfl
theorem sj_w_iS : Cond.initialized sj_S ∈ lw_tbl := am_t1 16 rfl
theorem sj_w_iL : Cond.initialized "java/lang/StringLatin1" ∈ lw_tbl := am_t1 17 rfl
theorem sj_w_iP : Cond.initialized "jdk/internal/util/Preconditions" ∈ lw_tbl := am_t1 18 rfl
theorem sj_w_str : Cond.stringRef "LastLayer$Tape" 87 sj_tx ∈ lw_tbl := am_t3 222 rfl
theorem sj_d_coder_0 : decode prog_17_method_152_code 0 = .ok (.getstatic 38, 3) := by decide +kernel
theorem sj_d_coder_3 : decode prog_17_method_152_code 3 = .ok (.ifCond .eq 10, 3) := by decide +kernel
theorem sj_d_coder_6 : decode prog_17_method_152_code 6 = .ok (.aload_n 0, 1) := by decide +kernel
theorem sj_d_coder_7 : decode prog_17_method_152_code 7 = .ok (.getfield 15, 3) := by decide +kernel
theorem sj_d_coder_10 : decode prog_17_method_152_code 10 = .ok (.goto 4, 3) := by decide +kernel
theorem sj_d_coder_14 : decode prog_17_method_152_code 14 = .ok (.ireturn, 1) := by decide +kernel
theorem sj_d_length_0 : decode prog_17_method_54_code 0 = .ok (.aload_n 0, 1) := by decide +kernel
theorem sj_d_length_1 : decode prog_17_method_54_code 1 = .ok (.getfield 9, 3) := by decide +kernel
theorem sj_d_length_4 : decode prog_17_method_54_code 4 = .ok (.arraylength, 1) := by decide +kernel
theorem sj_d_length_5 : decode prog_17_method_54_code 5 = .ok (.aload_n 0, 1) := by decide +kernel
theorem sj_d_length_6 : decode prog_17_method_54_code 6 = .ok (.invokevirtual 335, 3) := by decide +kernel
theorem sj_d_length_9 : decode prog_17_method_54_code 9 = .ok (.ishr, 1) := by decide +kernel
theorem sj_d_length_10 : decode prog_17_method_54_code 10 = .ok (.ireturn, 1) := by decide +kernel
theorem sj_d_isLatin1_0 : decode prog_17_method_154_code 0 = .ok (.getstatic 38, 3) := by decide +kernel
theorem sj_d_isLatin1_3 : decode prog_17_method_154_code 3 = .ok (.ifCond .eq 14, 3) := by decide +kernel
theorem sj_d_isLatin1_6 : decode prog_17_method_154_code 6 = .ok (.aload_n 0, 1) := by decide +kernel
theorem sj_d_isLatin1_7 : decode prog_17_method_154_code 7 = .ok (.getfield 15, 3) := by decide +kernel
theorem sj_d_isLatin1_10 : decode prog_17_method_154_code 10 = .ok (.ifCond .ne 7, 3) := by decide +kernel
theorem sj_d_isLatin1_13 : decode prog_17_method_154_code 13 = .ok (.iconst 1, 1) := by decide +kernel
theorem sj_d_isLatin1_14 : decode prog_17_method_154_code 14 = .ok (.goto 4, 3) := by decide +kernel
theorem sj_d_isLatin1_18 : decode prog_17_method_154_code 18 = .ok (.ireturn, 1) := by decide +kernel
theorem sj_d_charAt_0 : decode prog_17_method_56_code 0 = .ok (.aload_n 0, 1) := by decide +kernel
theorem sj_d_charAt_1 : decode prog_17_method_56_code 1 = .ok (.invokevirtual 492, 3) := by decide +kernel
theorem sj_d_charAt_4 : decode prog_17_method_56_code 4 = .ok (.ifCond .eq 12, 3) := by decide +kernel
theorem sj_d_charAt_7 : decode prog_17_method_56_code 7 = .ok (.aload_n 0, 1) := by decide +kernel
theorem sj_d_charAt_8 : decode prog_17_method_56_code 8 = .ok (.getfield 9, 3) := by decide +kernel
theorem sj_d_charAt_11 : decode prog_17_method_56_code 11 = .ok (.iload_n 1, 1) := by decide +kernel
theorem sj_d_charAt_12 : decode prog_17_method_56_code 12 = .ok (.invokestatic 495, 3) := by decide +kernel
theorem sj_d_charAt_15 : decode prog_17_method_56_code 15 = .ok (.ireturn, 1) := by decide +kernel
theorem sj_d_lchar_0 : decode prog_18_method_2_code 0 = .ok (.iload_n 1, 1) := by decide +kernel
theorem sj_d_lchar_1 : decode prog_18_method_2_code 1 = .ok (.aload_n 0, 1) := by decide +kernel
theorem sj_d_lchar_2 : decode prog_18_method_2_code 2 = .ok (.arraylength, 1) := by decide +kernel
theorem sj_d_lchar_3 : decode prog_18_method_2_code 3 = .ok (.invokestatic 9, 3) := by decide +kernel
theorem sj_d_lchar_6 : decode prog_18_method_2_code 6 = .ok (.aload_n 0, 1) := by decide +kernel
theorem sj_d_lchar_7 : decode prog_18_method_2_code 7 = .ok (.iload_n 1, 1) := by decide +kernel
theorem sj_d_lchar_8 : decode prog_18_method_2_code 8 = .ok (.baload, 1) := by decide +kernel
theorem sj_d_lchar_9 : decode prog_18_method_2_code 9 = .ok (.sipush 255, 3) := by decide +kernel
theorem sj_d_lchar_12 : decode prog_18_method_2_code 12 = .ok (.iand, 1) := by decide +kernel
theorem sj_d_lchar_13 : decode prog_18_method_2_code 13 = .ok (.i2c, 1) := by decide +kernel
theorem sj_d_lchar_14 : decode prog_18_method_2_code 14 = .ok (.ireturn, 1) := by decide +kernel
theorem sj_d_scheck_0 : decode prog_17_method_155_code 0 = .ok (.iload_n 0, 1) := by decide +kernel
theorem sj_d_scheck_1 : decode prog_17_method_155_code 1 = .ok (.iload_n 1, 1) := by decide +kernel
theorem sj_d_scheck_2 : decode prog_17_method_155_code 2 = .ok (.getstatic 1053, 3) := by decide +kernel
theorem sj_d_scheck_5 : decode prog_17_method_155_code 5 = .ok (.invokestatic 1059, 3) := by decide +kernel
theorem sj_d_scheck_8 : decode prog_17_method_155_code 8 = .ok (.pop, 1) := by decide +kernel
theorem sj_d_scheck_9 : decode prog_17_method_155_code 9 = .ok (.return_, 1) := by decide +kernel
theorem sj_d_pcheck_0 : decode prog_21_method_11_code 0 = .ok (.iload_n 0, 1) := by decide +kernel
theorem sj_d_pcheck_1 : decode prog_21_method_11_code 1 = .ok (.ifCond .lt 8, 3) := by decide +kernel
theorem sj_d_pcheck_4 : decode prog_21_method_11_code 4 = .ok (.iload_n 0, 1) := by decide +kernel
theorem sj_d_pcheck_5 : decode prog_21_method_11_code 5 = .ok (.iload_n 1, 1) := by decide +kernel
theorem sj_d_pcheck_6 : decode prog_21_method_11_code 6 = .ok (.if_icmp .lt 10, 3) := by decide +kernel
theorem sj_d_pcheck_16 : decode prog_21_method_11_code 16 = .ok (.iload_n 0, 1) := by decide +kernel
theorem sj_d_pcheck_17 : decode prog_21_method_11_code 17 = .ok (.ireturn, 1) := by decide +kernel
theorem sj_m_coder (l : Launch) (S aK aV : Nat)  : Met l sj_y_coder (sj_ws sj_y_coder prog_17_method_152_code 1 (some .byte)) (sj_rm 0) (sj_P S aK aV [.ref aK]) (QcRead 0) 0 0 (fun _ => False) := by
  refine Met.ofW (cc := prog_17_method_152_code) (maxL := 1) (ret := (some .byte)) (by decide) rfl ?_
  intro p e s m args below meth c s₁ B hml hv
  obtain ⟨rfl, hw⟩ := hv
  have hx := B.exec
  have hb := B.bytes
  have hr := B.returns
  have hts := atoms_spec (ws := sj_ws sj_y_coder prog_17_method_152_code 1 (some .byte)) B.pre
  have hG : ∀ w ∈ am_G, w.before ([.ref aK] : List Value).toArray s = true := fun w hw => hts w (List.mem_cons_of_mem _ hw)
  have hown : s.vm.findClass "java/lang/String" = some m.cls := findClass_of_methodNamed B.named
  have hlocks := B.notSynchronized
  have hS : va_S (fun q => S ≤ q) s.heap s.heap [] := va_S.rf
  have hF : CallFix p m c prog_17_method_152_code 1 s ([.ref aK] : List Value).toArray am_G "java/lang/String" := ⟨hx, hb, hml, hown, hG⟩
  have hl := lv_entry ([.ref aK]) (n := 1) (Nat.le_of_ble_eq_true rfl)
  rw [lg_entry_eq]
  generalize (lg_sl ([.ref aK]) ++ List.replicate (1 - (lg_sl ([.ref aK])).length) Slot.unset).toArray = ls at hl ⊢
  have hl : lv_has ls 1 [(0, .ref aK)] := hl
  refine va_gets hx hb hw.2.2.2.2.1 hS hown (hG _ (am_G_of sj_w_f38 rfl)) (fun _ h => h) sj_d_coder_0 ?_
  refine lv_if_eq hx hb sj_d_coder_3 (tgt := 13) rfl (fun h => absurd h (by decide)) fun _ => ?_
  refine lv_aload_n hx hb sj_d_coder_6 rfl (lv_at hl 0 rfl) ?_
  refine vk_getf hx hb hw.2.1 hS hown (hG _ (am_G_of sj_w_f15 rfl)) (fun _ h => h) sj_d_coder_7 ?_
  refine lv_goto hx hb sj_d_coder_10 (tgt := 14) rfl ?_
  exact W.zret hx hb hr rfl (fun t ht _ => ⟨rfl, ht⟩) (fun q hq => absurd hq List.not_mem_nil) sj_d_coder_14
theorem sj_m_isLatin1 (l : Launch) (S aK aV : Nat)  : Met l sj_y_isLatin1 (sj_ws sj_y_isLatin1 prog_17_method_154_code 1 (some .boolean)) (sj_rm 0) (sj_P S aK aV [.ref aK]) (QcRead 1) 0 0 (fun _ => False) := by
  refine Met.ofW (cc := prog_17_method_154_code) (maxL := 1) (ret := (some .boolean)) (by decide) rfl ?_
  intro p e s m args below meth c s₁ B hml hv
  obtain ⟨rfl, hw⟩ := hv
  have hx := B.exec
  have hb := B.bytes
  have hr := B.returns
  have hts := atoms_spec (ws := sj_ws sj_y_isLatin1 prog_17_method_154_code 1 (some .boolean)) B.pre
  have hG : ∀ w ∈ am_G, w.before ([.ref aK] : List Value).toArray s = true := fun w hw => hts w (List.mem_cons_of_mem _ hw)
  have hown : s.vm.findClass "java/lang/String" = some m.cls := findClass_of_methodNamed B.named
  have hlocks := B.notSynchronized
  have hS : va_S (fun q => S ≤ q) s.heap s.heap [] := va_S.rf
  have hF : CallFix p m c prog_17_method_154_code 1 s ([.ref aK] : List Value).toArray am_G "java/lang/String" := ⟨hx, hb, hml, hown, hG⟩
  have hl := lv_entry ([.ref aK]) (n := 1) (Nat.le_of_ble_eq_true rfl)
  rw [lg_entry_eq]
  generalize (lg_sl ([.ref aK]) ++ List.replicate (1 - (lg_sl ([.ref aK])).length) Slot.unset).toArray = ls at hl ⊢
  have hl : lv_has ls 1 [(0, .ref aK)] := hl
  refine va_gets hx hb hw.2.2.2.2.1 hS hown (hG _ (am_G_of sj_w_f38 rfl)) (fun _ h => h) sj_d_isLatin1_0 ?_
  refine lv_if_eq hx hb sj_d_isLatin1_3 (tgt := 17) rfl (fun h => absurd h (by decide)) fun _ => ?_
  refine lv_aload_n hx hb sj_d_isLatin1_6 rfl (lv_at hl 0 rfl) ?_
  refine vk_getf hx hb hw.2.1 hS hown (hG _ (am_G_of sj_w_f15 rfl)) (fun _ h => h) sj_d_isLatin1_7 ?_
  refine lv_if_ne hx hb sj_d_isLatin1_10 (tgt := 17) rfl (fun h => absurd rfl h) fun _ => ?_
  refine lv_iconst hx hb (v := 1) sj_d_isLatin1_13 rfl ?_
  refine lv_goto hx hb sj_d_isLatin1_14 (tgt := 18) rfl ?_
  exact W.zret hx hb hr rfl (fun t ht _ => ⟨rfl, ht⟩) (fun q hq => absurd hq List.not_mem_nil) sj_d_isLatin1_18
theorem sj_m_length (l : Launch) (S aK aV : Nat)  : Met l sj_y_length (sj_ws sj_y_length prog_17_method_54_code 1 (some .int)) (sj_rm 1) (sj_P S aK aV [.ref aK]) (QcRead 163) 0 0 (fun _ => False) := by
  refine Met.ofW (cc := prog_17_method_54_code) (maxL := 1) (ret := (some .int)) (by decide) rfl ?_
  intro p e s m args below meth c s₁ B hml hv
  obtain ⟨rfl, hw⟩ := hv
  have hx := B.exec
  have hb := B.bytes
  have hr := B.returns
  have hts := atoms_spec (ws := sj_ws sj_y_length prog_17_method_54_code 1 (some .int)) B.pre
  have hG : ∀ w ∈ am_G, w.before ([.ref aK] : List Value).toArray s = true := fun w hw => hts w (List.mem_cons_of_mem _ hw)
  have hown : s.vm.findClass "java/lang/String" = some m.cls := findClass_of_methodNamed B.named
  have hlocks := B.notSynchronized
  have hS : va_S (fun q => S ≤ q) s.heap s.heap [] := va_S.rf
  have hF : CallFix p m c prog_17_method_54_code 1 s ([.ref aK] : List Value).toArray am_G "java/lang/String" := ⟨hx, hb, hml, hown, hG⟩
  have hl := lv_entry ([.ref aK]) (n := 1) (Nat.le_of_ble_eq_true rfl)
  rw [lg_entry_eq]
  generalize (lg_sl ([.ref aK]) ++ List.replicate (1 - (lg_sl ([.ref aK])).length) Slot.unset).toArray = ls at hl ⊢
  have hl : lv_has ls 1 [(0, .ref aK)] := hl
  have hcw : CallW (sj_rm 1) s ([.ref aK] : List Value).toArray sj_S sj_S 335 sj_y_coder prog_17_method_152_code 1 (some .byte) (sj_ws sj_y_coder prog_17_method_152_code 1 (some .byte)) (sj_rm 0) 0 0 0 :=
    ⟨callB_of 0 hG (sj_good (fun w hw => by rcases List.mem_cons.mp hw with rfl | hw; exact am_G_of sj_c_coder rfl; exact hw)) rfl rfl rfl (hG _ (am_G_of sj_w_iS rfl)) (hG _ (am_G_of sj_w_l_coder rfl)) ⟨by decide, by decide, by decide +kernel⟩ ⟨by decide, by decide⟩, hG _ (am_G_of sj_w_i_coder rfl), hG _ (am_G_of sj_w_s_coder rfl)⟩
  obtain ⟨cell, o1, o2, o3, -⟩ := hw.1
  refine lv_aload_n hx hb sj_d_length_0 rfl (lv_at hl 0 rfl) ?_
  refine vk_getf hx hb hw.2.2.1 hS hown (hG _ (am_G_of sj_w_f9 rfl)) (fun _ h => h) sj_d_length_1 ?_
  refine va_tlen hx hb hw.2.2.2.1 hS (v := 163) rfl sj_d_length_4 ?_
  refine lv_aload_n hx hb sj_d_length_5 rfl (lv_at hl 0 rfl) ?_
  refine W.callR (W.runV (As := []) (rest := [.int 163]) hF (sj_m_coder l S aK aV) hcw ⟨sj_blind _ _ _ _, ⟨cell, o1, o2, o3⟩, sj_pre hw⟩ rfl rfl hl.1 rfl (room1 rfl) sj_d_length_6 ⟨by decide, by decide⟩) ?_
  refine W.eq (g2 := F0 m 9 ls [.int 0, .int 163]) rfl ?_
  refine lv_ishr hx hb sj_d_length_9 ?_
  exact W.iret hx hb hr (fun t ht _ => ⟨by decide, ht⟩) (fun q hq => absurd hq List.not_mem_nil) sj_d_length_10
theorem sj_lt {k : Nat} {i : Int32} (hi : i.toInt = (k : Int)) (hk : k < 163) : ¬ i < 0 ∧ i < 163 := ⟨fun h => by have := Int32.lt_iff_toInt_lt.mp h; have e : (0 : Int32).toInt = 0 := rfl; omega, Int32.lt_iff_toInt_lt.mpr (by have e : (163 : Int32).toInt = 163 := rfl; omega)⟩
theorem sj_m_pcheck (l : Launch) (S aK aV : Nat) (i : Int32) (f : Value) (hf : f.category = 1) (h0 : ¬ i < 0) (h1 : i < 163) : Met l sj_y_pcheck (sj_ws sj_y_pcheck prog_21_method_11_code 3 (some .int)) (sj_rm 0) (sj_P S aK aV [.int i, .int 163, f]) (QcRead i) 0 0 (fun _ => False) := by
  refine Met.ofW (cc := prog_21_method_11_code) (maxL := 3) (ret := (some .int)) (by decide) rfl ?_
  intro p e s m args below meth c s₁ B hml hv
  obtain ⟨rfl, hw⟩ := hv
  have hx := B.exec
  have hb := B.bytes
  have hr := B.returns
  have hts := atoms_spec (ws := sj_ws sj_y_pcheck prog_21_method_11_code 3 (some .int)) B.pre
  have hG : ∀ w ∈ am_G, w.before ([.int i, .int 163, f] : List Value).toArray s = true := fun w hw => hts w (List.mem_cons_of_mem _ hw)
  have hown : s.vm.findClass "jdk/internal/util/Preconditions" = some m.cls := findClass_of_methodNamed B.named
  have hlocks := B.notSynchronized
  have hS : va_S (fun q => S ≤ q) s.heap s.heap [] := va_S.rf
  have hF : CallFix p m c prog_21_method_11_code 3 s ([.int i, .int 163, f] : List Value).toArray am_G "jdk/internal/util/Preconditions" := ⟨hx, hb, hml, hown, hG⟩
  have hls : (lg_sl [Value.int i, .int 163, f]).length = 3 := by cases f <;> first | rfl | cases hf
  have hl := lv_entry ([.int i, .int 163, f]) (n := 3) (by rw [hls]; exact Nat.le_refl _)
  rw [lg_entry_eq]
  generalize (lg_sl ([.int i, .int 163, f]) ++ List.replicate (3 - (lg_sl ([.int i, .int 163, f])).length) Slot.unset).toArray = ls at hl ⊢
  have hl : lv_has ls 3 [(0, .int i), (1, .int 163), (2, f)] := hl
  refine lv_iload_n hx hb sj_d_pcheck_0 rfl (lv_at hl 0 rfl) ?_
  refine lv_if_lt hx hb sj_d_pcheck_1 (tgt := 9) rfl (fun h => absurd h h0) fun _ => ?_
  refine lv_iload_n hx hb sj_d_pcheck_4 rfl (lv_at hl 0 rfl) ?_
  refine lv_iload_n hx hb sj_d_pcheck_5 rfl (lv_at hl 1 rfl) ?_
  refine lv_icmp_lt hx hb sj_d_pcheck_6 (tgt := 16) rfl (fun _ => ?_) (fun h => absurd h1 h)
  refine lv_iload_n hx hb sj_d_pcheck_16 rfl (lv_at hl 0 rfl) ?_
  exact W.iret hx hb hr (fun t ht _ => ⟨rfl, ht⟩) (fun q hq => absurd hq List.not_mem_nil) sj_d_pcheck_17
theorem sj_m_scheck (l : Launch) (S aK aV : Nat) (i : Int32) (h0 : ¬ i < 0) (h1 : i < 163) : Met l sj_y_scheck (sj_ws sj_y_scheck prog_17_method_155_code 2 none) (sj_rm 1) (sj_P S aK aV [.int i, .int 163]) (va_Sv (fun _ => True)) 0 0 (fun _ => False) := by
  refine Met.ofW (cc := prog_17_method_155_code) (maxL := 2) (ret := none) (by decide) rfl ?_
  intro p e s m args below meth c s₁ B hml hv
  obtain ⟨rfl, hw⟩ := hv
  have hx := B.exec
  have hb := B.bytes
  have hr := B.returns
  have hts := atoms_spec (ws := sj_ws sj_y_scheck prog_17_method_155_code 2 none) B.pre
  have hG : ∀ w ∈ am_G, w.before ([.int i, .int 163] : List Value).toArray s = true := fun w hw => hts w (List.mem_cons_of_mem _ hw)
  have hown : s.vm.findClass "java/lang/String" = some m.cls := findClass_of_methodNamed B.named
  have hlocks := B.notSynchronized
  have hS : va_S (fun q => S ≤ q) s.heap s.heap [] := va_S.rf
  have hF : CallFix p m c prog_17_method_155_code 2 s ([.int i, .int 163] : List Value).toArray am_G "java/lang/String" := ⟨hx, hb, hml, hown, hG⟩
  have hl := lv_entry ([.int i, .int 163]) (n := 2) (Nat.le_of_ble_eq_true rfl)
  rw [lg_entry_eq]
  generalize (lg_sl ([.int i, .int 163]) ++ List.replicate (2 - (lg_sl ([.int i, .int 163])).length) Slot.unset).toArray = ls at hl ⊢
  have hl : lv_has ls 2 [(0, .int i), (1, .int 163)] := hl
  refine lv_iload_n hx hb sj_d_scheck_0 rfl (lv_at hl 0 rfl) ?_
  refine lv_iload_n hx hb sj_d_scheck_1 rfl (lv_at hl 1 rfl) ?_
  have fin : ∀ f : Value, f.category = 1 → va_Z "jdk/internal/util/Preconditions" "SIOOBE_FORMATTER" "Ljava/util/function/BiFunction;" f (fun q => S ≤ q) s s.heap → W p l e (headSpec (sj_ws sj_y_scheck prog_17_method_155_code 2 none) (sj_rm 1)).room s m ([.int i, .int 163] : List Value).toArray below meth c s.heap [] 0 0 (MQ below (va_Sv (fun _ => True)) ([.int i, .int 163] : List Value).toArray s 0 0 (fun _ => False)) (F0 m 2 ls [.int 163, .int i]) := by
    intro f hf hz
    refine va_gets hx hb hz hS hown (hG _ (am_G_of sj_w_f1053 rfl)) (fun _ h => h) sj_d_scheck_2 ?_
    have hcw : CallB (sj_rm 1) s ([.int i, .int 163] : List Value).toArray sj_S 1059 sj_y_pcheck prog_21_method_11_code 3 (some .int) (sj_ws sj_y_pcheck prog_21_method_11_code 3 (some .int)) (sj_rm 0) 0 0 3 ∧ (Cond.static sj_y_pcheck).before ([.int i, .int 163] : List Value).toArray s = true :=
      ⟨callB_of 3 hG (sj_good (fun w hw => by rcases List.mem_cons.mp hw with rfl | hw; exact am_G_of sj_c_pcheck rfl; exact hw)) rfl rfl rfl (hG _ (am_G_of sj_w_iP rfl)) (hG _ (am_G_of sj_w_l_pcheck rfl)) ⟨by decide, by decide, by decide +kernel⟩ ⟨by decide, by decide⟩, hG _ (am_G_of sj_w_t_pcheck rfl)⟩
    refine W.callR (W.runS (As := [.int i, .int 163, f]) (rest := []) hF (sj_m_pcheck l S aK aV i f hf h0 h1) hcw ⟨sj_blind _ _ _ _, sj_pre hw⟩ rfl rfl hl.1 rfl (room0 rfl) sj_d_scheck_5 ⟨by decide, by decide⟩) ?_
    refine W.eq (g2 := F0 m 8 ls [.int i]) rfl ?_
    refine lv_pop hx hb sj_d_scheck_8 rfl ?_
    exact W.vret hx hb hr (fun t ht _ => ⟨rfl, trivial, ht⟩) (fun q hq => absurd hq List.not_mem_nil) sj_d_scheck_9
  rcases hw.2.2.2.2.2 with h | ⟨t, h⟩
  · exact fin _ rfl h
  · exact fin _ rfl h
noncomputable def sj_ch (k : Nat) : Int32 := nI (am_wl.getD k 0)
theorem sj_ch_ok : ∀ k, k < 163 → (((sj_ch k) &&& 255).toUInt32 % 65536).toInt32 = sj_ch k := by decide +kernel
theorem sj_ch_c : ∀ k, k < 163 → narrow .char (.int (sj_ch k)) = .int (sj_ch k) := by decide +kernel
theorem sj_m_lchar (l : Launch) (S aK aV : Nat) (i : Int32) (k : Nat) (hi : i.toInt = (k : Int)) (hk : k < 163) : Met l sj_y_lchar (sj_ws sj_y_lchar prog_18_method_2_code 2 (some .char)) (sj_rm 2) (sj_P S aK aV [.ref aV, .int i]) (QcRead (sj_ch k)) 0 0 (fun _ => False) := by
  refine Met.ofW (cc := prog_18_method_2_code) (maxL := 2) (ret := (some .char)) (by decide) rfl ?_
  intro p e s m args below meth c s₁ B hml hv
  obtain ⟨rfl, hw⟩ := hv
  have hx := B.exec
  have hb := B.bytes
  have hr := B.returns
  have hts := atoms_spec (ws := sj_ws sj_y_lchar prog_18_method_2_code 2 (some .char)) B.pre
  have hG : ∀ w ∈ am_G, w.before ([.ref aV, .int i] : List Value).toArray s = true := fun w hw => hts w (List.mem_cons_of_mem _ hw)
  have hown : s.vm.findClass "java/lang/StringLatin1" = some m.cls := findClass_of_methodNamed B.named
  have hlocks := B.notSynchronized
  have hS : va_S (fun q => S ≤ q) s.heap s.heap [] := va_S.rf
  have hF : CallFix p m c prog_18_method_2_code 2 s ([.ref aV, .int i] : List Value).toArray am_G "java/lang/StringLatin1" := ⟨hx, hb, hml, hown, hG⟩
  have hl := lv_entry ([.ref aV, .int i]) (n := 2) (Nat.le_of_ble_eq_true rfl)
  rw [lg_entry_eq]
  generalize (lg_sl ([.ref aV, .int i]) ++ List.replicate (2 - (lg_sl ([.ref aV, .int i])).length) Slot.unset).toArray = ls at hl ⊢
  have hl : lv_has ls 2 [(0, .ref aV), (1, .int i)] := hl
  obtain ⟨h0, h1⟩ := sj_lt hi hk
  have hcw : CallB (sj_rm 2) s ([.ref aV, .int i] : List Value).toArray "java/lang/StringLatin1" 9 sj_y_scheck prog_17_method_155_code 2 none (sj_ws sj_y_scheck prog_17_method_155_code 2 none) (sj_rm 1) 0 0 2 ∧ (Cond.static sj_y_scheck).before ([.ref aV, .int i] : List Value).toArray s = true :=
    ⟨callB_of 2 hG (sj_good (fun w hw => by rcases List.mem_cons.mp hw with rfl | hw; exact am_G_of sj_c_scheck rfl; exact hw)) rfl rfl rfl (hG _ (am_G_of sj_w_iS rfl)) (hG _ (am_G_of sj_w_l_scheck rfl)) ⟨by decide, by decide, by decide +kernel⟩ ⟨by decide, by decide⟩, hG _ (am_G_of sj_w_t_scheck rfl)⟩
  refine lv_iload_n hx hb sj_d_lchar_0 rfl (lv_at hl 1 rfl) ?_
  refine lv_aload_n hx hb sj_d_lchar_1 rfl (lv_at hl 0 rfl) ?_
  refine va_tlen hx hb hw.2.2.2.1 hS (v := 163) rfl sj_d_lchar_2 ?_
  refine va_csv (W.runS (As := [.int i, .int 163]) (rest := []) hF (sj_m_scheck l S aK aV i h0 h1) hcw ⟨sj_blind _ _ _ _, sj_pre hw⟩ rfl rfl hl.1 rfl (room0 rfl) sj_d_lchar_3 ⟨by decide, by decide⟩) fun _ => ?_
  refine lv_aload_n hx hb sj_d_lchar_6 rfl (lv_at hl 0 rfl) ?_
  refine lv_iload_n hx hb sj_d_lchar_7 rfl (lv_at hl 1 rfl) ?_
  have hkk : i.toNatClampNeg = k := by show i.toInt.toNat = k; omega
  refine va_tb hx hb hw.2.2.2.1 hS (v := .int (sj_ch k)) (fun h => by
    rcases h with h | h
    · exact h0 h
    · rw [hkk] at h; omega) (by rw [hkk]; rfl) sj_d_lchar_8 ?_
  refine lv_sipush hx hb (v := 255) sj_d_lchar_9 rfl ?_
  refine lv_iand hx hb sj_d_lchar_12 ?_
  refine lv_i2c hx hb sj_d_lchar_13 (sj_ch_ok k hk) ?_
  exact W.zret hx hb hr (sj_ch_c k hk) (fun t ht _ => ⟨rfl, ht⟩) (fun q hq => absurd hq List.not_mem_nil) sj_d_lchar_14
theorem sj_m_charAt (l : Launch) (S aK aV : Nat) (i : Int32) (k : Nat) (hi : i.toInt = (k : Int)) (hk : k < 163) : Met l sj_y_charAt (sj_ws sj_y_charAt prog_17_method_56_code 2 (some .char)) (sj_rm 3) (sj_P S aK aV [.ref aK, .int i]) (QcRead (sj_ch k)) 0 0 (fun _ => False) := by
  refine Met.ofW (cc := prog_17_method_56_code) (maxL := 2) (ret := (some .char)) (by decide) rfl ?_
  intro p e s m args below meth c s₁ B hml hv
  obtain ⟨rfl, hw⟩ := hv
  have hx := B.exec
  have hb := B.bytes
  have hr := B.returns
  have hts := atoms_spec (ws := sj_ws sj_y_charAt prog_17_method_56_code 2 (some .char)) B.pre
  have hG : ∀ w ∈ am_G, w.before ([.ref aK, .int i] : List Value).toArray s = true := fun w hw => hts w (List.mem_cons_of_mem _ hw)
  have hown : s.vm.findClass "java/lang/String" = some m.cls := findClass_of_methodNamed B.named
  have hlocks := B.notSynchronized
  have hS : va_S (fun q => S ≤ q) s.heap s.heap [] := va_S.rf
  have hF : CallFix p m c prog_17_method_56_code 2 s ([.ref aK, .int i] : List Value).toArray am_G "java/lang/String" := ⟨hx, hb, hml, hown, hG⟩
  have hl := lv_entry ([.ref aK, .int i]) (n := 2) (Nat.le_of_ble_eq_true rfl)
  rw [lg_entry_eq]
  generalize (lg_sl ([.ref aK, .int i]) ++ List.replicate (2 - (lg_sl ([.ref aK, .int i])).length) Slot.unset).toArray = ls at hl ⊢
  have hl : lv_has ls 2 [(0, .ref aK), (1, .int i)] := hl
  have hcw : CallW (sj_rm 3) s ([.ref aK, .int i] : List Value).toArray sj_S sj_S 492 sj_y_isLatin1 prog_17_method_154_code 1 (some .boolean) (sj_ws sj_y_isLatin1 prog_17_method_154_code 1 (some .boolean)) (sj_rm 0) 0 0 0 :=
    ⟨callB_of 0 hG (sj_good (fun w hw => by rcases List.mem_cons.mp hw with rfl | hw; exact am_G_of sj_c_isLatin1 rfl; exact hw)) rfl rfl rfl (hG _ (am_G_of sj_w_iS rfl)) (hG _ (am_G_of sj_w_l_isLatin1 rfl)) ⟨by decide, by decide, by decide +kernel⟩ ⟨by decide, by decide⟩, hG _ (am_G_of sj_w_i_isLatin1 rfl), hG _ (am_G_of sj_w_s_isLatin1 rfl)⟩
  have hcw2 : CallB (sj_rm 3) s ([.ref aK, .int i] : List Value).toArray sj_S 495 sj_y_lchar prog_18_method_2_code 2 (some .char) (sj_ws sj_y_lchar prog_18_method_2_code 2 (some .char)) (sj_rm 2) 0 0 2 ∧ (Cond.static sj_y_lchar).before ([.ref aK, .int i] : List Value).toArray s = true :=
    ⟨callB_of 2 hG (sj_good (fun w hw => by rcases List.mem_cons.mp hw with rfl | hw; exact am_G_of sj_c_lchar rfl; exact hw)) rfl rfl rfl (hG _ (am_G_of sj_w_iL rfl)) (hG _ (am_G_of sj_w_l_lchar rfl)) ⟨by decide, by decide, by decide +kernel⟩ ⟨by decide, by decide⟩, hG _ (am_G_of sj_w_t_lchar rfl)⟩
  obtain ⟨cell, o1, o2, o3, -⟩ := hw.1
  refine lv_aload_n hx hb sj_d_charAt_0 rfl (lv_at hl 0 rfl) ?_
  refine W.callR (W.runV (As := []) (rest := []) hF (sj_m_isLatin1 l S aK aV) hcw ⟨sj_blind _ _ _ _, ⟨cell, o1, o2, o3⟩, sj_pre hw⟩ rfl rfl hl.1 rfl (room0 rfl) sj_d_charAt_1 ⟨by decide, by decide⟩) ?_
  refine W.eq (g2 := F0 m 4 ls [.int 1]) rfl ?_
  refine lv_if_eq hx hb sj_d_charAt_4 (tgt := 16) rfl (fun h => absurd h (by decide)) fun _ => ?_
  refine lv_aload_n hx hb sj_d_charAt_7 rfl (lv_at hl 0 rfl) ?_
  refine vk_getf hx hb hw.2.2.1 hS hown (hG _ (am_G_of sj_w_f9 rfl)) (fun _ h => h) sj_d_charAt_8 ?_
  refine lv_iload_n hx hb sj_d_charAt_11 rfl (lv_at hl 1 rfl) ?_
  refine W.callR (W.runS (As := [.ref aV, .int i]) (rest := []) hF (sj_m_lchar l S aK aV i k hi hk) hcw2 ⟨sj_blind _ _ _ _, sj_pre hw⟩ rfl rfl hl.1 rfl (room0 rfl) sj_d_charAt_12 ⟨by decide, by decide⟩) ?_
  refine W.eq (g2 := F0 m 15 ls [.int (sj_ch k)]) rfl ?_
  exact W.zret hx hb hr (sj_ch_c k hk) (fun t ht _ => ⟨rfl, ht⟩) (fun q hq => absurd hq List.not_mem_nil) sj_d_charAt_15
