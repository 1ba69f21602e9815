/-! Values behind an instruction -/
theorem ae_w32_rg {x : Int} (h1 : -2147483648 ≤ x) (h2 : x ≤ 2147483647) : ae_w32 x = x := Int32.toInt_ofInt_of_le (by omega) (by omega)
theorem ae_w32_of (x : Int32) : ae_w32 x.toInt = x.toInt := by unfold ae_w32; rw [Int32.ofInt_toInt]
theorem ae_w32_bmod (x : Int) : ae_w32 x = x.bmod (2 ^ 32) := Int32.toInt_ofInt ..
theorem ae_w_add (x y : Int32) : (x + y).toInt = ae_w32 (x.toInt + y.toInt) := by rw [ae_w32_bmod, Int32.toInt_add]
theorem ae_w_sub (x y : Int32) : (x - y).toInt = ae_w32 (x.toInt - y.toInt) := by rw [ae_w32_bmod, Int32.toInt_sub]
theorem ae_w_mul (x y : Int32) : (x * y).toInt = ae_w32 (x.toInt * y.toInt) := by rw [ae_w32_bmod, Int32.toInt_mul]
noncomputable def ae_w64 (x : Int) : Int := (Int64.ofInt x).toInt
theorem ae_w64_rg {x : Int} (h1 : -9223372036854775808 ≤ x) (h2 : x ≤ 9223372036854775807) : ae_w64 x = x := Int64.toInt_ofInt_of_le (by omega) (by omega)
theorem ae_w64_bmod (x : Int) : ae_w64 x = x.bmod (2 ^ 64) := Int64.toInt_ofInt ..
theorem ae_x_add (x y : Int64) : (x + y).toInt = ae_w64 (x.toInt + y.toInt) := by rw [ae_w64_bmod, Int64.toInt_add]
theorem ae_x_sub (x y : Int64) : (x - y).toInt = ae_w64 (x.toInt - y.toInt) := by rw [ae_w64_bmod, Int64.toInt_sub]
theorem ae_x_mul (x y : Int64) : (x * y).toInt = ae_w64 (x.toInt * y.toInt) := by rw [ae_w64_bmod, Int64.toInt_mul]
theorem ae_r64 (x : Int64) : (-9223372036854775808 : Int) ≤ x.toInt ∧ x.toInt ≤ 9223372036854775807 := by
  have h1 := Int64.le_toInt x
  have h2 := Int64.toInt_lt x
  omega
/-- some int of these bounds -/
noncomputable def ae_ni (k : ae_K) (lo hi : Int) : ae_K × ae_V := (ae_new k lo hi, (0, 0, ae_sym k.1))
noncomputable def ae_nj (k : ae_K) : ae_K × ae_V := (ae_new k (-9223372036854775808) 9223372036854775807, (1, 0, ae_sym k.1))
theorem ae_ni_ok {ρ : Nat → Int} {k : ae_K} (h : ae_okK ρ k) {lo hi : Int} {x : Int32} (h1 : lo ≤ x.toInt) (h2 : x.toInt ≤ hi) : ∃ ρ', ae_up2 ρ k ρ' (ae_ni k lo hi).1 ∧ ae_ok (ae_ni k lo hi).1.1 ρ' (ae_ni k lo hi).2 (.int x) := by
  refine ⟨ae_up ρ k.1 x.toInt, ⟨Nat.le_succ _, ae_up_ag _ _ _, ae_new_ok h h1 h2⟩, x, rfl, ?_⟩
  have := ae_sym_dn (n := k.1 + 1) (ρ := ae_up ρ k.1 x.toInt) (s := k.1) (Nat.lt_succ_self _)
  rwa [ae_up_at] at this
theorem ae_nj_ok {ρ : Nat → Int} {k : ae_K} (h : ae_okK ρ k) (x : Int64) : ∃ ρ', ae_up2 ρ k ρ' (ae_nj k).1 ∧ ae_ok (ae_nj k).1.1 ρ' (ae_nj k).2 (.long x) := by
  refine ⟨ae_up ρ k.1 x.toInt, ⟨Nat.le_succ _, ae_up_ag _ _ _, ae_new_ok h (ae_r64 x).1 (ae_r64 x).2⟩, x, rfl, ?_⟩
  have := ae_sym_dn (n := k.1 + 1) (ρ := ae_up ρ k.1 x.toInt) (s := k.1) (Nat.lt_succ_self _)
  rwa [ae_up_at] at this
theorem ae_nf_ok {ρ : Nat → Int} {k : ae_K} (h : ae_okK ρ k) (x : Int32) : ∃ ρ', ae_up2 ρ k ρ' (ae_ni k (-2147483648) 2147483647).1 ∧ ae_ok (ae_ni k (-2147483648) 2147483647).1.1 ρ' (ae_ni k (-2147483648) 2147483647).2 (.int x) := ae_ni_ok h (ae_cell_i32 x).1 (ae_cell_i32 x).2
/-- an int that is e, cut to 32 bits: the same cut is the same symbol -/
noncomputable def ae_pi (k : ae_K) (e : ae_X) : ae_K × ae_V := bif ae_rg k e (-2147483648) 2147483647 then (k, (0, 0, e)) else
  match k.2.2.2.find? fun d => ae_xe d.1 e with
  | some d => (k, (0, 0, ae_sym d.2))
  | none => ((k.1 + 1, (k.1, -2147483648, 2147483647) :: k.2.1, k.2.2.1, (e, k.1) :: k.2.2.2), (0, 0, ae_sym k.1))
theorem ae_pi_ok {ρ : Nat → Int} {k : ae_K} (h : ae_okK ρ k) {e : ae_X} {x : Int} {y : Int32} (hd : ae_dn k.1 ρ e x) (hy : y.toInt = ae_w32 x) : ∃ ρ', ae_up2 ρ k ρ' (ae_pi k e).1 ∧ ae_ok (ae_pi k e).1.1 ρ' (ae_pi k e).2 (.int y) := by
  unfold ae_pi
  cases hb : ae_rg k e (-2147483648) 2147483647 with
  | true =>
    have h1 := ae_rg_ok h hb
    rw [hd.2] at h1
    refine ⟨ρ, ⟨Nat.le_refl _, ae_ag_rf _ _, h⟩, y, rfl, ?_⟩
    rw [hy, ae_w32_rg h1.1 h1.2]
    exact hd
  | false =>
    simp only [cond_false]
    split
    · rename_i d hf
      have h1 := List.mem_of_find?_eq_some hf
      have h2 := List.find?_some hf
      have h3 := h.2.2 d h1
      have h4 : d.1 = e := ae_xe_ok h2
      refine ⟨ρ, ⟨Nat.le_refl _, ae_ag_rf _ _, h⟩, y, rfl, ?_⟩
      have h5 := ae_sym_dn (ρ := ρ) h3.2.1
      have h6 := h3.2.2
      rw [h4, hd.2, ← hy] at h6
      rwa [h6] at h5
    · have hn := ae_new_ok (x := y.toInt) h (ae_cell_i32 y).1 (ae_cell_i32 y).2
      refine ⟨ae_up ρ k.1 y.toInt, ⟨Nat.le_succ _, ae_up_ag _ _ _, hn.1, hn.2.1, fun d hd' => ?_⟩, y, rfl, ?_⟩
      · rcases List.mem_cons.mp hd' with rfl | hd'
        · refine ⟨ae_wt_le (Nat.le_succ _) hd.1, Nat.lt_succ_self _, ?_⟩
          show ae_up ρ k.1 y.toInt k.1 = _
          rw [ae_up_at, ae_ev_ag (ae_up_ag ρ k.1 _) hd.1, hd.2]
          exact hy
        · exact hn.2.2 d hd'
      · have := ae_sym_dn (n := k.1 + 1) (ρ := ae_up ρ k.1 y.toInt) (s := k.1) (Nat.lt_succ_self _)
        rwa [ae_up_at] at this
noncomputable def ae_pj (k : ae_K) (e : ae_X) : ae_K × ae_V := bif ae_rg k e (-9223372036854775808) 9223372036854775807 then (k, (1, 0, e)) else ae_nj k
theorem ae_pj_ok {ρ : Nat → Int} {k : ae_K} (h : ae_okK ρ k) {e : ae_X} {x : Int} {y : Int64} (hd : ae_dn k.1 ρ e x) (hy : y.toInt = ae_w64 x) : ∃ ρ', ae_up2 ρ k ρ' (ae_pj k e).1 ∧ ae_ok (ae_pj k e).1.1 ρ' (ae_pj k e).2 (.long y) := by
  unfold ae_pj
  cases hb : ae_rg k e (-9223372036854775808) 9223372036854775807 with
  | true =>
    have h1 := ae_rg_ok h hb
    rw [hd.2] at h1
    refine ⟨ρ, ⟨Nat.le_refl _, ae_ag_rf _ _, h⟩, y, rfl, ?_⟩
    rw [hy, ae_w64_rg h1.1 h1.2]
    exact hd
  | false => exact ae_nj_ok h y
/-- a sound answer of two ints -/
noncomputable def ae_snd (f : ae_K → ae_X → ae_X → Option (ae_K × ae_V)) (F : Int32 → Int32 → Int32) : Prop := ∀ (ρ : Nat → Int) (k : ae_K) (X Y : ae_X) (x y : Int32) (q : ae_K × ae_V), ae_okK ρ k → ae_dn k.1 ρ X x.toInt → ae_dn k.1 ρ Y y.toInt → f k X Y = some q → ∃ ρ', ae_up2 ρ k ρ' q.1 ∧ ae_ok q.1.1 ρ' q.2 (.int (F x y))
noncomputable def ae_kc (e : ae_X) : Bool := match e.2 with
  | [] => true
  | _ :: _ => false
theorem ae_kc_ok {n : Nat} {ρ : Nat → Int} {e : ae_X} {x : Int} (h : ae_kc e = true) (hd : ae_dn n ρ e x) : x = e.1 := by
  unfold ae_kc at h
  split at h
  · rename_i h1
    have h2 := hd.2
    unfold ae_ev at h2
    rw [h1] at h2
    have h3 : ae_et ρ ([] : ae_T) = 0 := rfl
    omega
  · cases h
/-- two numbers: the answer is a number -/
noncomputable def ae_bc (F : Int32 → Int32 → Int32) (g : ae_K → ae_X → ae_X → Option (ae_K × ae_V)) (k : ae_K) (X0 Y0 : ae_X) : Option (ae_K × ae_V) :=
  bif ae_kc (ae_nr k X0) && ae_kc (ae_nr k Y0) then some (k, (0, 0, ae_num (F (Int32.ofInt (ae_nr k X0).1) (Int32.ofInt (ae_nr k Y0).1)).toInt)) else g k (ae_nr k X0) (ae_nr k Y0)
theorem ae_bc_ok {F : Int32 → Int32 → Int32} {g : ae_K → ae_X → ae_X → Option (ae_K × ae_V)} (hg : ae_snd g F) : ae_snd (ae_bc F g) F := by
  intro ρ k X Y x y q hK hX hY h
  have hX := ae_nr_dn hK hX
  have hY := ae_nr_dn hK hY
  unfold ae_bc at h
  generalize ae_nr k X = X at hX h
  generalize ae_nr k Y = Y at hY h
  cases hb : ae_kc X && ae_kc Y with
  | true =>
    rw [hb] at h
    cases h
    rw [Bool.and_eq_true] at hb
    have h1 := ae_kc_ok hb.1 hX
    have h2 := ae_kc_ok hb.2 hY
    refine ⟨ρ, ⟨Nat.le_refl _, ae_ag_rf _ _, hK⟩, _, rfl, ?_⟩
    have h3 := ae_num_dn (n := k.1) (ρ := ρ) (F (Int32.ofInt X.1) (Int32.ofInt Y.1)).toInt
    rw [← h1, ← h2, Int32.ofInt_toInt, Int32.ofInt_toInt] at h3
    show ae_dn k.1 ρ (ae_num (F (Int32.ofInt X.1) (Int32.ofInt Y.1)).toInt) _
    rw [← h1, ← h2, Int32.ofInt_toInt, Int32.ofInt_toInt]
    exact h3
  | false =>
    rw [hb] at h
    exact hg ρ k X Y x y q hK hX hY h
noncomputable def ae_gadd (k : ae_K) (X Y : ae_X) : Option (ae_K × ae_V) := some (ae_pi k (ae_nr k (ae_add X Y)))
noncomputable def ae_gsub (k : ae_K) (X Y : ae_X) : Option (ae_K × ae_V) := some (ae_pi k (ae_nr k (ae_sub X Y)))
theorem ae_gadd_ok : ae_snd ae_gadd (fun x y => x + y) := by
  intro ρ k X Y x y q hK hX hY h
  cases h
  exact ae_pi_ok hK (ae_nr_dn hK (ae_add_dn hX hY)) (ae_w_add x y)
theorem ae_gsub_ok : ae_snd ae_gsub (fun x y => x - y) := by
  intro ρ k X Y x y q hK hX hY h
  cases h
  exact ae_pi_ok hK (ae_nr_dn hK (ae_sub_dn hX hY)) (ae_w_sub x y)
noncomputable def ae_gful (k : ae_K) (_ _ : ae_X) : Option (ae_K × ae_V) := some (ae_ni k (-2147483648) 2147483647)
theorem ae_gful_ok (F : Int32 → Int32 → Int32) : ae_snd ae_gful F := by
  intro ρ k X Y x y q hK hX hY h
  cases h
  exact ae_nf_ok hK _
noncomputable def ae_gmul (k : ae_K) (X Y : ae_X) : Option (ae_K × ae_V) := bif ae_kc X then some (ae_pi k (ae_scl X.1 Y)) else bif ae_kc Y then some (ae_pi k (ae_scl Y.1 X)) else ae_gful k X Y
theorem ae_gmul_ok : ae_snd ae_gmul (fun x y => x * y) := by
  intro ρ k X Y x y q hK hX hY h
  unfold ae_gmul at h
  cases h1 : ae_kc X with
  | true =>
    rw [h1] at h
    cases h
    have h2 := ae_kc_ok h1 hX
    exact ae_pi_ok hK (ae_scl_dn hY X.1) (by rw [ae_w_mul, h2])
  | false =>
    rw [h1] at h
    cases h3 : ae_kc Y with
    | true =>
      rw [h3] at h
      cases h
      have h2 := ae_kc_ok h3 hY
      exact ae_pi_ok hK (ae_scl_dn hX Y.1) (by rw [ae_w_mul, h2, Int.mul_comm])
    | false =>
      rw [h3] at h
      exact ae_gful_ok _ ρ k X Y x y q hK hX hY h
theorem ae_and_le (x c : Int32) (hc : 0 ≤ c.toInt) : 0 ≤ (x &&& c).toInt ∧ (x &&& c).toInt ≤ c.toInt := by
  have e1 : (x &&& c).toInt = (x.toBitVec &&& c.toBitVec).toInt := rfl
  have e2 : c.toInt = c.toBitVec.toInt := rfl
  have h1 : (x.toBitVec &&& c.toBitVec).toNat ≤ c.toBitVec.toNat := by rw [BitVec.toNat_and]; exact Nat.and_le_right
  have h2 := c.toBitVec.isLt
  rw [e2, BitVec.toInt_eq_toNat_cond] at hc
  rw [e1, e2, BitVec.toInt_eq_toNat_cond, BitVec.toInt_eq_toNat_cond]
  split at hc
  · rename_i h3
    rw [if_pos (by omega), if_pos h3]
    omega
  · omega
noncomputable def ae_gand (k : ae_K) (X Y : ae_X) : Option (ae_K × ae_V) := bif ae_kc Y && ae_nn Y.1 then (bif ae_ie Y.1 1 && ae_rg k X 0 1 then some (k, (0, 0, X)) else bif ae_ie Y.1 255 && ae_rg k X 0 255 then some (k, (0, 0, X)) else bif ae_ie Y.1 255 && ae_rg k X (-128) (-1) then some (k, (0, 0, ae_pls X 256)) else some (ae_ni k 0 Y.1)) else ae_gful k X Y
theorem ae_01 {x : Int32} (h1 : 0 ≤ x.toInt) (h2 : x.toInt ≤ 1) : x = 0 ∨ x = 1 := by
  rcases (by omega : x.toInt = 0 ∨ x.toInt = 1) with h | h
  · exact Or.inl (Int32.toInt_inj.mp (by rw [h]; rfl))
  · exact Or.inr (Int32.toInt_inj.mp (by rw [h]; rfl))
theorem ae_255 {x : Int32} (h1 : 0 ≤ x.toInt) (h2 : x.toInt ≤ 255) : x &&& 255 = x := by
  have h : ∀ n : Fin 256, (Int32.ofNat n.val) &&& 255 = Int32.ofNat n.val := by decide +kernel
  obtain ⟨n, hn⟩ := Int.eq_ofNat_of_zero_le h1
  have e : x = Int32.ofNat n := Int32.toInt_inj.mp (by rw [hn]; exact (Int32.toInt_ofNat_of_lt (by omega)).symm)
  rw [e]
  exact h ⟨n, by omega⟩
theorem ae_m255 {x : Int32} (h1 : -128 ≤ x.toInt) (h2 : x.toInt ≤ -1) : (x &&& 255).toInt = x.toInt + 256 := by
  have h : ∀ n : Fin 128, ((Int32.ofInt (-(n.val : Int) - 1)) &&& 255).toInt = -(n.val : Int) - 1 + 256 := by decide +kernel
  obtain ⟨n, hn⟩ := Int.eq_ofNat_of_zero_le (show 0 ≤ -x.toInt - 1 by omega)
  have e0 : x.toInt = -(n : Int) - 1 := by omega
  have e : x = Int32.ofInt (-(n : Int) - 1) := Int32.toInt_inj.mp (by rw [e0]; exact (Int32.toInt_ofInt_of_le (by omega) (by omega)).symm)
  rw [e0, e]
  exact h ⟨n, by omega⟩
theorem ae_gand_ok : ae_snd ae_gand (fun x y => x &&& y) := by
  intro ρ k X Y x y q hK hX hY h
  unfold ae_gand at h
  cases h1 : ae_kc Y && ae_nn Y.1 with
  | false => rw [h1] at h; exact ae_gful_ok _ ρ k X Y x y q hK hX hY h
  | true =>
    rw [h1] at h
    rw [Bool.and_eq_true] at h1
    have hy := ae_kc_ok h1.1 hY
    have hn := ae_nn_iff.mp h1.2
    cases h2 : ae_ie Y.1 1 && ae_rg k X 0 1 with
    | true =>
      rw [h2] at h
      cases h
      rw [Bool.and_eq_true] at h2
      have e1 := ae_ie_ok h2.1
      have h3 := ae_rg_ok hK h2.2
      rw [hX.2] at h3
      have ey : y = 1 := Int32.toInt_inj.mp (by rw [hy, e1]; rfl)
      refine ⟨ρ, ⟨Nat.le_refl _, ae_ag_rf _ _, hK⟩, x, ?_, hX⟩
      rcases ae_01 h3.1 h3.2 with rfl | rfl <;> rw [ey] <;> rfl
    | false =>
      rw [h2] at h
      cases h4 : ae_ie Y.1 255 && ae_rg k X 0 255 with
      | true =>
        rw [h4] at h
        cases h
        rw [Bool.and_eq_true] at h4
        have e1 := ae_ie_ok h4.1
        have h3 := ae_rg_ok hK h4.2
        rw [hX.2] at h3
        have ey : y = 255 := Int32.toInt_inj.mp (by rw [hy, e1]; rfl)
        refine ⟨ρ, ⟨Nat.le_refl _, ae_ag_rf _ _, hK⟩, x, ?_, hX⟩
        rw [ey]
        show Value.int (x &&& 255) = Value.int x
        rw [ae_255 h3.1 h3.2]
      | false =>
        rw [h4] at h
        cases h5 : ae_ie Y.1 255 && ae_rg k X (-128) (-1) with
        | true =>
          rw [h5] at h
          cases h
          rw [Bool.and_eq_true] at h5
          have e1 := ae_ie_ok h5.1
          have h3 := ae_rg_ok hK h5.2
          rw [hX.2] at h3
          have ey : y = 255 := Int32.toInt_inj.mp (by rw [hy, e1]; rfl)
          refine ⟨ρ, ⟨Nat.le_refl _, ae_ag_rf _ _, hK⟩, x &&& y, rfl, ?_⟩
          rw [ey, ae_m255 h3.1 h3.2]
          exact ae_pls_dn hX 256
        | false =>
          rw [h5] at h
          cases h
          have h3 := ae_and_le x y (by omega)
          exact ae_ni_ok hK h3.1 (by rw [← hy]; exact h3.2)
noncomputable def ae_gor (k : ae_K) (X Y : ae_X) : Option (ae_K × ae_V) := bif ae_rg k X 0 1 && ae_rg k Y 0 1 then some (ae_ni k 0 1) else ae_gful k X Y
theorem ae_gor_ok : ae_snd ae_gor (fun x y => x ||| y) := by
  intro ρ k X Y x y q hK hX hY h
  unfold ae_gor at h
  cases h1 : ae_rg k X 0 1 && ae_rg k Y 0 1 with
  | false => rw [h1] at h; exact ae_gful_ok _ ρ k X Y x y q hK hX hY h
  | true =>
    rw [h1] at h
    cases h
    rw [Bool.and_eq_true] at h1
    have h2 := ae_rg_ok hK h1.1
    have h3 := ae_rg_ok hK h1.2
    rw [hX.2] at h2
    rw [hY.2] at h3
    refine ae_ni_ok hK ?_ ?_ <;> (rcases ae_01 h2.1 h2.2 with rfl | rfl <;> rcases ae_01 h3.1 h3.2 with rfl | rfl <;> decide +kernel)
theorem ae_gxor_ok : ae_snd ae_gor (fun x y => x ^^^ y) := by
  intro ρ k X Y x y q hK hX hY h
  unfold ae_gor at h
  cases h1 : ae_rg k X 0 1 && ae_rg k Y 0 1 with
  | false => rw [h1] at h; exact ae_gful_ok _ ρ k X Y x y q hK hX hY h
  | true =>
    rw [h1] at h
    cases h
    rw [Bool.and_eq_true] at h1
    have h2 := ae_rg_ok hK h1.1
    have h3 := ae_rg_ok hK h1.2
    rw [hX.2] at h2
    rw [hY.2] at h3
    refine ae_ni_ok hK ?_ ?_ <;> (rcases ae_01 h2.1 h2.2 with rfl | rfl <;> rcases ae_01 h3.1 h3.2 with rfl | rfl <;> decide +kernel)
/-- surely not 0 -/
noncomputable def ae_n0 (k : ae_K) (Y : ae_X) : Bool := ae_z k (ae_neg Y 1) || ae_z k (ae_pls Y 1)
theorem ae_n0_ok {ρ : Nat → Int} {k : ae_K} (h : ae_okK ρ k) {n : Nat} {Y : ae_X} {y : Int} (hd : ae_dn n ρ Y y) (q : ae_n0 k Y = true) : y ≠ 0 := by
  unfold ae_n0 at q
  rw [Bool.or_eq_true] at q
  rcases q with q | q
  · have := ae_z_ok h q
    rw [ae_neg_ev, hd.2] at this
    omega
  · have := ae_z_ok h q
    rw [ae_pls_ev, hd.2] at this
    omega
noncomputable def ae_gdiv (k : ae_K) (X Y : ae_X) : Option (ae_K × ae_V) := bif ae_z k (ae_neg X 0) && ae_z k (ae_neg Y 1) then (match ae_hi k X with
  | some u => some (ae_ni k 0 u)
  | none => none) else ae_gful k X Y
theorem ae_div_rg {x y : Int32} (h1 : 0 ≤ x.toInt) (h2 : 1 ≤ y.toInt) : (x / y).toInt = x.toInt / y.toInt ∧ 0 ≤ (x / y).toInt ∧ (x / y).toInt ≤ x.toInt := by
  have h3 : (x / y).toInt = (x.toInt.tdiv y.toInt).bmod (2 ^ 32) := Int32.toInt_div x y
  have h4 : x.toInt.tdiv y.toInt = x.toInt / y.toInt := Int.tdiv_eq_ediv_of_nonneg h1
  have h5 : 0 ≤ x.toInt / y.toInt := Int.ediv_nonneg h1 (by omega)
  have h6 : x.toInt / y.toInt ≤ x.toInt := Int.ediv_le_self _ h1
  have h7 := ae_cell_i32 x
  have h8 : (x.toInt / y.toInt).bmod (2 ^ 32) = x.toInt / y.toInt := by rw [← ae_w32_bmod, ae_w32_rg (by omega) (by omega)]
  rw [h3, h4, h8]
  exact ⟨rfl, h5, h6⟩
theorem ae_gdiv_ok : ae_snd ae_gdiv (fun x y => x / y) := by
  intro ρ k X Y x y q hK hX hY h
  unfold ae_gdiv at h
  cases h1 : ae_z k (ae_neg X 0) && ae_z k (ae_neg Y 1) with
  | false => rw [h1] at h; exact ae_gful_ok _ ρ k X Y x y q hK hX hY h
  | true =>
    rw [h1] at h
    rw [Bool.and_eq_true] at h1
    have h2 := ae_z_ok hK h1.1
    have h3 := ae_z_ok hK h1.2
    rw [ae_neg_ev, hX.2] at h2
    rw [ae_neg_ev, hY.2] at h3
    have h4 := ae_div_rg (x := x) (y := y) (by omega) (by omega)
    simp only [cond_true] at h
    split at h
    · rename_i u hu
      cases h
      have h5 := ae_hi_ok hK hu
      rw [hX.2] at h5
      exact ae_ni_ok hK h4.2.1 (Int.le_trans h4.2.2 h5)
    · cases h
noncomputable def ae_grem (k : ae_K) (X Y : ae_X) : Option (ae_K × ae_V) := bif ae_z k (ae_neg X 0) && ae_z k (ae_neg Y 1) then (match ae_hi k Y with
  | some u => some (ae_ni k 0 (u - 1))
  | none => none) else ae_gful k X Y
theorem ae_grem_ok : ae_snd ae_grem (fun x y => x - x / y * y) := by
  intro ρ k X Y x y q hK hX hY h
  unfold ae_grem at h
  cases h1 : ae_z k (ae_neg X 0) && ae_z k (ae_neg Y 1) with
  | false => rw [h1] at h; exact ae_gful_ok (fun x y => x - x / y * y) ρ k X Y x y q hK hX hY h
  | true =>
    rw [h1] at h
    rw [Bool.and_eq_true] at h1
    have h2 := ae_z_ok hK h1.1
    have h3 := ae_z_ok hK h1.2
    rw [ae_neg_ev, hX.2] at h2
    rw [ae_neg_ev, hY.2] at h3
    have h4 := ae_div_rg (x := x) (y := y) (by omega) (by omega)
    have h7 := ae_cell_i32 x
    have e1 : y.toInt * (x.toInt / y.toInt) + x.toInt % y.toInt = x.toInt := Int.mul_ediv_add_emod _ _
    have e2 := Int.emod_nonneg x.toInt (show y.toInt ≠ 0 by omega)
    have e3 := Int.emod_lt_of_pos x.toInt (show 0 < y.toInt by omega)
    have e4 : 0 ≤ y.toInt * (x.toInt / y.toInt) := Int.mul_nonneg (by omega) (by omega)
    have e5 : (x / y * y).toInt = y.toInt * (x.toInt / y.toInt) := by rw [ae_w_mul, h4.1, Int.mul_comm, ae_w32_rg (by omega) (by omega)]
    have e6 : (x - x / y * y).toInt = x.toInt % y.toInt := by rw [ae_w_sub, e5, ae_w32_rg (by omega) (by omega)]; omega
    simp only [cond_true] at h
    split at h
    · rename_i u hu
      cases h
      have h5 := ae_hi_ok hK hu
      rw [hY.2] at h5
      exact ae_ni_ok hK (by rw [e6]; exact e2) (by rw [e6]; omega)
    · cases h
