/-! The script and the text, wherever the machine stands -/
noncomputable def am_XS (sa S L : Nat) (xs : Nat → Int32) (U : State) (H : Heap) : Prop := va_X sa L xs U H ∧ ∃ aK aV : Nat, vk_R "LastLayer$Tape" 87 sj_tx aK U ∧ sj_W S aK aV U H
theorem am_XS.same {sa S L : Nat} {xs : Nat → Int32} {u U : State} {H : Heap} (h : u.vm = U.vm) (k : am_XS sa S L xs u H) : am_XS sa S L xs U H := by
  obtain ⟨k1, aK, aV, k2, k3⟩ := k
  have hA : u.vm.Alike U.vm := by rw [h]; exact Vm.Alike.refl U.vm
  exact ⟨va_X.moved hA k1, aK, aV, vk_R.same h.symm k2, sj_W.moved hA k3⟩
theorem am_XS.warm {sa S L : Nat} {xs : Nat → Int32} {s U : State} {H H1 : Heap} (hW : s.WarmedH U.vm) (hs : sa < S) (hz : S ≤ H.size) (hq : ∀ q : Nat, q < H.size → ¬ S ≤ q → H1[q]? = H[q]?) (k : am_XS sa S L xs s H) : am_XS sa S L xs U H1 := by
  obtain ⟨k1, aK, aV, k2, k3⟩ := k
  exact ⟨va_X.moved hW.alike (k1.kept (hq sa (Nat.lt_of_lt_of_le hs hz) (Nat.not_le.mpr hs))), aK, aV, vk_R.warm hW k2, sj_W.moved hW.alike (k3.kept hq)⟩
