/-! The tables are sound -/
theorem ae_rok_ok : ae_rok = true := by decide +kernel
theorem ae_fok_ok : ae_fok = true := by decide +kernel
theorem ae_ctc {c : ae_Ct} (t : ae_CT c) {r : List ae_Ct} (u : ∀ c ∈ r, ae_CT c) : ∀ c' ∈ c :: r, ae_CT c' := fun c' q => by
  rcases List.mem_cons.mp q with rfl | q
  · exact t
  · exact u c' q
