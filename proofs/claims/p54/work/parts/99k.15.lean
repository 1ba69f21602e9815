/-! Acts, 15 -/
theorem k_back_h59_k : ab_chk k_back_W 4000 true false k_back_h59 = true := af_ck (af_hd_ok rfl) (by decide +kernel)
