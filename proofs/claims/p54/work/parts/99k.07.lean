/-! Acts, 7 -/
theorem k_mark_h59_k : ab_chk k_mark_W 4000 true false k_mark_h59 = true := af_ck (af_hd_ok rfl) (by decide +kernel)
