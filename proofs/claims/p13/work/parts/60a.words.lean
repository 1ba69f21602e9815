noncomputable def am_G : List Cond := lw_tbl.filter goodWord
theorem am_G_of {w : Cond} (h : w ∈ lw_tbl) (hg : goodWord w = true) : w ∈ am_G := List.mem_filter.mpr ⟨h, hg⟩
