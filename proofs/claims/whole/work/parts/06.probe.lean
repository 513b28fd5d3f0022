theorem rp_good : lw_tbl.all goodWord = true := by decide +kernel
theorem rp_len : lw_tbl.length = 1300 := by decide +kernel
