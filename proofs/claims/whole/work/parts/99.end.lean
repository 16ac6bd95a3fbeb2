theorem zz_1 : lw_tbl.length = 1206 := by decide +kernel
