theorem zz_test : (lw_tbl.filter goodWord).length = 0 := by decide +kernel
