theorem ok_tbl_10 : tb_law_10.all (xi_tbc cL_law) = true := by decide +kernel
theorem ok_tbl_11 : tb_law_11.all (xi_tbc cL_law) = true := by decide +kernel
theorem ok_tbl_12 : tb_law_12.all (xi_tbc cL_law) = true := by decide +kernel
theorem ok_tbl_13 : tb_law_13.all (xi_tbc cL_law) = true := by decide +kernel
