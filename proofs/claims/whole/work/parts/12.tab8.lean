theorem ok_tbl_15 : tb_law_15.all (xi_tbc cL_law) = true := by decide +kernel
theorem ok_tbl_16 : tb_law_16.all (xi_tbc cL_law) = true := by decide +kernel
theorem ok_tbl_17 : tb_law_17.all (xi_tbc cL_law) = true := by decide +kernel
theorem ok_tbl_18 : tb_law_18.all (xi_tbc cL_law) = true := by decide +kernel
theorem ok_tbl_19 : tb_law_19.all (xi_tbc cL_law) = true := by decide +kernel
