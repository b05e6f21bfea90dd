theorem ok_tbl_5 : tb_law_5.all (xi_tbc cL_law) = true := by decide +kernel
theorem ok_tbl_6 : tb_law_6.all (xi_tbc cL_law) = true := by decide +kernel
theorem ok_tbl_7 : tb_law_7.all (xi_tbc cL_law) = true := by decide +kernel
theorem ok_tbl_8 : tb_law_8.all (xi_tbc cL_law) = true := by decide +kernel
theorem ok_tbl_9 : tb_law_9.all (xi_tbc cL_law) = true := by decide +kernel
