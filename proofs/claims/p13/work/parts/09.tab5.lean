theorem ok_tbl_0 : tb_law_0.all (xi_tbc cL_law) = true := by decide +kernel
theorem ok_tbl_1 : tb_law_1.all (xi_tbc cL_law) = true := by decide +kernel
theorem ok_tbl_2 : tb_law_2.all (xi_tbc cL_law) = true := by decide +kernel
theorem ok_tbl_3 : tb_law_3.all (xi_tbc cL_law) = true := by decide +kernel
theorem ok_tbl_4 : tb_law_4.all (xi_tbc cL_law) = true := by decide +kernel
