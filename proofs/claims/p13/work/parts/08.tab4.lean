theorem ok_tb_L_count : xi_tbk mi_L_count = true := by decide +kernel
