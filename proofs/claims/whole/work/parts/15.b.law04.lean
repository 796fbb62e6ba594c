theorem dk_L_law4 : pg_L_law4.all (sm_dq code) = true := by decide +kernel
theorem dk_L_law5 : pg_L_law5.all (sm_dq code) = true := by decide +kernel
