theorem dk_L_law2 : pg_L_law2.all (sm_dq code) = true := by decide +kernel
theorem dk_L_law3 : pg_L_law3.all (sm_dq code) = true := by decide +kernel
