theorem dk_L_law8 : pg_L_law8.all (sm_dq code) = true := by decide +kernel
theorem dk_L_law9 : pg_L_law9.all (sm_dq code) = true := by decide +kernel
