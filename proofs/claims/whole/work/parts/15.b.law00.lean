theorem dk_L_law0 : pg_L_law0.all (sm_dq code) = true := by decide +kernel
theorem dk_L_law1 : pg_L_law1.all (sm_dq code) = true := by decide +kernel
