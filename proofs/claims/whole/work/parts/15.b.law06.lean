theorem dk_L_law6 : pg_L_law6.all (sm_dq code) = true := by decide +kernel
theorem dk_L_law7 : pg_L_law7.all (sm_dq code) = true := by decide +kernel
