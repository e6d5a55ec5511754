/-! ===== one call, by its number (3) ===== -/
theorem op_24 : okR (law_x B0 10000000 4 (env5 2147483672 2147483672)) = true := by decide +kernel
theorem op_25 : okR (law_x B0 10000000 4 (env5 2147483673 2147483673)) = true := by decide +kernel
theorem op_26 : okR (law_x B0 10000000 4 (env5 2147483674 2147483679)) = true := by decide +kernel
