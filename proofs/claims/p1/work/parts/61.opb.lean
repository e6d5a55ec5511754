/-! ===== one call, by its number (2) ===== -/
theorem op_11 : okR (law_x B0 10000000 4 (env5 2147483659 2147483659)) = true := by decide +kernel
theorem op_12 : okR (law_x B0 10000000 4 (env5 2147483660 2147483660)) = true := by decide +kernel
theorem op_13 : okR (law_x B0 10000000 4 (env5 2147483661 2147483661)) = true := by decide +kernel
theorem op_14 : okR (law_x B0 10000000 4 (env5 2147483662 2147483662)) = true := by decide +kernel
theorem op_15 : okR (law_x B0 10000000 4 (env5 2147483663 2147483663)) = true := by decide +kernel
theorem op_16 : okR (law_x B0 10000000 4 (env5 2147483664 2147483664)) = true := by decide +kernel
theorem op_17 : okR (law_x B0 10000000 4 (env5 2147483665 2147483665)) = true := by decide +kernel
theorem op_18 : okR (law_x B0 10000000 4 (env5 2147483666 2147483666)) = true := by decide +kernel
theorem op_19 : okR (law_x B0 10000000 4 (env5 2147483667 2147483667)) = true := by decide +kernel
theorem op_20 : okR (law_x B0 10000000 4 (env5 2147483668 2147483668)) = true := by decide +kernel
