/-! ===== the calls that run ticks ===== -/
theorem op_10 : okR (law_x K10 10000000 4 (env5 2147483658 2147483658)) = true := by decide +kernel
theorem op_21 : okR (law_x K21 10000000 4 (env5 2147483669 2147483669)) = true := by decide +kernel
theorem op_22 : okR (law_x K22 10000000 4 (env5 2147483670 2147483670)) = true := by decide +kernel
