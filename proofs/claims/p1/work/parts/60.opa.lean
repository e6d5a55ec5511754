/-! ===== one call, by its number ===== -/
theorem op_0 : okR (law_x B0 10000000 4 (env5 2147483648 2147483648)) = true := by decide +kernel
theorem op_1 : okR (law_x B0 10000000 4 (env5 2147483649 2147483649)) = true := by decide +kernel
theorem op_2 : okR (law_x B0 10000000 4 (env5 2147483650 2147483650)) = true := by decide +kernel
theorem op_3 : okR (law_x B0 10000000 4 (env5 2147483651 2147483651)) = true := by decide +kernel
theorem op_4 : okR (law_x B0 10000000 4 (env5 2147483652 2147483652)) = true := by decide +kernel
theorem op_5 : okR (law_x B0 10000000 4 (env5 2147483653 2147483653)) = true := by decide +kernel
theorem op_6 : okR (law_x B0 10000000 4 (env5 2147483654 2147483654)) = true := by decide +kernel
theorem op_7 : okR (law_x B0 10000000 4 (env5 2147483655 2147483655)) = true := by decide +kernel
theorem op_8 : okR (law_x B0 10000000 4 (env5 2147483656 2147483656)) = true := by decide +kernel
theorem op_9 : okR (law_x B0 10000000 4 (env5 2147483657 2147483657)) = true := by decide +kernel
