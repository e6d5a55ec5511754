/-! ===== ifOpened, by the weight ===== -/
def env23 (lo hi : Nat) : EV := [(0, 4294967295), (0, 4294967295), (lo, hi), (0, 4294967295), (2147483671, 2147483671)]
theorem op_23_l : okR (law_x B0 10000000 4 (env23 0 2147483648)) = true := by decide +kernel
theorem op_23_h : okR (law_x B0 10000000 4 (env23 2147483658 4294967295)) = true := by decide +kernel
theorem op_23_1 : okR (law_x B0 10000000 4 (env23 2147483649 2147483649)) = true := by decide +kernel
theorem op_23_2 : okR (law_x B0 10000000 4 (env23 2147483650 2147483650)) = true := by decide +kernel
theorem op_23_3 : okR (law_x B0 10000000 4 (env23 2147483651 2147483651)) = true := by decide +kernel
theorem op_23_4 : okR (law_x B0 10000000 4 (env23 2147483652 2147483652)) = true := by decide +kernel
theorem op_23_5 : okR (law_x B0 10000000 4 (env23 2147483653 2147483653)) = true := by decide +kernel
theorem op_23_6 : okR (law_x B0 10000000 4 (env23 2147483654 2147483654)) = true := by decide +kernel
theorem op_23_7 : okR (law_x B0 10000000 4 (env23 2147483655 2147483655)) = true := by decide +kernel
theorem op_23_8 : okR (law_x B0 10000000 4 (env23 2147483656 2147483656)) = true := by decide +kernel
theorem op_23_9 : okR (law_x B0 10000000 4 (env23 2147483657 2147483657)) = true := by decide +kernel
