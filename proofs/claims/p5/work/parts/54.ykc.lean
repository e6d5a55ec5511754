/-! ===== by program (wip/gen/gen5.py): the methods of the class against their contracts ===== -/
theorem kE_0 : [11, 12, 13, 16, 17, 20, 24, 25, 26, 32].all ckE = true := by decide +kernel
theorem kE_1 : [33, 36, 39, 40, 41, 44, 45, 47, 48, 49].all ckE = true := by decide +kernel
theorem kE_2 : [51, 52, 53, 54, 56, 58, 61, 62, 63, 65].all ckE = true := by decide +kernel
theorem kE_3 : [66, 67, 70, 72, 73, 75, 76, 77, 81, 83].all ckE = true := by decide +kernel
theorem kE_4 : [84, 85, 86, 87, 89, 91, 92, 93, 94, 95].all ckE = true := by decide +kernel
theorem kE_5 : [96, 97, 98, 99, 100, 101, 102, 103, 104, 105].all ckE = true := by decide +kernel
theorem kE_6 : [106, 107, 108, 109, 111, 112, 113, 115, 116, 129].all ckE = true := by decide +kernel
theorem kE_7 : [135, 148, 149, 155, 158, 159, 166, 167, 168, 169].all ckE = true := by decide +kernel
theorem kE_8 : [170, 171, 172, 175, 176, 177, 185].all ckE = true := by decide +kernel
def sr_164 : List (Nat × Nat) := [(2147483648, 2147483648), (2147483649, 2147483649), (2147483650, 2147483650), (2147483651, 2147483651), (2147483652, 2147483652), (2147483653, 2147483653), (2147483654, 2147483654), (2147483655, 2147483655), (2147483656, 2147483656), (2147483657, 2147483657)]
theorem kA_164 : ckA 164 1 sr_164 = true := by decide +kernel
theorem kL_0_0 : ckL 0 0 11 = true := by decide +kernel
theorem kL_1_0 : ckL 1 0 11 = true := by decide +kernel
theorem kL_2_0 : ckL 2 0 4 = true := by decide +kernel
theorem kL_2_4 : ckL 2 4 4 = true := by decide +kernel
theorem kL_2_8 : ckL 2 8 2 = true := by decide +kernel
theorem kL_3_0 : ckL 3 0 11 = true := by decide +kernel
theorem kL_4_0 : ckL 4 0 11 = true := by decide +kernel
theorem kL_5_0 : ckL 5 0 11 = true := by decide +kernel
theorem kL_6_0 : ckL 6 0 11 = true := by decide +kernel
theorem kL_7_0 : ckL 7 0 11 = true := by decide +kernel
theorem kL_8_0 : ckL 8 0 11 = true := by decide +kernel
theorem kL_8_11 : ckL 8 11 11 = true := by decide +kernel
theorem kL_8_22 : ckL 8 22 11 = true := by decide +kernel
theorem kL_8_33 : ckL 8 33 11 = true := by decide +kernel
theorem kL_8_44 : ckL 8 44 11 = true := by decide +kernel
theorem kL_8_55 : ckL 8 55 6 = true := by decide +kernel
theorem kL_9_0 : ckL 9 0 11 = true := by decide +kernel
theorem kL_10_0 : ckL 10 0 11 = true := by decide +kernel
theorem kL_11_0 : ckL 11 0 11 = true := by decide +kernel
theorem kL_12_0 : ckL 12 0 11 = true := by decide +kernel
theorem kL_13_0 : ckL 13 0 11 = true := by decide +kernel
theorem kL_13_11 : ckL 13 11 11 = true := by decide +kernel
theorem kL_13_22 : ckL 13 22 11 = true := by decide +kernel
theorem kL_13_33 : ckL 13 33 11 = true := by decide +kernel
theorem kL_13_44 : ckL 13 44 11 = true := by decide +kernel
theorem kL_13_55 : ckL 13 55 6 = true := by decide +kernel
theorem kL_15_0 : ckL 15 0 11 = true := by decide +kernel
theorem kL_15_11 : ckL 15 11 11 = true := by decide +kernel
theorem kL_15_22 : ckL 15 22 11 = true := by decide +kernel
theorem kL_15_33 : ckL 15 33 11 = true := by decide +kernel
theorem kL_15_44 : ckL 15 44 11 = true := by decide +kernel
theorem kL_15_55 : ckL 15 55 10 = true := by decide +kernel
theorem kL_16_0 : ckL 16 0 11 = true := by decide +kernel
theorem kL_17_0 : ckL 17 0 11 = true := by decide +kernel
theorem kL_20_0 : ckL 20 0 9 = true := by decide +kernel
theorem kL_21_0 : ckL 21 0 11 = true := by decide +kernel
theorem kL_22_0 : ckL 22 0 11 = true := by decide +kernel
theorem kL_23_0 : ckL 23 0 11 = true := by decide +kernel
theorem kL_24_0 : ckL 24 0 11 = true := by decide +kernel
theorem kL_25_0 : ckL 25 0 11 = true := by decide +kernel
theorem kL_26_0 : ckL 26 0 11 = true := by decide +kernel
theorem kL_27_0 : ckL 27 0 11 = true := by decide +kernel
theorem kL_28_0 : ckL 28 0 11 = true := by decide +kernel
theorem kL_29_0 : ckL 29 0 6 = true := by decide +kernel
theorem kL_30_0 : ckL 30 0 11 = true := by decide +kernel
theorem kL_30_11 : ckL 30 11 3 = true := by decide +kernel
theorem kL_31_0 : ckL 31 0 11 = true := by decide +kernel
theorem kL_32_0 : ckL 32 0 11 = true := by decide +kernel
theorem kL_32_11 : ckL 32 11 11 = true := by decide +kernel
theorem kL_32_22 : ckL 32 22 11 = true := by decide +kernel
theorem kL_32_33 : ckL 32 33 11 = true := by decide +kernel
theorem kL_32_44 : ckL 32 44 11 = true := by decide +kernel
theorem kL_32_55 : ckL 32 55 6 = true := by decide +kernel
theorem kL_33_0 : ckL 33 0 11 = true := by decide +kernel
theorem kL_33_11 : ckL 33 11 7 = true := by decide +kernel
theorem kL_34_0 : ckL 34 0 7 = true := by decide +kernel
theorem kL_35_0 : ckL 35 0 11 = true := by decide +kernel
theorem kL_35_11 : ckL 35 11 11 = true := by decide +kernel
theorem kL_35_22 : ckL 35 22 11 = true := by decide +kernel
theorem kL_35_33 : ckL 35 33 11 = true := by decide +kernel
theorem kL_35_44 : ckL 35 44 11 = true := by decide +kernel
theorem kL_35_55 : ckL 35 55 10 = true := by decide +kernel
theorem kL_36_0 : ckL 36 0 11 = true := by decide +kernel
theorem kL_37_0 : ckL 37 0 50 = true := by decide +kernel
theorem kL_37_50 : ckL 37 50 50 = true := by decide +kernel
theorem kL_37_100 : ckL 37 100 50 = true := by decide +kernel
theorem kL_37_150 : ckL 37 150 50 = true := by decide +kernel
theorem kL_37_200 : ckL 37 200 1 = true := by decide +kernel
theorem kL_38_0 : ckL 38 0 50 = true := by decide +kernel
theorem kL_38_50 : ckL 38 50 50 = true := by decide +kernel
theorem kL_38_100 : ckL 38 100 50 = true := by decide +kernel
theorem kL_38_150 : ckL 38 150 50 = true := by decide +kernel
theorem kL_38_200 : ckL 38 200 1 = true := by decide +kernel
theorem kL_39_0 : ckL 39 0 50 = true := by decide +kernel
theorem kL_39_50 : ckL 39 50 50 = true := by decide +kernel
theorem kL_39_100 : ckL 39 100 50 = true := by decide +kernel
theorem kL_39_150 : ckL 39 150 50 = true := by decide +kernel
theorem kL_39_200 : ckL 39 200 1 = true := by decide +kernel
theorem kL_40_0 : ckL 40 0 11 = true := by decide +kernel
theorem kL_41_0 : ckL 41 0 11 = true := by decide +kernel
theorem kL_42_0 : ckL 42 0 11 = true := by decide +kernel
theorem kL_43_0 : ckL 43 0 50 = true := by decide +kernel
theorem kL_43_50 : ckL 43 50 50 = true := by decide +kernel
theorem kL_43_100 : ckL 43 100 50 = true := by decide +kernel
theorem kL_43_150 : ckL 43 150 50 = true := by decide +kernel
theorem kL_43_200 : ckL 43 200 1 = true := by decide +kernel
theorem kL_44_0 : ckL 44 0 11 = true := by decide +kernel
theorem kL_44_11 : ckL 44 11 7 = true := by decide +kernel
theorem kL_45_0 : ckL 45 0 7 = true := by decide +kernel
theorem kL_46_0 : ckL 46 0 50 = true := by decide +kernel
theorem kL_46_50 : ckL 46 50 50 = true := by decide +kernel
theorem kL_46_100 : ckL 46 100 50 = true := by decide +kernel
theorem kL_46_150 : ckL 46 150 50 = true := by decide +kernel
theorem kL_46_200 : ckL 46 200 1 = true := by decide +kernel
