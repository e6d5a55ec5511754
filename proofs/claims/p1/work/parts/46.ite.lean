/-! ===== by program (wip/gen/gen4.py): iterations ===== -/
theorem it22_0_0 : (List.range' 0 8).all (itOK 1 10 87 1 152 E22 hi22_0 (hx22_0 (.inr (.inl 1)))) = true := by decide +kernel
theorem it22_0_8 : (List.range' 8 8).all (itOK 1 10 87 1 152 E22 hi22_0 (hx22_0 (.inr (.inl 1)))) = true := by decide +kernel
theorem it22_1_0 : (List.range' 0 8).all (itOK 1 10 87 1 152 E22 hi22_1 (hx22_1 (.inr (.inl 1)))) = true := by decide +kernel
theorem it22_1_8 : (List.range' 8 8).all (itOK 1 10 87 1 152 E22 hi22_1 (hx22_1 (.inr (.inl 1)))) = true := by decide +kernel
theorem it22_2_0 : (List.range' 0 8).all (itOK 1 10 87 1 152 E22 hi22_2 (hx22_2 (.inr (.inl 1)))) = true := by decide +kernel
theorem it22_2_8 : (List.range' 8 8).all (itOK 1 10 87 1 152 E22 hi22_2 (hx22_2 (.inr (.inl 1)))) = true := by decide +kernel
theorem it22_3_0 : (List.range' 0 8).all (itOK 1 10 87 1 152 E22 hi22_3 (hx22_3 (.inr (.inl 1)))) = true := by decide +kernel
theorem it22_3_8 : (List.range' 8 8).all (itOK 1 10 87 1 152 E22 hi22_3 (hx22_3 (.inr (.inl 1)))) = true := by decide +kernel
theorem it22_4_0 : (List.range' 0 8).all (itOK 1 10 87 1 152 E22 hi22_4 (hx22_4 (.inr (.inl 1)))) = true := by decide +kernel
theorem it22_4_8 : (List.range' 8 8).all (itOK 1 10 87 1 152 E22 hi22_4 (hx22_4 (.inr (.inl 1)))) = true := by decide +kernel
