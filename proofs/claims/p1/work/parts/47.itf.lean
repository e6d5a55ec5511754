/-! ===== by program (wip/gen/gen4.py): iterations ===== -/
theorem it22_5_0 : (List.range' 0 8).all (itOK 2 9 75 1 152 E22 hi22_5 (hx22_5 (.inr (.inl 1)))) = true := by decide +kernel
theorem it22_5_8 : (List.range' 8 8).all (itOK 2 9 75 1 152 E22 hi22_5 (hx22_5 (.inr (.inl 1)))) = true := by decide +kernel
theorem it22_6_0 : (List.range' 0 8).all (itOK 2 9 75 1 152 E22 hi22_6 (hx22_6 (.inr (.inl 1)))) = true := by decide +kernel
theorem it22_6_8 : (List.range' 8 8).all (itOK 2 9 75 1 152 E22 hi22_6 (hx22_6 (.inr (.inl 1)))) = true := by decide +kernel
theorem it22_7_0 : (List.range' 0 8).all (itOK 2 9 75 1 152 E22 hi22_7 (hx22_7 (.inr (.inl 1)))) = true := by decide +kernel
theorem it22_7_8 : (List.range' 8 8).all (itOK 2 9 75 1 152 E22 hi22_7 (hx22_7 (.inr (.inl 1)))) = true := by decide +kernel
theorem it22_8_0 : (List.range' 0 8).all (itOK 2 9 75 1 152 E22 hi22_8 (hx22_8 (.inr (.inl 1)))) = true := by decide +kernel
theorem it22_8_8 : (List.range' 8 8).all (itOK 2 9 75 1 152 E22 hi22_8 (hx22_8 (.inr (.inl 1)))) = true := by decide +kernel
theorem it22_9_0 : (List.range' 0 8).all (itOK 2 9 75 1 152 E22 hi22_9 (hx22_9 (.inr (.inl 1)))) = true := by decide +kernel
theorem it22_9_8 : (List.range' 8 8).all (itOK 2 9 75 1 152 E22 hi22_9 (hx22_9 (.inr (.inl 1)))) = true := by decide +kernel
