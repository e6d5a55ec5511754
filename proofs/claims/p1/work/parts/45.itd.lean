/-! ===== by program (wip/gen/gen4.py): iterations ===== -/
theorem it21_1_0 : (List.range' 0 8).all (itOK 2 9 75 2 152 E21 hi21_1 (hx21_1 (.inr (.inl 2)))) = true := by decide +kernel
theorem it21_1_8 : (List.range' 8 8).all (itOK 2 9 75 2 152 E21 hi21_1 (hx21_1 (.inr (.inl 2)))) = true := by decide +kernel
theorem it21_1_16 : (List.range' 16 8).all (itOK 2 9 75 2 152 E21 hi21_1 (hx21_1 (.inr (.inl 2)))) = true := by decide +kernel
theorem it21_1_24 : (List.range' 24 8).all (itOK 2 9 75 2 152 E21 hi21_1 (hx21_1 (.inr (.inl 2)))) = true := by decide +kernel
theorem it21_1_32 : (List.range' 32 8).all (itOK 2 9 75 2 152 E21 hi21_1 (hx21_1 (.inr (.inl 2)))) = true := by decide +kernel
theorem it21_1_40 : (List.range' 40 8).all (itOK 2 9 75 2 152 E21 hi21_1 (hx21_1 (.inr (.inl 2)))) = true := by decide +kernel
theorem it21_1_48 : (List.range' 48 8).all (itOK 2 9 75 2 152 E21 hi21_1 (hx21_1 (.inr (.inl 2)))) = true := by decide +kernel
theorem it21_1_56 : (List.range' 56 5).all (itOK 2 9 75 2 152 E21 hi21_1 (hx21_1 (.inr (.inl 2)))) = true := by decide +kernel
