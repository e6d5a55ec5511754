/-! ===== by program (wip/gen/gen4.py): iterations ===== -/
theorem it10_0_0 : (List.range' 0 8).all (itOK 1 10 10 1 152 E10 hi10_0 (hx10_0 (.inr (.inl 1)))) = true := by decide +kernel
theorem it10_0_8 : (List.range' 8 8).all (itOK 1 10 10 1 152 E10 hi10_0 (hx10_0 (.inr (.inl 1)))) = true := by decide +kernel
theorem it10_0_16 : (List.range' 16 8).all (itOK 1 10 10 1 152 E10 hi10_0 (hx10_0 (.inr (.inl 1)))) = true := by decide +kernel
theorem it10_0_24 : (List.range' 24 8).all (itOK 1 10 10 1 152 E10 hi10_0 (hx10_0 (.inr (.inl 1)))) = true := by decide +kernel
theorem it10_0_32 : (List.range' 32 8).all (itOK 1 10 10 1 152 E10 hi10_0 (hx10_0 (.inr (.inl 1)))) = true := by decide +kernel
theorem it10_0_40 : (List.range' 40 8).all (itOK 1 10 10 1 152 E10 hi10_0 (hx10_0 (.inr (.inl 1)))) = true := by decide +kernel
theorem it10_0_48 : (List.range' 48 8).all (itOK 1 10 10 1 152 E10 hi10_0 (hx10_0 (.inr (.inl 1)))) = true := by decide +kernel
theorem it10_0_56 : (List.range' 56 5).all (itOK 1 10 10 1 152 E10 hi10_0 (hx10_0 (.inr (.inl 1)))) = true := by decide +kernel
