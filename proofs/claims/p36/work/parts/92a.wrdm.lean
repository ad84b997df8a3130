theorem okM_0 : (List.range' 0 8).all okM = true := by decide +kernel
theorem okM_1 : (List.range' 8 8).all okM = true := by decide +kernel
theorem okM_2 : (List.range' 16 8).all okM = true := by decide +kernel
theorem okM_3 : (List.range' 24 8).all okM = true := by decide +kernel
