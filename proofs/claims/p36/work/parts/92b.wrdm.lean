theorem okM_4 : (List.range' 32 8).all okM = true := by decide +kernel
theorem okM_5 : (List.range' 40 8).all okM = true := by decide +kernel
theorem okM_6 : (List.range' 48 8).all okM = true := by decide +kernel
theorem okM_7 : (List.range' 56 8).all okM = true := by decide +kernel
