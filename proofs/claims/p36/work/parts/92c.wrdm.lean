theorem okM_8 : (List.range' 64 8).all okM = true := by decide +kernel
theorem okM_9 : (List.range' 72 8).all okM = true := by decide +kernel
theorem okM_10 : (List.range' 80 8).all okM = true := by decide +kernel
theorem okM_11 : (List.range' 88 7).all okM = true := by decide +kernel
