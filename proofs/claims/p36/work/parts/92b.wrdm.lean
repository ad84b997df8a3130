theorem okM_1 : (List.range' 17 17).all okM = true := by decide +kernel
