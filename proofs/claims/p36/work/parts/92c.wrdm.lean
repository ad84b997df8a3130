theorem okM_2 : (List.range' 34 17).all okM = true := by decide +kernel
