theorem okM_4 : (List.range' 68 17).all okM = true := by decide +kernel
