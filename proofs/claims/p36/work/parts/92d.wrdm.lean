theorem okM_3 : (List.range' 51 17).all okM = true := by decide +kernel
