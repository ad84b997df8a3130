theorem okM_0 : (List.range' 0 17).all okM = true := by decide +kernel
