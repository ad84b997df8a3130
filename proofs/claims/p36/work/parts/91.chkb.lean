theorem and_t {a b : Bool} (h : a = true) (h2 : b = true) : (a && b) = true := by rw [h, h2]; rfl
theorem chw_0 : maB 95 0 b_W_law_0 = true := by decide +kernel
theorem chw_66 : maB 95 66 b_W_law_66 = true := by decide +kernel
theorem chw_68 : maB 95 68 b_W_law_68 = true := by decide +kernel
theorem chw_70 : maB 95 70 b_W_law_70 = true := by decide +kernel
theorem chw_115 : maB 95 115 b_W_law_115 = true := by decide +kernel
theorem chw_121 : maB 95 121 b_W_law_121 = true := by decide +kernel
theorem chw_123 : maB 95 123 b_W_law_123 = true := by decide +kernel
theorem chw_189 : maB 95 189 b_W_law_189 = true := by decide +kernel
theorem chw_191 : maB 95 191 b_W_law_191 = true := by decide +kernel
theorem chw_197 : maB 95 197 b_W_law_197 = true := by decide +kernel
set_option maxRecDepth 100000 in
theorem ch_95 : chM 95 = true := and_t (by decide +kernel) (and_t chw_0 (and_t chw_66 (and_t chw_68 (and_t chw_70 (and_t chw_115 (and_t chw_121 (and_t chw_123 (and_t chw_189 (and_t chw_191 (and_t chw_197 rfl))))))))))
