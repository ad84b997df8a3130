theorem okM_all : ∀ k, k < 95 → okM k = true := by
  intro k hk
  rcases (show (0 ≤ k ∧ k < 17) ∨ (17 ≤ k ∧ k < 34) ∨ (34 ≤ k ∧ k < 51) ∨ (51 ≤ k ∧ k < 68) ∨ (68 ≤ k ∧ k < 85) ∨ k = 85 ∨ k = 86 ∨ k = 87 ∨ k = 88 ∨ k = 89 ∨ k = 90 ∨ k = 91 ∨ k = 92 ∨ k = 93 ∨ k = 94 by omega) with h | h | h | h | h | rfl | rfl | rfl | rfl | rfl | rfl | rfl | rfl | rfl | rfl
  · exact List.all_eq_true.mp okM_0 k (List.mem_range'_1.mpr ⟨h.1, by omega⟩)
  · exact List.all_eq_true.mp okM_1 k (List.mem_range'_1.mpr ⟨h.1, by omega⟩)
  · exact List.all_eq_true.mp okM_2 k (List.mem_range'_1.mpr ⟨h.1, by omega⟩)
  · exact List.all_eq_true.mp okM_3 k (List.mem_range'_1.mpr ⟨h.1, by omega⟩)
  · exact List.all_eq_true.mp okM_4 k (List.mem_range'_1.mpr ⟨h.1, by omega⟩)
  · exact okW_85
  · exact okW_86
  · exact okW_87
  · exact okW_88
  · exact okW_89
  · exact okW_90
  · exact okW_91
  · exact okW_92
  · exact okW_93
  · exact okW_94
theorem tbs : Tbs := ⟨okF_map, okF_all, okS_map, okS_all, okN_map, okN_all, okA_map, okA_all, okL_map, okL_all, okC_map, okC_all, okT_map, okT_all, okU_all, wd_obj, wd_obi, wd_acn, wd_acs, wd_sys, wd_mat, wd_cabs, wd_sabs, wd_cmin, wd_smin, wd_cmax, wd_smax, wd_ari, wd_arz, wd_ao4, wd_ao3, wd_n40, wd_n43, okM_all⟩
