theorem okM_all : ∀ k, k < 95 → okM k = true := by
  intro k hk
  rcases (show (0 ≤ k ∧ k < 8) ∨ (8 ≤ k ∧ k < 16) ∨ (16 ≤ k ∧ k < 24) ∨ (24 ≤ k ∧ k < 32) ∨ (32 ≤ k ∧ k < 40) ∨ (40 ≤ k ∧ k < 48) ∨ (48 ≤ k ∧ k < 56) ∨ (56 ≤ k ∧ k < 64) ∨ (64 ≤ k ∧ k < 72) ∨ (72 ≤ k ∧ k < 80) ∨ (80 ≤ k ∧ k < 88) ∨ (88 ≤ k ∧ k < 95) by omega) with h | h | h | h | h | h | h | h | h | h | h | h
  · exact List.all_eq_true.mp okM_0 k (List.mem_range'_1.mpr ⟨h.1, by omega⟩)
  · exact List.all_eq_true.mp okM_1 k (List.mem_range'_1.mpr ⟨h.1, by omega⟩)
  · exact List.all_eq_true.mp okM_2 k (List.mem_range'_1.mpr ⟨h.1, by omega⟩)
  · exact List.all_eq_true.mp okM_3 k (List.mem_range'_1.mpr ⟨h.1, by omega⟩)
  · exact List.all_eq_true.mp okM_4 k (List.mem_range'_1.mpr ⟨h.1, by omega⟩)
  · exact List.all_eq_true.mp okM_5 k (List.mem_range'_1.mpr ⟨h.1, by omega⟩)
  · exact List.all_eq_true.mp okM_6 k (List.mem_range'_1.mpr ⟨h.1, by omega⟩)
  · exact List.all_eq_true.mp okM_7 k (List.mem_range'_1.mpr ⟨h.1, by omega⟩)
  · exact List.all_eq_true.mp okM_8 k (List.mem_range'_1.mpr ⟨h.1, by omega⟩)
  · exact List.all_eq_true.mp okM_9 k (List.mem_range'_1.mpr ⟨h.1, by omega⟩)
  · exact List.all_eq_true.mp okM_10 k (List.mem_range'_1.mpr ⟨h.1, by omega⟩)
  · exact List.all_eq_true.mp okM_11 k (List.mem_range'_1.mpr ⟨h.1, by omega⟩)
theorem tbs : Tbs := ⟨okF_map, okF_all, okS_map, okS_all, okN_map, okN_all, okA_map, okA_all, okL_map, okL_all, okC_map, okC_all, okT_map, okT_all, okU_all, wd_obj, wd_obi, wd_acn, wd_acs, wd_sys, wd_mat, wd_cabs, wd_sabs, wd_cmin, wd_smin, wd_cmax, wd_smax, wd_ari, wd_arz, wd_ao4, wd_ao3, wd_n40, wd_n43, okM_all⟩
