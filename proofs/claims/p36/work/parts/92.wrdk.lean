theorem okF_map : fldT = fldL.map (fun e => e.take 4) := by decide +kernel
theorem okF_all : fldL.all okF = true := by decide +kernel
theorem okS_map : statT = statL.map (fun e => e.take 3) := by decide +kernel
theorem okS_all : statL.all okS = true := by decide +kernel
theorem okN_map : newT = newL.map (fun e => e.take 3) := by decide +kernel
theorem okN_all : newL.all okN = true := by decide +kernel
theorem okA_map : anewT = anewL.map (fun e => e.take 3) := by decide +kernel
theorem okA_all : anewL.all okA = true := by decide +kernel
theorem okL_map : ldcT = ldcL.map (fun e => e.take 3) := by decide +kernel
theorem okL_all : ldcL.all okL = true := by decide +kernel
theorem okC_map : methT = methL.map (fun e => e.take 3) := by decide +kernel
theorem okC_all : methL.all okC = true := by decide +kernel
theorem okT_map : natT = natL.map (fun e => e.take 3) := by decide +kernel
theorem okT_all : natL.all okT = true := by decide +kernel
theorem okU_all : (List.range 6).all okU = true := by decide +kernel
theorem wd_obj : inP 28 (.code objectInit ⟨#[0xb1]⟩ 1 none) = true := by decide +kernel
theorem wd_obi : inP 27 (.instanceMethod objectInit) = true := by decide +kernel
theorem wd_acn : inP 253 (.native arraycopyName) = true := by decide +kernel
theorem wd_acs : inP 252 (.static arraycopyName) = true := by decide +kernel
theorem wd_sys : inP 20 (.initialized "java/lang/System") = true := by decide +kernel
theorem wd_mat : inP 19 (.initialized "java/lang/Math") = true := by decide +kernel
theorem wd_cabs : inP 382 (.code Lib.Math.abs.name Lib.Math.abs.code 1 (some .int)) = true := by decide +kernel
theorem wd_sabs : inP 381 (.static Lib.Math.abs.name) = true := by decide +kernel
theorem wd_cmin : inP 273 (.code Lib.Math.min.name Lib.Math.min.code 2 (some .int)) = true := by decide +kernel
theorem wd_smin : inP 272 (.static Lib.Math.min.name) = true := by decide +kernel
theorem wd_cmax : inP 333 (.code Lib.Math.max.name Lib.Math.max.code 2 (some .int)) = true := by decide +kernel
theorem wd_smax : inP 332 (.static Lib.Math.max.name) = true := by decide +kernel
theorem wd_ari : inP 107 (.arrayClass .int) = true := by decide +kernel
theorem wd_arz : inP 122 (.arrayClass .boolean) = true := by decide +kernel
theorem wd_ao4 : lw_tbl[123]? = some (Jvm.Cond.arrayOver (.object RX4)) := by decide +kernel
theorem wd_ao3 : lw_tbl[108]? = some (Jvm.Cond.arrayOver (.object RX3)) := by decide +kernel
theorem wd_n40 : lw_tbl[41]? = some (Jvm.Cond.fieldLinkNest RX3 40 RX5 "SOUND_FIRST" "[I" RX5) := by decide +kernel
theorem wd_n43 : lw_tbl[43]? = some (Jvm.Cond.fieldLinkNest RX3 43 RX5 "NUMBER_FIRST" "[I" RX5) := by decide +kernel
theorem okM_0 : (List.range' 0 20).all okM = true := by decide +kernel
theorem okM_1 : (List.range' 20 20).all okM = true := by decide +kernel
theorem okM_2 : (List.range' 40 20).all okM = true := by decide +kernel
theorem okM_3 : (List.range' 60 20).all okM = true := by decide +kernel
theorem okM_4 : (List.range' 80 15).all okM = true := by decide +kernel
theorem okM_all : ∀ k, k < 95 → okM k = true := by
  intro k hk
  rcases (show (0 ≤ k ∧ k < 20) ∨ (20 ≤ k ∧ k < 40) ∨ (40 ≤ k ∧ k < 60) ∨ (60 ≤ k ∧ k < 80) ∨ (80 ≤ k ∧ k < 95) by omega) with h | h | h | h | h
  · exact List.all_eq_true.mp okM_0 k (List.mem_range'_1.mpr ⟨h.1, by omega⟩)
  · exact List.all_eq_true.mp okM_1 k (List.mem_range'_1.mpr ⟨h.1, by omega⟩)
  · exact List.all_eq_true.mp okM_2 k (List.mem_range'_1.mpr ⟨h.1, by omega⟩)
  · exact List.all_eq_true.mp okM_3 k (List.mem_range'_1.mpr ⟨h.1, by omega⟩)
  · exact List.all_eq_true.mp okM_4 k (List.mem_range'_1.mpr ⟨h.1, by omega⟩)
theorem tbs : Tbs := ⟨okF_map, okF_all, okS_map, okS_all, okN_map, okN_all, okA_map, okA_all, okL_map, okL_all, okC_map, okC_all, okT_map, okT_all, okU_all, wd_obj, wd_obi, wd_acn, wd_acs, wd_sys, wd_mat, wd_cabs, wd_sabs, wd_cmin, wd_smin, wd_cmax, wd_smax, wd_ari, wd_arz, wd_ao4, wd_ao3, wd_n40, wd_n43, okM_all⟩
