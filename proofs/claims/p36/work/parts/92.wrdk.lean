theorem okF_map : fldT = fldL.map (fun e => e.take 4) := by decide +kernel
theorem okF_all : fldL.all okF = true := by decide +kernel
theorem okS_map : statT = statL.map (fun e => e.take 3) := by decide +kernel
theorem okS_all : statL.all okS = true := by decide +kernel
theorem okN_map : newT = newL.map (fun e => e.take 3) := by decide +kernel
theorem okN_all : newL.all okN = true := by decide +kernel
theorem okA_map : anewT = anewL.map (fun e => e.take 3) := by decide +kernel
theorem okA_all : anewL.all okA = true := by decide +kernel
theorem okL_map : ldcT = ldcL.map (fun e => e.take 3) := by decide +kernel
theorem okL_all : ldcL.all okL = true := by decide +kernel
theorem okC_map : methT = methL.map (fun e => e.take 3) := by decide +kernel
theorem okC_all : methL.all okC = true := by decide +kernel
theorem okT_map : natT = natL.map (fun e => e.take 3) := by decide +kernel
theorem okT_all : natL.all okT = true := by decide +kernel
theorem okU_all : (List.range 6).all okU = true := by decide +kernel
theorem wd_obj : inP 28 (.code objectInit ⟨#[0xb1]⟩ 1 none) = true := by decide +kernel
theorem wd_obi : inP 27 (.instanceMethod objectInit) = true := by decide +kernel
theorem wd_acn : inP 253 (.native arraycopyName) = true := by decide +kernel
theorem wd_acs : inP 252 (.static arraycopyName) = true := by decide +kernel
theorem wd_sys : inP 20 (.initialized "java/lang/System") = true := by decide +kernel
theorem wd_mat : inP 19 (.initialized "java/lang/Math") = true := by decide +kernel
theorem wd_cabs : inP 382 (.code Lib.Math.abs.name Lib.Math.abs.code 1 (some .int)) = true := by decide +kernel
theorem wd_sabs : inP 381 (.static Lib.Math.abs.name) = true := by decide +kernel
theorem wd_cmin : inP 273 (.code Lib.Math.min.name Lib.Math.min.code 2 (some .int)) = true := by decide +kernel
theorem wd_smin : inP 272 (.static Lib.Math.min.name) = true := by decide +kernel
theorem wd_cmax : inP 333 (.code Lib.Math.max.name Lib.Math.max.code 2 (some .int)) = true := by decide +kernel
theorem wd_smax : inP 332 (.static Lib.Math.max.name) = true := by decide +kernel
theorem wd_ari : inP 107 (.arrayClass .int) = true := by decide +kernel
theorem wd_arz : inP 122 (.arrayClass .boolean) = true := by decide +kernel
theorem wd_ao4 : lw_tbl[123]? = some (Jvm.Cond.arrayOver (.object RX4)) := by decide +kernel
theorem wd_ao3 : lw_tbl[108]? = some (Jvm.Cond.arrayOver (.object RX3)) := by decide +kernel
theorem wd_n40 : lw_tbl[41]? = some (Jvm.Cond.fieldLinkNest RX3 40 RX5 "SOUND_FIRST" "[I" RX5) := by decide +kernel
theorem wd_n43 : lw_tbl[43]? = some (Jvm.Cond.fieldLinkNest RX3 43 RX5 "NUMBER_FIRST" "[I" RX5) := by decide +kernel
