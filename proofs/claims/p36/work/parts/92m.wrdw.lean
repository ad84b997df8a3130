def okR (k : Nat) : Bool := (if stM k then inP (at4 (mPs k) 1) (.static (yM k)) else inP (at4 (mPs k) 1) (.instanceMethod (yM k)) && (inM k || inP (at4 (mPs k) 2) (.selects (RN (clM k)) (yM k) (yM k)))) && inP (at4 (mPs k) 3) (.initialized (RN (clM k))) && decide ((yM k).cls = RN (clM k)) && plainName (yM k).cls &&
  decide ((yM k).cls ≠ "java/lang/invoke/MethodHandle" ∧ (yM k).cls ≠ "java/lang/invoke/VarHandle") && decide ((parseMethodDescriptor (yM k).desc).map (fun d => d.parameters.length) = some (naM k - (if stM k then 0 else 1))) && (!(inM k) || decide ((yM k).name = "<init>" ∧ rtM k = none)) && decide (naM k ≤ mxM k) && decide (1 ≤ naM k ∨ stM k = true) && decide (clM k < 7) && decide (8 + (mxM k + 11) ≤ 40)
theorem okM_of {k i : Nat} (hi : at4 (mPs k) 0 = i) (h : lw_tbl[i]? = some (Jvm.Cond.code (yM k) (byM k) (mxM k) (rtM k))) (hg : goodWord (Jvm.Cond.code (yM k) (byM k) (mxM k) (rtM k)) = true) (hr : okR k = true) : okM k = true := by
  have hA : inP (at4 (mPs k) 0) (.code (yM k) (byM k) (mxM k) (rtM k)) = true := by
    unfold inP
    rw [hi, Bool.and_eq_true]
    exact ⟨decide_eq_true h, hg⟩
  unfold okM
  rw [hA, Bool.true_and]
  exact hr
set_option maxRecDepth 100000 in
theorem okW_85 : okM 85 = true := okM_of (i := 306) (by decide +kernel) rfl (by decide +kernel) (by decide +kernel)
set_option maxRecDepth 100000 in
theorem okW_86 : okM 86 = true := okM_of (i := 310) (by decide +kernel) rfl (by decide +kernel) (by decide +kernel)
set_option maxRecDepth 100000 in
theorem okW_87 : okM 87 = true := okM_of (i := 314) (by decide +kernel) rfl (by decide +kernel) (by decide +kernel)
set_option maxRecDepth 100000 in
theorem okW_88 : okM 88 = true := okM_of (i := 453) (by decide +kernel) rfl (by decide +kernel) (by decide +kernel)
set_option maxRecDepth 100000 in
theorem okW_89 : okM 89 = true := okM_of (i := 506) (by decide +kernel) rfl (by decide +kernel) (by decide +kernel)
set_option maxRecDepth 100000 in
theorem okW_90 : okM 90 = true := okM_of (i := 509) (by decide +kernel) rfl (by decide +kernel) (by decide +kernel)
set_option maxRecDepth 100000 in
theorem okW_91 : okM 91 = true := okM_of (i := 605) (by decide +kernel) rfl (by decide +kernel) (by decide +kernel)
set_option maxRecDepth 100000 in
theorem okW_92 : okM 92 = true := okM_of (i := 608) (by decide +kernel) rfl (by decide +kernel) (by decide +kernel)
set_option maxRecDepth 100000 in
theorem okW_93 : okM 93 = true := okM_of (i := 611) (by decide +kernel) rfl (by decide +kernel) (by decide +kernel)
set_option maxRecDepth 100000 in
theorem okW_94 : okM 94 = true := okM_of (i := 602) (by decide +kernel) rfl (by decide +kernel) (by decide +kernel)
