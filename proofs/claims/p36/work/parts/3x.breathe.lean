/-! breathe, load -/
/-- breaths of m frames, n so far, at most d more: the answer, the view -/
noncomputable def brF (m : Nat) : Nat → Nat → Vw → Int × Vw
  | 0, n, U => (n, U)
  | d + 1, n, U => if gsgV U (U 8 0).toNat = -1 then (n, U) else if gsgV U (U 8 0).toNat = 0 ∨ U 6 ((gsgV U (U 8 0).toNat).toNat - 1) = 9 then (-2, U) else if U 5 0 < 30 ∧ U 8 0 + m ≤ 99 then brF m d (n + 1) (insV U (gsgV U (U 8 0).toNat).toNat 9 m) else (-3, U)
theorem brF_st {m d n : Nat} {U : Vw} : brF m (d + 1) n U = if gsgV U (U 8 0).toNat = -1 then ((n : Int), U) else if gsgV U (U 8 0).toNat = 0 ∨ U 6 ((gsgV U (U 8 0).toNat).toNat - 1) = 9 then (-2, U) else if U 5 0 < 30 ∧ U 8 0 + m ≤ 99 then brF m d (n + 1) (insV U (gsgV U (U 8 0).toNat).toNat 9 m) else (-3, U) := rfl
def brR (r : Int × Vw) (X : XV) : Int × XV := if r.1 < 0 then (r.1, X) else (r.1, actX X r.2)
noncomputable def sBreathe (m : Int) (X : XV) : Int × XV := if 1 ≤ m ∧ m ≤ 20 then brR (brF m.toNat 31 0 X.1.1) X else (-1, X)
theorem brR_p {X : XV} {n : Nat} {U : Vw} : brR ((n : Int), U) X = ((n : Int), actX X U) := if_neg (by show ¬ (n : Int) < 0; omega)
theorem brR_n {X : XV} {v : Int} {U : Vw} (h : v < 0) : brR (v, U) X = (v, X) := if_pos h
theorem gsgV_b {U : Vw} (hU : WFV (-1) U) : ∀ f : Nat, (f : Int) ≤ U 8 0 → gsgV U f = -1 ∨ (0 ≤ gsgV U f ∧ gsgV U f < U 5 0)
  | 0, _ => Or.inl rfl
  | f + 1, hf => by
    have h1 := gsgV_b hU f (by omega)
    have h2 := segV_lt hU (f := f) (by omega)
    simp only [gsgV]
    split
    · exact Or.inr h2
    · exact h1
theorem brF_wf {m : Nat} (hm : 1 ≤ m ∧ m ≤ 20) : ∀ (d n : Nat) (U : Vw), WFV (-1) U → WFV (-1) (brF m d n U).2
  | 0, n, U, hU => hU
  | d + 1, n, U, hU => by
    have b := gsgV_b hU (U 8 0).toNat (by have := hU.2.2.2.2.2.2.1; omega)
    have b5 := hU.2.2.2.2.1
    simp only [brF]
    split
    · exact hU
    · split
      · exact hU
      · split
        next c => exact brF_wf hm d _ _ (insV_wf hU (by omega) c.1 (by omega) hm (by omega))
        next c => exact hU
theorem sBreathe_wf {m : Int} {X : XV} (hW : WFX X) : WFX (sBreathe m X).2 := by
  unfold sBreathe
  split
  next c =>
    unfold brR
    split
    · exact hW
    · exact actX_wf hW (brF_wf (by omega) _ _ _ hW.1.1)
  next c => exact hW
/-! texts alike as far as they reach -/
section TEQ
variable {T T' : Nat → Int} {L : Nat}
theorem skF_eq (h : ∀ j, j < L → T j = T' j) : ∀ d p : Nat, skF T L d p = skF T' L d p
  | 0, _ => rfl
  | d + 1, p => by
    simp only [skF]
    by_cases c : p < L
    · rw [h p c, skF_eq h d (p + 1)]
    · rw [if_neg (fun z => c z.1), if_neg (fun z => c z.1)]
theorem skp_eq (h : ∀ j, j < L → T j = T' j) {p : Nat} : skp T L p = skp T' L p := skF_eq h _ _
theorem nuF_eq (h : ∀ j, j < L → T j = T' j) : ∀ (d p : Nat) (v : Int), nuF T L d p v = nuF T' L d p v
  | 0, _, _ => rfl
  | d + 1, p, v => by
    simp only [nuF]
    by_cases c : p < L
    · rw [h p c, nuF_eq h d (p + 1)]
    · rw [if_neg (fun z => c z.1), if_neg (fun z => c z.1)]
theorem num_eq (h : ∀ j, j < L → T j = T' j) {p : Nat} : num T L p = num T' L p := nuF_eq h _ _ _
theorem bad_eq (h : ∀ j, j < L → T j = T' j) {lo hi : Int} {st : Nat} : bad T L lo hi st = bad T' L lo hi st := by
  unfold bad
  rw [num_eq h]
  by_cases c : st < L
  · rw [h st c]
  · have e : (num T' L st).1 = st := by
      unfold num
      rw [nuF_n (fun z => c z.1)]
    rw [e]
    simp
theorem itm2_eq (h : ∀ j, j < L → T j = T' j) {U1 : Vw} {F : Nat} {M1 : Int} {p : Nat} : itm2 T L U1 F M1 p = itm2 T' L U1 F M1 p := by
  unfold itm2
  rw [skp_eq h, skp_eq h, bad_eq h, num_eq h]
  by_cases c : skp T' L p < L
  · rw [h _ c]
  · rw [if_neg (fun z => c z.1), if_neg (fun z => c z.1)]
theorem itmV_eq (h : ∀ j, j < L → T j = T' j) {p : Nat} (hp : p < L) {U : Vw} : itmV T L p U = itmV T' L p U := by
  unfold itmV
  rw [skp_eq h, bad_eq h, num_eq h, itm2_eq h, h p hp]
theorem itmsF_eq (h : ∀ j, j < L → T j = T' j) : ∀ (d p i : Nat) (U : Vw), itmsF T L d p i U = itmsF T' L d p i U
  | 0, _, _, _ => rfl
  | d + 1, p, i, U => by
    simp only [itmsF]
    by_cases c : p < L
    · rw [if_pos c, if_pos c, itmV_eq h c, skp_eq h, itmsF_eq h d]
    · rw [if_neg c, if_neg c]
end TEQ
section BRE
variable {zt : Nat → Nat} {g : Nat → Nat → Int} {ρ : Ri} {L : Nat} {h : Nat → Nat} {X : XV} {Q : Option AV → Sto → Prop}
/-- the trial's scene holds a view, all else stands -/
def TrI (g : Nat → Nat → Int) (L : Nat) (U : Vw) (g1 : Nat → Nat → Int) : Prop := WFV (-1) U ∧ LR (-99) (vwC g1 (ad L 182)) U ∧ ∀ x, (x < ad L 182 ∨ ad L 194 ≤ x) → g1 x = g x
theorem TrI.rep {U : Vw} {g1 : Nat → Nat → Int} (hI : TrI g L U g1) (hX : RepC g ρ L h X) (hW : WFX X) : RepC g1 ρ L h X := hX.kept hW (fun x z1 z2 => hI.2.2 x (by unfold ad at *; omega))
theorem breathe_fin (hX : RepC g ρ L h X) (hW : WFX X) {U : Vw} {g1 : Nat → Nat → Int} (hI : TrI g L U g1) {n : Nat} {m : Int} {o3 : Option AV} (hn : n ≤ 31) (hQ : CQ g ρ L (n, actX X U) Q) : Wp zt 60 (P 60 115) [some (AR L), some (AI m), some (AI n), o3] [] (g1, ρ) Q := by
  have hX1 := hI.rep hX hW
  obtain ⟨i1, i2, i3⟩ := hI
  have hLf := hX.1.1
  rw [P_L_breathe_115]
  simp only [m_L_breathe, b_L_breathe_0, P_L_breathe_12, b_L_breathe_12, P_L_breathe_61, b_L_breathe_61, P_L_breathe_81, b_L_breathe_81, P_L_breathe_84, b_L_breathe_84, P_L_breathe_98, b_L_breathe_98, wp_abs, wp_aln0, wp_bipush, wp_copy, wp_cs1, wp_cs2, wp_cs3, wp_cs4, wp_cs5, wp_cs6, wp_cs7, wp_cv1, wp_cv2, wp_cv3, wp_cv4, wp_cv5, wp_cv6, wp_cv7, wp_goto, wp_iald, wp_icgt, wp_icne, wp_iconst, wp_iln1, wp_iln2, wp_iln3, wp_inc2, wp_iret, wp_isn2, wp_isn3, wp_isub, wp_izeq, wp_izne, wp_max, wp_min, wp_nop, wp_zret, qlf_kd, qlf_gf0, qlf_k31, qlf_l31, qlf_gf1, qlf_gf3, qlf_gf4, qlf_gf5, qlf_gf6, qlf_k203, qlf_l203, qlf_gf7, qlf_gf2, qlf_pf2, qlf_gf8, qlf_pf8, wrI_row, cpI_row, row_s, row_n, row_ss, row_sw, upd_s, upd_n, ad_inj, ad_z, ad_z2, Nat.reduceEqDiff, reduceCtorEq, List.cons_append, List.nil_append, Option.toList_some, Option.toList_none, Int.toNat_natCast, List.length_cons, List.length_nil, Int.cast_ofNat_Int, Nat.reduceAdd, Nat.reduceLeDiff, Nat.reduceLT, Nat.reduceMul, Int.reduceAdd, Int.reduceSub, Int.reduceMul, Int.reduceNeg, Int.reduceLT, Int.reduceLE, Int.reduceEq, Int.reduceToNat, eq_self, true_and, and_true, true_or, or_true, false_or, or_false, if_true, if_false, not_true_eq_false, not_false_eq_true, and_self, ne_eq, b_L_breathe_115, hLf]
  refine recordState_ok hX1 hW (fun g' ρ' h' j1 j2 j3 j4 => ?_)
  have hLf' := j1.1.1
  have hN' := j1.1.2.1
  have hN1' := hN'.1
  have hS' := hN'.2.1
  have hTr' := j1.1.2.2.2.1
  have et : vwC g' (ad L 182) = vwC g1 (ad L 182) := vwC_kept (fun x z1 z2 => j4 x (by unfold ad at *; omega))
  simp only [m_L_breathe, b_L_breathe_0, P_L_breathe_12, b_L_breathe_12, P_L_breathe_61, b_L_breathe_61, P_L_breathe_81, b_L_breathe_81, P_L_breathe_84, b_L_breathe_84, P_L_breathe_98, b_L_breathe_98, wp_abs, wp_aln0, wp_bipush, wp_copy, wp_cs1, wp_cs2, wp_cs3, wp_cs4, wp_cs5, wp_cs6, wp_cs7, wp_cv1, wp_cv2, wp_cv3, wp_cv4, wp_cv5, wp_cv6, wp_cv7, wp_goto, wp_iald, wp_icgt, wp_icne, wp_iconst, wp_iln1, wp_iln2, wp_iln3, wp_inc2, wp_iret, wp_isn2, wp_isn3, wp_isub, wp_izeq, wp_izne, wp_max, wp_min, wp_nop, wp_zret, qsc_kd, qsc_k1, qsc_l1, qsc_gf1, qsc_k2, qsc_l2, qsc_gf2, qsc_k3, qsc_l3, qsc_gf3, qsc_k4, qsc_l4, qsc_gf4, qsc_k5, qsc_l5, qsc_gf6, qsc_k6, qsc_l6, qsc_gf7, qsc_k7, qsc_l7, qsc_gf9, qsc_k8, qsc_l8, qsc_gf10, qsc_gf0, qsc_pf0, qsc_gf5, qsc_pf5, qsc_gf8, qsc_pf8, qst_kd, qst_gf0, qst_k10, qst_l10, qst_gf1, qst_k29, qst_l29, qst_gf2, qlf_kd, qlf_gf0, qlf_k31, qlf_l31, qlf_gf1, qlf_gf3, qlf_gf4, qlf_gf5, qlf_gf6, qlf_k203, qlf_l203, qlf_gf7, qlf_gf2, qlf_pf2, qlf_gf8, qlf_pf8, wrI_row, cpI_row, row_s, row_n, row_ss, row_sw, upd_s, upd_n, ad_inj, ad_z, ad_z2, Nat.reduceEqDiff, reduceCtorEq, List.cons_append, List.nil_append, Option.toList_some, Option.toList_none, Int.toNat_natCast, List.length_cons, List.length_nil, Int.cast_ofNat_Int, Nat.reduceAdd, Nat.reduceLeDiff, Nat.reduceLT, Nat.reduceMul, Int.reduceAdd, Int.reduceSub, Int.reduceMul, Int.reduceNeg, Int.reduceLT, Int.reduceLE, Int.reduceEq, Int.reduceToNat, eq_self, true_and, and_true, true_or, or_true, false_or, or_false, if_true, if_false, not_true_eq_false, not_false_eq_true, and_self, ne_eq, hLf', hN1', hS']
  refine copyFrom_ok hS' hTr' (by unfold ad; omega) (fun g2 he hf => ?_)
  rw [et] at he
  have hl := i2.eq i1 he
  have q := hQ g2 ρ' h' (j1.now hW hl (fun x z => hf x (by unfold ad at *; omega))) ⟨j2, fun x z => ⟨j3 x (by unfold ad at *; omega), by
    rw [hf x (by unfold ad at *; omega), j4 x (by unfold ad at *; omega)]
    exact i3 x (by unfold ad at *; omega)⟩⟩
  simp only [m_L_breathe, b_L_breathe_0, P_L_breathe_12, b_L_breathe_12, P_L_breathe_61, b_L_breathe_61, P_L_breathe_81, b_L_breathe_81, P_L_breathe_84, b_L_breathe_84, P_L_breathe_98, b_L_breathe_98, wp_abs, wp_aln0, wp_bipush, wp_copy, wp_cs1, wp_cs2, wp_cs3, wp_cs4, wp_cs5, wp_cs6, wp_cs7, wp_cv1, wp_cv2, wp_cv3, wp_cv4, wp_cv5, wp_cv6, wp_cv7, wp_goto, wp_iald, wp_icgt, wp_icne, wp_iconst, wp_iln1, wp_iln2, wp_iln3, wp_inc2, wp_iret, wp_isn2, wp_isn3, wp_isub, wp_izeq, wp_izne, wp_max, wp_min, wp_nop, wp_zret, qst_kd, qst_gf0, qst_k10, qst_l10, qst_gf1, qst_k29, qst_l29, qst_gf2, qlf_kd, qlf_gf0, qlf_k31, qlf_l31, qlf_gf1, qlf_gf3, qlf_gf4, qlf_gf5, qlf_gf6, qlf_k203, qlf_l203, qlf_gf7, qlf_gf2, qlf_pf2, qlf_gf8, qlf_pf8, wrI_row, cpI_row, row_s, row_n, row_ss, row_sw, upd_s, upd_n, ad_inj, ad_z, ad_z2, Nat.reduceEqDiff, reduceCtorEq, List.cons_append, List.nil_append, Option.toList_some, Option.toList_none, Int.toNat_natCast, List.length_cons, List.length_nil, Int.cast_ofNat_Int, Nat.reduceAdd, Nat.reduceLeDiff, Nat.reduceLT, Nat.reduceMul, Int.reduceAdd, Int.reduceSub, Int.reduceMul, Int.reduceNeg, Int.reduceLT, Int.reduceLE, Int.reduceEq, Int.reduceToNat, eq_self, true_and, and_true, true_or, or_true, false_or, or_false, if_true, if_false, not_true_eq_false, not_false_eq_true, and_self, ne_eq, hLf', hN1']
  (repeat' (first | apply And.intro | split)) <;> first | omega | exact q
theorem breathe_loop (hX : RepC g ρ L h X) (hW : WFX X) {m : Nat} (hm : 1 ≤ m ∧ m ≤ 20) (hQ : CQ g ρ L (brR (brF m 31 0 X.1.1) X) Q) :
    ∀ (d n : Nat) (U : Vw) (g1 : Nat → Nat → Int) (o3 : Option AV), n + d = 31 → TrI g L U g1 → brF m d n U = brF m 31 0 X.1.1 → Wp zt 60 (P 60 28) [some (AR L), some (AI m), some (AI n), o3] [] (g1, ρ) Q := by
  intro d
  induction d with
  | zero =>
    intro n U g1 o3 hn hI hv
    rw [← hv] at hQ
    simp only [brF] at hQ
    rw [brR_p] at hQ
    have k1 := breathe_fin (zt := zt) (m := m) (o3 := o3) hX hW hI (by omega) hQ
    have hn2 : (30 : Int) < (n : Int) := by omega
    rw [P_L_breathe_28]
    simp only [m_L_breathe, b_L_breathe_0, P_L_breathe_12, b_L_breathe_12, P_L_breathe_61, b_L_breathe_61, P_L_breathe_81, b_L_breathe_81, P_L_breathe_84, b_L_breathe_84, P_L_breathe_98, b_L_breathe_98, wp_abs, wp_aln0, wp_bipush, wp_copy, wp_cs1, wp_cs2, wp_cs3, wp_cs4, wp_cs5, wp_cs6, wp_cs7, wp_cv1, wp_cv2, wp_cv3, wp_cv4, wp_cv5, wp_cv6, wp_cv7, wp_goto, wp_iald, wp_icgt, wp_icne, wp_iconst, wp_iln1, wp_iln2, wp_iln3, wp_inc2, wp_iret, wp_isn2, wp_isn3, wp_isub, wp_izeq, wp_izne, wp_max, wp_min, wp_nop, wp_zret, qlf_kd, qlf_gf0, qlf_k31, qlf_l31, qlf_gf1, qlf_gf3, qlf_gf4, qlf_gf5, qlf_gf6, qlf_k203, qlf_l203, qlf_gf7, qlf_gf2, qlf_pf2, qlf_gf8, qlf_pf8, wrI_row, cpI_row, row_s, row_n, row_ss, row_sw, upd_s, upd_n, ad_inj, ad_z, ad_z2, Nat.reduceEqDiff, reduceCtorEq, List.cons_append, List.nil_append, Option.toList_some, Option.toList_none, Int.toNat_natCast, List.length_cons, List.length_nil, Int.cast_ofNat_Int, Nat.reduceAdd, Nat.reduceLeDiff, Nat.reduceLT, Nat.reduceMul, Int.reduceAdd, Int.reduceSub, Int.reduceMul, Int.reduceNeg, Int.reduceLT, Int.reduceLE, Int.reduceEq, Int.reduceToNat, eq_self, true_and, and_true, true_or, or_true, false_or, or_false, if_true, if_false, not_true_eq_false, not_false_eq_true, and_self, ne_eq, b_L_breathe_28, hn2]
    (repeat' (first | apply And.intro | split)) <;> first | omega | exact k1
  | succ d ih =>
    intro n U g1 o3 hn hI hv
    obtain ⟨i1, i2, i3⟩ := id hI
    have hLf := hX.1.1
    have hTr := hX.1.2.2.2.1
    have hAr := hX.1.2.2.2.2.1
    have hWT := i2.wf (by omega) i1
    have b5 := i1.2.2.2.2.1
    have b8 := i1.2.2.2.2.2.2.1
    have u8 : g1 (ad L 182) 8 = U 8 0 := i2.l8
    have u5 : g1 (ad L 182) 5 = U 5 0 := i2.l5
    have hn2 : ¬ (30 : Int) < (n : Int) := by omega
    have gb := gsgV_b i1 (U 8 0).toNat (by omega)
    rw [brF_st] at hv
    rw [P_L_breathe_28]
    simp only [m_L_breathe, b_L_breathe_0, P_L_breathe_12, b_L_breathe_12, P_L_breathe_61, b_L_breathe_61, wp_abs, wp_aln0, wp_bipush, wp_copy, wp_cs1, wp_cs2, wp_cs3, wp_cs4, wp_cs5, wp_cs6, wp_cs7, wp_cv1, wp_cv2, wp_cv3, wp_cv4, wp_cv5, wp_cv6, wp_cv7, wp_goto, wp_iald, wp_icgt, wp_icne, wp_iconst, wp_iln1, wp_iln2, wp_iln3, wp_inc2, wp_iret, wp_isn2, wp_isn3, wp_isub, wp_izeq, wp_izne, wp_max, wp_min, wp_nop, wp_zret, qar_kd, qar_k1, qar_l1, qar_gf0, qar_k2, qar_l2, qar_gf1, qar_gf2, qar_pf2, qar_gf3, qar_pf3, qlf_kd, qlf_gf0, qlf_k31, qlf_l31, qlf_gf1, qlf_gf3, qlf_gf4, qlf_gf5, qlf_gf6, qlf_k203, qlf_l203, qlf_gf7, qlf_gf2, qlf_pf2, qlf_gf8, qlf_pf8, wrI_row, cpI_row, row_s, row_n, row_ss, row_sw, upd_s, upd_n, ad_inj, ad_z, ad_z2, Nat.reduceEqDiff, reduceCtorEq, List.cons_append, List.nil_append, Option.toList_some, Option.toList_none, Int.toNat_natCast, List.length_cons, List.length_nil, Int.cast_ofNat_Int, Nat.reduceAdd, Nat.reduceLeDiff, Nat.reduceLT, Nat.reduceMul, Int.reduceAdd, Int.reduceSub, Int.reduceMul, Int.reduceNeg, Int.reduceLT, Int.reduceLE, Int.reduceEq, Int.reduceToNat, eq_self, true_and, and_true, true_or, or_true, false_or, or_false, if_true, if_false, not_true_eq_false, not_false_eq_true, and_self, ne_eq, b_L_breathe_28, hLf, hAr, hn2]
    (repeat' (first | apply And.intro | split)) <;> first | omega | skip
    refine follow_ok hTr hAr (by unfold ad; omega) hWT (fun g2 hA => ?_)
    obtain ⟨-, -, -, a4, a5⟩ := hA
    rw [u8, i2.gsg i1 _ (by omega)] at a4
    have hI2 : TrI g L U g2 := ⟨i1, by
      rw [vwC_kept (g := g1) (fun x z1 z2 => a5 x (by unfold ad at *; omega) (by unfold ad at *; omega) (by unfold ad at *; omega))]
      exact i2, fun x z => (a5 x (by unfold ad at *; omega) (by unfold ad at *; omega) (by unfold ad at *; omega)).trans (i3 x z)⟩
    have hWT2 := hI2.2.1.wf (by omega) i1
    have w8 : g2 (ad L 182) 8 = U 8 0 := hI2.2.1.l8
    have w5 : g2 (ad L 182) 5 = U 5 0 := hI2.2.1.l5
    obtain ⟨gs, hgs⟩ : ∃ gs, gs = gsgV U (U 8 0).toNat := ⟨_, rfl⟩
    rw [← hgs] at gb a4 hv
    by_cases c1 : gs = -1
    · rw [if_pos c1] at hv
      rw [← hv] at hQ
      rw [brR_p] at hQ
      have k1 := breathe_fin (zt := zt) (m := m) (o3 := some (AI gs)) hX hW hI2 (by omega) hQ
      rw [c1] at a4 k1
      simp only [m_L_breathe, b_L_breathe_0, P_L_breathe_12, b_L_breathe_12, P_L_breathe_81, b_L_breathe_81, P_L_breathe_84, b_L_breathe_84, P_L_breathe_98, b_L_breathe_98, wp_abs, wp_aln0, wp_bipush, wp_copy, wp_cs1, wp_cs2, wp_cs3, wp_cs4, wp_cs5, wp_cs6, wp_cs7, wp_cv1, wp_cv2, wp_cv3, wp_cv4, wp_cv5, wp_cv6, wp_cv7, wp_goto, wp_iald, wp_icgt, wp_icne, wp_iconst, wp_iln1, wp_iln2, wp_iln3, wp_inc2, wp_iret, wp_isn2, wp_isn3, wp_isub, wp_izeq, wp_izne, wp_max, wp_min, wp_nop, wp_zret, qar_kd, qar_k1, qar_l1, qar_gf0, qar_k2, qar_l2, qar_gf1, qar_gf2, qar_pf2, qar_gf3, qar_pf3, qlf_kd, qlf_gf0, qlf_k31, qlf_l31, qlf_gf1, qlf_gf3, qlf_gf4, qlf_gf5, qlf_gf6, qlf_k203, qlf_l203, qlf_gf7, qlf_gf2, qlf_pf2, qlf_gf8, qlf_pf8, wrI_row, cpI_row, row_s, row_n, row_ss, row_sw, upd_s, upd_n, ad_inj, ad_z, ad_z2, Nat.reduceEqDiff, reduceCtorEq, List.cons_append, List.nil_append, Option.toList_some, Option.toList_none, Int.toNat_natCast, List.length_cons, List.length_nil, Int.cast_ofNat_Int, Nat.reduceAdd, Nat.reduceLeDiff, Nat.reduceLT, Nat.reduceMul, Int.reduceAdd, Int.reduceSub, Int.reduceMul, Int.reduceNeg, Int.reduceLT, Int.reduceLE, Int.reduceEq, Int.reduceToNat, eq_self, true_and, and_true, true_or, or_true, false_or, or_false, if_true, if_false, not_true_eq_false, not_false_eq_true, and_self, ne_eq, hLf, hAr, a4]
      (repeat' (first | apply And.intro | split)) <;> first | omega | exact k1
    · rw [if_neg c1] at hv
      have hneg : (if gs = 0 ∨ U 6 (gs.toNat - 1) = 9 then True else False) → Wp zt 60 (P 60 81) [some (AR L), some (AI m), some (AI n), some (AI gs)] [] (g2, ρ) Q := by
        intro z
        have c2 : gs = 0 ∨ U 6 (gs.toNat - 1) = 9 := by
          by_cases c : gs = 0 ∨ U 6 (gs.toNat - 1) = 9
          · exact c
          · rw [if_neg c] at z
            exact z.elim
        rw [if_pos c2] at hv
        rw [← hv] at hQ
        rw [brR_n (by omega)] at hQ
        have q := hQ g2 ρ h (hI2.rep hX hW) ⟨rfl, fun x z => ⟨rfl, hI2.2.2 x (by unfold ad at *; omega)⟩⟩
        rw [P_L_breathe_81]
        simp only [m_L_breathe, b_L_breathe_0, P_L_breathe_12, b_L_breathe_12, P_L_breathe_84, b_L_breathe_84, P_L_breathe_98, b_L_breathe_98, wp_abs, wp_aln0, wp_bipush, wp_copy, wp_cs1, wp_cs2, wp_cs3, wp_cs4, wp_cs5, wp_cs6, wp_cs7, wp_cv1, wp_cv2, wp_cv3, wp_cv4, wp_cv5, wp_cv6, wp_cv7, wp_goto, wp_iald, wp_icgt, wp_icne, wp_iconst, wp_iln1, wp_iln2, wp_iln3, wp_inc2, wp_iret, wp_isn2, wp_isn3, wp_isub, wp_izeq, wp_izne, wp_max, wp_min, wp_nop, wp_zret, qlf_kd, qlf_gf0, qlf_k31, qlf_l31, qlf_gf1, qlf_gf3, qlf_gf4, qlf_gf5, qlf_gf6, qlf_k203, qlf_l203, qlf_gf7, qlf_gf2, qlf_pf2, qlf_gf8, qlf_pf8, wrI_row, cpI_row, row_s, row_n, row_ss, row_sw, upd_s, upd_n, ad_inj, ad_z, ad_z2, Nat.reduceEqDiff, reduceCtorEq, List.cons_append, List.nil_append, Option.toList_some, Option.toList_none, Int.toNat_natCast, List.length_cons, List.length_nil, Int.cast_ofNat_Int, Nat.reduceAdd, Nat.reduceLeDiff, Nat.reduceLT, Nat.reduceMul, Int.reduceAdd, Int.reduceSub, Int.reduceMul, Int.reduceNeg, Int.reduceLT, Int.reduceLE, Int.reduceEq, Int.reduceToNat, eq_self, true_and, and_true, true_or, or_true, false_or, or_false, if_true, if_false, not_true_eq_false, not_false_eq_true, and_self, ne_eq, b_L_breathe_81]
        exact q
      by_cases c2 : gs = 0
      · have k1 := hneg (by rw [if_pos (Or.inl c2)]; exact True.intro)
        rw [c2] at a4 k1
        simp only [m_L_breathe, b_L_breathe_0, P_L_breathe_12, b_L_breathe_12, P_L_breathe_61, b_L_breathe_61, P_L_breathe_84, b_L_breathe_84, P_L_breathe_98, b_L_breathe_98, wp_abs, wp_aln0, wp_bipush, wp_copy, wp_cs1, wp_cs2, wp_cs3, wp_cs4, wp_cs5, wp_cs6, wp_cs7, wp_cv1, wp_cv2, wp_cv3, wp_cv4, wp_cv5, wp_cv6, wp_cv7, wp_goto, wp_iald, wp_icgt, wp_icne, wp_iconst, wp_iln1, wp_iln2, wp_iln3, wp_inc2, wp_iret, wp_isn2, wp_isn3, wp_isub, wp_izeq, wp_izne, wp_max, wp_min, wp_nop, wp_zret, qar_kd, qar_k1, qar_l1, qar_gf0, qar_k2, qar_l2, qar_gf1, qar_gf2, qar_pf2, qar_gf3, qar_pf3, qlf_kd, qlf_gf0, qlf_k31, qlf_l31, qlf_gf1, qlf_gf3, qlf_gf4, qlf_gf5, qlf_gf6, qlf_k203, qlf_l203, qlf_gf7, qlf_gf2, qlf_pf2, qlf_gf8, qlf_pf8, wrI_row, cpI_row, row_s, row_n, row_ss, row_sw, upd_s, upd_n, ad_inj, ad_z, ad_z2, Nat.reduceEqDiff, reduceCtorEq, List.cons_append, List.nil_append, Option.toList_some, Option.toList_none, Int.toNat_natCast, List.length_cons, List.length_nil, Int.cast_ofNat_Int, Nat.reduceAdd, Nat.reduceLeDiff, Nat.reduceLT, Nat.reduceMul, Int.reduceAdd, Int.reduceSub, Int.reduceMul, Int.reduceNeg, Int.reduceLT, Int.reduceLE, Int.reduceEq, Int.reduceToNat, eq_self, true_and, and_true, true_or, or_true, false_or, or_false, if_true, if_false, not_true_eq_false, not_false_eq_true, and_self, ne_eq, hLf, hAr, a4]
        (repeat' (first | apply And.intro | split)) <;> first | omega | exact k1
      · obtain ⟨s, hs⟩ : ∃ s : Nat, gs = (s : Int) + 1 := ⟨(gs - 1).toNat, by omega⟩
        have egs : gs.toNat = s + 1 := by omega
        have ei : (gs - 1).toNat = s := by omega
        have r6 : g2 (ad (ad L 182) 5) s = U 6 s := hI2.2.1.l6 (by omega)
        have bk := (i1.2.2.2.2.2.1 s (by omega)).1
        rw [egs] at hv hneg
        rw [show s + 1 - 1 = s by omega] at hv hneg
        by_cases c3 : U 6 s = 9
        · have k1 := hneg (by rw [if_pos (Or.inr c3)]; exact True.intro)
          rw [c3] at r6
          simp only [m_L_breathe, b_L_breathe_0, P_L_breathe_12, b_L_breathe_12, P_L_breathe_61, b_L_breathe_61, P_L_breathe_84, b_L_breathe_84, P_L_breathe_98, b_L_breathe_98, wp_abs, wp_aln0, wp_bipush, wp_copy, wp_cs1, wp_cs2, wp_cs3, wp_cs4, wp_cs5, wp_cs6, wp_cs7, wp_cv1, wp_cv2, wp_cv3, wp_cv4, wp_cv5, wp_cv6, wp_cv7, wp_goto, wp_iald, wp_icgt, wp_icne, wp_iconst, wp_iln1, wp_iln2, wp_iln3, wp_inc2, wp_iret, wp_isn2, wp_isn3, wp_isub, wp_izeq, wp_izne, wp_max, wp_min, wp_nop, wp_zret, qsc_kd, qsc_k1, qsc_l1, qsc_gf1, qsc_k2, qsc_l2, qsc_gf2, qsc_k3, qsc_l3, qsc_gf3, qsc_k4, qsc_l4, qsc_gf4, qsc_k5, qsc_l5, qsc_gf6, qsc_k6, qsc_l6, qsc_gf7, qsc_k7, qsc_l7, qsc_gf9, qsc_k8, qsc_l8, qsc_gf10, qsc_gf0, qsc_pf0, qsc_gf5, qsc_pf5, qsc_gf8, qsc_pf8, qar_kd, qar_k1, qar_l1, qar_gf0, qar_k2, qar_l2, qar_gf1, qar_gf2, qar_pf2, qar_gf3, qar_pf3, qlf_kd, qlf_gf0, qlf_k31, qlf_l31, qlf_gf1, qlf_gf3, qlf_gf4, qlf_gf5, qlf_gf6, qlf_k203, qlf_l203, qlf_gf7, qlf_gf2, qlf_pf2, qlf_gf8, qlf_pf8, wrI_row, cpI_row, row_s, row_n, row_ss, row_sw, upd_s, upd_n, ad_inj, ad_z, ad_z2, Nat.reduceEqDiff, reduceCtorEq, List.cons_append, List.nil_append, Option.toList_some, Option.toList_none, Int.toNat_natCast, List.length_cons, List.length_nil, Int.cast_ofNat_Int, Nat.reduceAdd, Nat.reduceLeDiff, Nat.reduceLT, Nat.reduceMul, Int.reduceAdd, Int.reduceSub, Int.reduceMul, Int.reduceNeg, Int.reduceLT, Int.reduceLE, Int.reduceEq, Int.reduceToNat, eq_self, true_and, and_true, true_or, or_true, false_or, or_false, if_true, if_false, not_true_eq_false, not_false_eq_true, and_self, ne_eq, hLf, hAr, hTr, a4, c1, c2, ei, r6]
          (repeat' (first | apply And.intro | split)) <;> first | omega | exact k1
        · rw [if_neg (fun z => z.elim c2 c3)] at hv
          have hro := hasRoomFor_ok (zt := zt) (ρ := ρ) hTr hWT2 (m := m) (by omega) (by omega)
          rw [w5, w8] at hro
          by_cases c4 : U 5 0 < 30 ∧ U 8 0 + m ≤ 99
          · rw [if_pos c4] at hv
            rw [b2_t c4] at hro
            have hop := openSegment_ok (zt := zt) (ρ := ρ) (g := g2) hTr hWT2 (s := s + 1) (m := m) (kd := 9) (by omega) (by omega) (by omega)
            rw [show ((s + 1 : Nat) : Int) = gs by omega] at hop
            have hlr := openS_lr (m := m) (kd := 9) hI2.2.1 i1 (s := s + 1) (by omega)
            have i9 := ih (n + 1) (insV U (s + 1) 9 m) (openS g2 (ad L 182) (s + 1) 9 m) (some (AI gs)) (by omega) ⟨insV_wf i1 (by omega) c4.1 (by omega) hm (by omega), hlr, fun x z => (openS_out (by unfold ad at *; omega)).trans (hI2.2.2 x z)⟩ hv
            simp only [m_L_breathe, b_L_breathe_0, P_L_breathe_12, b_L_breathe_12, P_L_breathe_61, b_L_breathe_61, P_L_breathe_84, b_L_breathe_84, P_L_breathe_98, b_L_breathe_98, wp_abs, wp_aln0, wp_bipush, wp_copy, wp_cs1, wp_cs2, wp_cs3, wp_cs4, wp_cs5, wp_cs6, wp_cs7, wp_cv1, wp_cv2, wp_cv3, wp_cv4, wp_cv5, wp_cv6, wp_cv7, wp_goto, wp_iald, wp_icgt, wp_icne, wp_iconst, wp_iln1, wp_iln2, wp_iln3, wp_inc2, wp_iret, wp_isn2, wp_isn3, wp_isub, wp_izeq, wp_izne, wp_max, wp_min, wp_nop, wp_zret, qsc_kd, qsc_k1, qsc_l1, qsc_gf1, qsc_k2, qsc_l2, qsc_gf2, qsc_k3, qsc_l3, qsc_gf3, qsc_k4, qsc_l4, qsc_gf4, qsc_k5, qsc_l5, qsc_gf6, qsc_k6, qsc_l6, qsc_gf7, qsc_k7, qsc_l7, qsc_gf9, qsc_k8, qsc_l8, qsc_gf10, qsc_gf0, qsc_pf0, qsc_gf5, qsc_pf5, qsc_gf8, qsc_pf8, qar_kd, qar_k1, qar_l1, qar_gf0, qar_k2, qar_l2, qar_gf1, qar_gf2, qar_pf2, qar_gf3, qar_pf3, qlf_kd, qlf_gf0, qlf_k31, qlf_l31, qlf_gf1, qlf_gf3, qlf_gf4, qlf_gf5, qlf_gf6, qlf_k203, qlf_l203, qlf_gf7, qlf_gf2, qlf_pf2, qlf_gf8, qlf_pf8, wrI_row, cpI_row, row_s, row_n, row_ss, row_sw, upd_s, upd_n, ad_inj, ad_z, ad_z2, Nat.reduceEqDiff, reduceCtorEq, List.cons_append, List.nil_append, Option.toList_some, Option.toList_none, Int.toNat_natCast, List.length_cons, List.length_nil, Int.cast_ofNat_Int, Nat.reduceAdd, Nat.reduceLeDiff, Nat.reduceLT, Nat.reduceMul, Int.reduceAdd, Int.reduceSub, Int.reduceMul, Int.reduceNeg, Int.reduceLT, Int.reduceLE, Int.reduceEq, Int.reduceToNat, eq_self, true_and, and_true, true_or, or_true, false_or, or_false, if_true, if_false, not_true_eq_false, not_false_eq_true, and_self, ne_eq, hLf, hAr, hTr, a4, c1, c2, c3, ei, r6, hro, hop]
            (repeat' (first | apply And.intro | split)) <;> first | omega | exact i9
          · rw [if_neg c4] at hv
            rw [b2_f c4] at hro
            rw [← hv] at hQ
            rw [brR_n (by omega)] at hQ
            have q := hQ g2 ρ h (hI2.rep hX hW) ⟨rfl, fun x z => ⟨rfl, hI2.2.2 x (by unfold ad at *; omega)⟩⟩
            simp only [m_L_breathe, b_L_breathe_0, P_L_breathe_12, b_L_breathe_12, P_L_breathe_61, b_L_breathe_61, P_L_breathe_84, b_L_breathe_84, P_L_breathe_98, b_L_breathe_98, wp_abs, wp_aln0, wp_bipush, wp_copy, wp_cs1, wp_cs2, wp_cs3, wp_cs4, wp_cs5, wp_cs6, wp_cs7, wp_cv1, wp_cv2, wp_cv3, wp_cv4, wp_cv5, wp_cv6, wp_cv7, wp_goto, wp_iald, wp_icgt, wp_icne, wp_iconst, wp_iln1, wp_iln2, wp_iln3, wp_inc2, wp_iret, wp_isn2, wp_isn3, wp_isub, wp_izeq, wp_izne, wp_max, wp_min, wp_nop, wp_zret, qsc_kd, qsc_k1, qsc_l1, qsc_gf1, qsc_k2, qsc_l2, qsc_gf2, qsc_k3, qsc_l3, qsc_gf3, qsc_k4, qsc_l4, qsc_gf4, qsc_k5, qsc_l5, qsc_gf6, qsc_k6, qsc_l6, qsc_gf7, qsc_k7, qsc_l7, qsc_gf9, qsc_k8, qsc_l8, qsc_gf10, qsc_gf0, qsc_pf0, qsc_gf5, qsc_pf5, qsc_gf8, qsc_pf8, qar_kd, qar_k1, qar_l1, qar_gf0, qar_k2, qar_l2, qar_gf1, qar_gf2, qar_pf2, qar_gf3, qar_pf3, qlf_kd, qlf_gf0, qlf_k31, qlf_l31, qlf_gf1, qlf_gf3, qlf_gf4, qlf_gf5, qlf_gf6, qlf_k203, qlf_l203, qlf_gf7, qlf_gf2, qlf_pf2, qlf_gf8, qlf_pf8, wrI_row, cpI_row, row_s, row_n, row_ss, row_sw, upd_s, upd_n, ad_inj, ad_z, ad_z2, Nat.reduceEqDiff, reduceCtorEq, List.cons_append, List.nil_append, Option.toList_some, Option.toList_none, Int.toNat_natCast, List.length_cons, List.length_nil, Int.cast_ofNat_Int, Nat.reduceAdd, Nat.reduceLeDiff, Nat.reduceLT, Nat.reduceMul, Int.reduceAdd, Int.reduceSub, Int.reduceMul, Int.reduceNeg, Int.reduceLT, Int.reduceLE, Int.reduceEq, Int.reduceToNat, eq_self, true_and, and_true, true_or, or_true, false_or, or_false, if_true, if_false, not_true_eq_false, not_false_eq_true, and_self, ne_eq, hLf, hAr, hTr, a4, c1, c2, c3, ei, r6, hro]
            (repeat' (first | apply And.intro | split)) <;> first | omega | exact q
theorem c_breathe (hX : RepC g ρ L h X) (hW : WFX X) {m : Int} (hm : i32 m) (hQ : CQ g ρ L (sBreathe m X) Q) : WpM zt 60 [AR L, AI m] (g, ρ) Q := by
  obtain ⟨hLf, hN, -⟩ := id hX.1
  obtain ⟨hR, -⟩ := id hX.2.1
  have hU := hW.1.1
  have hWV := hR.wf (by omega) hU
  have hN1 := hN.1
  have hS := hN.2.1
  have e0 : g (ad (ad L 1) 1) 0 = X.1.1 0 0 := hR.l0
  have e5 : g (ad (ad L 1) 1) 5 = X.1.1 5 0 := hR.l5
  have e8 : g (ad (ad L 1) 1) 8 = X.1.1 8 0 := hR.l8
  have b0 := hU.1
  have b5 := hU.2.2.2.2.1
  have b8 := hU.2.2.2.2.2.2.1
  unfold sBreathe at hQ
  have hTr := hX.1.2.2.2.1
  by_cases c : 1 ≤ m ∧ m ≤ 20
  · rw [if_pos c] at hQ
    have ho1 := fun Q => lk_in (zt := zt) (g := g) (ρ := ρ) (lo := 1) (hi := 20) (by omega) (by omega) c Q
    obtain ⟨M, rfl⟩ := Int.eq_ofNat_of_zero_le (show 0 ≤ m by omega)
    rw [Int.toNat_natCast] at hQ
    simp only [m_L_breathe, b_L_breathe_0, P_L_breathe_12, b_L_breathe_12, P_L_breathe_61, b_L_breathe_61, P_L_breathe_81, b_L_breathe_81, P_L_breathe_84, b_L_breathe_84, P_L_breathe_98, b_L_breathe_98, P_L_breathe_115, b_L_breathe_115, wp_abs, wp_aln0, wp_bipush, wp_copy, wp_cs1, wp_cs2, wp_cs3, wp_cs4, wp_cs5, wp_cs6, wp_cs7, wp_cv1, wp_cv2, wp_cv3, wp_cv4, wp_cv5, wp_cv6, wp_cv7, wp_goto, wp_iald, wp_icgt, wp_icne, wp_iconst, wp_iln1, wp_iln2, wp_iln3, wp_inc2, wp_iret, wp_isn2, wp_isn3, wp_isub, wp_izeq, wp_izne, wp_max, wp_min, wp_nop, wp_zret, qsc_kd, qsc_k1, qsc_l1, qsc_gf1, qsc_k2, qsc_l2, qsc_gf2, qsc_k3, qsc_l3, qsc_gf3, qsc_k4, qsc_l4, qsc_gf4, qsc_k5, qsc_l5, qsc_gf6, qsc_k6, qsc_l6, qsc_gf7, qsc_k7, qsc_l7, qsc_gf9, qsc_k8, qsc_l8, qsc_gf10, qsc_gf0, qsc_pf0, qsc_gf5, qsc_pf5, qsc_gf8, qsc_pf8, qst_kd, qst_gf0, qst_k10, qst_l10, qst_gf1, qst_k29, qst_l29, qst_gf2, qlf_kd, qlf_gf0, qlf_k31, qlf_l31, qlf_gf1, qlf_gf3, qlf_gf4, qlf_gf5, qlf_gf6, qlf_k203, qlf_l203, qlf_gf7, qlf_gf2, qlf_pf2, qlf_gf8, qlf_pf8, wrI_row, cpI_row, row_s, row_n, row_ss, row_sw, upd_s, upd_n, ad_inj, ad_z, ad_z2, Nat.reduceEqDiff, reduceCtorEq, List.cons_append, List.nil_append, Option.toList_some, Option.toList_none, Int.toNat_natCast, List.length_cons, List.length_nil, Int.cast_ofNat_Int, Nat.reduceAdd, Nat.reduceLeDiff, Nat.reduceLT, Nat.reduceMul, Int.reduceAdd, Int.reduceSub, Int.reduceMul, Int.reduceNeg, Int.reduceLT, Int.reduceLE, Int.reduceEq, Int.reduceToNat, eq_self, true_and, and_true, true_or, or_true, false_or, or_false, if_true, if_false, not_true_eq_false, not_false_eq_true, and_self, ne_eq, hLf, hN1, hTr, ho1]
    refine copyFrom_ok hTr hS (by unfold ad; omega) (fun g1 he hf => ?_)
    have k1 := breathe_loop (zt := zt) hX hW (m := M) (by omega) hQ 31 0 X.1.1 g1 none (by omega) ⟨hU, hR.eq hU he, fun x z => hf x (by unfold ad at *; omega)⟩ rfl
    simp only [m_L_breathe, b_L_breathe_0, P_L_breathe_12, b_L_breathe_12, P_L_breathe_61, b_L_breathe_61, P_L_breathe_81, b_L_breathe_81, P_L_breathe_84, b_L_breathe_84, P_L_breathe_98, b_L_breathe_98, P_L_breathe_115, b_L_breathe_115, wp_abs, wp_aln0, wp_bipush, wp_copy, wp_cs1, wp_cs2, wp_cs3, wp_cs4, wp_cs5, wp_cs6, wp_cs7, wp_cv1, wp_cv2, wp_cv3, wp_cv4, wp_cv5, wp_cv6, wp_cv7, wp_goto, wp_iald, wp_icgt, wp_icne, wp_iconst, wp_iln1, wp_iln2, wp_iln3, wp_inc2, wp_iret, wp_isn2, wp_isn3, wp_isub, wp_izeq, wp_izne, wp_max, wp_min, wp_nop, wp_zret, qst_kd, qst_gf0, qst_k10, qst_l10, qst_gf1, qst_k29, qst_l29, qst_gf2, qlf_kd, qlf_gf0, qlf_k31, qlf_l31, qlf_gf1, qlf_gf3, qlf_gf4, qlf_gf5, qlf_gf6, qlf_k203, qlf_l203, qlf_gf7, qlf_gf2, qlf_pf2, qlf_gf8, qlf_pf8, wrI_row, cpI_row, row_s, row_n, row_ss, row_sw, upd_s, upd_n, ad_inj, ad_z, ad_z2, Nat.reduceEqDiff, reduceCtorEq, List.cons_append, List.nil_append, Option.toList_some, Option.toList_none, Int.toNat_natCast, List.length_cons, List.length_nil, Int.cast_ofNat_Int, Nat.reduceAdd, Nat.reduceLeDiff, Nat.reduceLT, Nat.reduceMul, Int.reduceAdd, Int.reduceSub, Int.reduceMul, Int.reduceNeg, Int.reduceLT, Int.reduceLE, Int.reduceEq, Int.reduceToNat, eq_self, true_and, and_true, true_or, or_true, false_or, or_false, if_true, if_false, not_true_eq_false, not_false_eq_true, and_self, ne_eq, hLf]
    exact k1
  · rw [if_neg c] at hQ
    have q := hQ.ro hX
    have ho1 := fun Q => lk_out (zt := zt) (g := g) (ρ := ρ) (lo := 1) (hi := 20) hm (by omega) (by omega) c Q
    simp only [m_L_breathe, b_L_breathe_0, P_L_breathe_12, b_L_breathe_12, P_L_breathe_61, b_L_breathe_61, P_L_breathe_81, b_L_breathe_81, P_L_breathe_84, b_L_breathe_84, P_L_breathe_98, b_L_breathe_98, P_L_breathe_115, b_L_breathe_115, wp_abs, wp_aln0, wp_bipush, wp_copy, wp_cs1, wp_cs2, wp_cs3, wp_cs4, wp_cs5, wp_cs6, wp_cs7, wp_cv1, wp_cv2, wp_cv3, wp_cv4, wp_cv5, wp_cv6, wp_cv7, wp_goto, wp_iald, wp_icgt, wp_icne, wp_iconst, wp_iln1, wp_iln2, wp_iln3, wp_inc2, wp_iret, wp_isn2, wp_isn3, wp_isub, wp_izeq, wp_izne, wp_max, wp_min, wp_nop, wp_zret, qst_kd, qst_gf0, qst_k10, qst_l10, qst_gf1, qst_k29, qst_l29, qst_gf2, qlf_kd, qlf_gf0, qlf_k31, qlf_l31, qlf_gf1, qlf_gf3, qlf_gf4, qlf_gf5, qlf_gf6, qlf_k203, qlf_l203, qlf_gf7, qlf_gf2, qlf_pf2, qlf_gf8, qlf_pf8, wrI_row, cpI_row, row_s, row_n, row_ss, row_sw, upd_s, upd_n, ad_inj, ad_z, ad_z2, Nat.reduceEqDiff, reduceCtorEq, List.cons_append, List.nil_append, Option.toList_some, Option.toList_none, Int.toNat_natCast, List.length_cons, List.length_nil, Int.cast_ofNat_Int, Nat.reduceAdd, Nat.reduceLeDiff, Nat.reduceLT, Nat.reduceMul, Int.reduceAdd, Int.reduceSub, Int.reduceMul, Int.reduceNeg, Int.reduceLT, Int.reduceLE, Int.reduceEq, Int.reduceToNat, eq_self, true_and, and_true, true_or, or_true, false_or, or_false, if_true, if_false, not_true_eq_false, not_false_eq_true, and_self, ne_eq, hLf, hN1, ho1]
    (repeat' (first | apply And.intro | split)) <;> first | omega | exact q
/-- what the text holds, read onto a view -/
def ldV (X : XV) : Int × Nat × Vw := itmsF X.2.2.2.2 X.2.2.2.1 X.2.2.2.1 (skp X.2.2.2.2 X.2.2.2.1 0) 0 X.1.1
def sLoad (X : XV) : Int × XV := if (ldV X).1 = -1 then ((ldV X).2.1, clX (actX X (ldV X).2.2)) else (-1000 - (ldV X).1, X)
theorem sLoad_wf {X : XV} (hW : WFX X) : WFX (sLoad X).2 := by
  unfold sLoad
  split
  · exact clX_wf (actX_wf hW (itmsF_wf _ _ _ _ (skp_b (Nat.zero_le _)).2 hW.1.1).1)
  · exact hW
theorem rd_lay (hX : RepC g ρ L h X) {g1 : Nat → Nat → Int} (h1 : ∀ x, (x < ad L 182 ∨ ad L 191 ≤ x) → x ≠ ad L 201 → g1 x = g x) (hW : WFX X) : RepC g1 (rdP ρ (ad L 201) (ad L 203)) L h X := by
  obtain ⟨k1, k2⟩ := hX.kept (g' := g1) hW (fun x z1 z2 => h1 x (by unfold ad at *; omega) (by unfold ad at *; omega))
  refine ⟨lay_mv k1 rfl (fun x z1 z2 z3 z4 => rdP_1 z4) (fun i hi => ?_) k1.2.2.2.2.2.2.2.2, k2⟩
  rw [rdP_1 (by unfold ad; omega)]
  exact k1.2.2.2.2.2.2.2.1 i hi
theorem c_load (hX : RepC g ρ L h X) (hW : WFX X) (hQ : CQ g ρ L (sLoad X) Q) : WpM zt 65 [AR L] (g, ρ) Q := by
  obtain ⟨hLf, hN, -⟩ := id hX.1
  obtain ⟨hR, -⟩ := id hX.2.1
  have hU := hW.1.1
  have hWV := hR.wf (by omega) hU
  have hN1 := hN.1
  have hS := hN.2.1
  have e0 : g (ad (ad L 1) 1) 0 = X.1.1 0 0 := hR.l0
  have e5 : g (ad (ad L 1) 1) 5 = X.1.1 5 0 := hR.l5
  have e8 : g (ad (ad L 1) 1) 8 = X.1.1 8 0 := hR.l8
  have b0 := hU.1
  have b5 := hU.2.2.2.2.1
  have b8 := hU.2.2.2.2.2.2.1
  have hTr := hX.1.2.2.2.1
  have hRd := hX.1.2.2.2.2.2.2.1
  have x4 : g L 8 = X.2.2.2.1 := hX.2.2.2.2.1
  have x5 := hX.2.2.2.2.2
  have wl := hW.2.2.2.1
  have wt := hW.2.2.2.2
  have ktx := qlf_k203 hLf
  have ltx := qlf_l203 hLf
  unfold sLoad at hQ
  simp only [m_L_load, b_L_load_0, P_L_load_57, b_L_load_57, wp_aln0, wp_cv1, wp_cv2, wp_cv3, wp_cv4, wp_cv5, wp_cv6, wp_cv7, wp_iceq, wp_iconst, wp_iln1, wp_iret, wp_isn1, wp_isub, wp_sipush, wp_zret, qsc_kd, qsc_k1, qsc_l1, qsc_gf1, qsc_k2, qsc_l2, qsc_gf2, qsc_k3, qsc_l3, qsc_gf3, qsc_k4, qsc_l4, qsc_gf4, qsc_k5, qsc_l5, qsc_gf6, qsc_k6, qsc_l6, qsc_gf7, qsc_k7, qsc_l7, qsc_gf9, qsc_k8, qsc_l8, qsc_gf10, qsc_gf0, qsc_pf0, qsc_gf5, qsc_pf5, qsc_gf8, qsc_pf8, qst_kd, qst_gf0, qst_k10, qst_l10, qst_gf1, qst_k29, qst_l29, qst_gf2, qlf_kd, qlf_gf0, qlf_k31, qlf_l31, qlf_gf1, qlf_gf3, qlf_gf4, qlf_gf5, qlf_gf6, qlf_k203, qlf_l203, qlf_gf7, qlf_gf2, qlf_pf2, qlf_gf8, qlf_pf8, wrI_row, cpI_row, row_s, row_n, row_ss, row_sw, upd_s, upd_n, ad_inj, ad_z, ad_z2, Nat.reduceEqDiff, reduceCtorEq, List.cons_append, List.nil_append, Option.toList_some, Option.toList_none, Int.toNat_natCast, List.length_cons, List.length_nil, Int.cast_ofNat_Int, Nat.reduceAdd, Nat.reduceLeDiff, Nat.reduceLT, Nat.reduceMul, Int.reduceAdd, Int.reduceSub, Int.reduceMul, Int.reduceNeg, Int.reduceLT, Int.reduceLE, Int.reduceEq, Int.reduceToNat, eq_self, true_and, and_true, true_or, or_true, false_or, or_false, if_true, if_false, not_true_eq_false, not_false_eq_true, and_self, ne_eq, hLf, hN1, hTr]
  refine copyFrom_ok hTr hS (by unfold ad; omega) (fun g1 he hf => ?_)
  have hR1 := hR.eq hU he
  have etx : ∀ j, j < X.2.2.2.1 → g1 (ad L 203) j = X.2.2.2.2 j := fun j hj => by
    rw [hf _ (by unfold ad; omega)]
    exact x5 j hj
  have eL8 : g1 L 8 = X.2.2.2.1 := by
    rw [hf L (by unfold ad; omega)]
    exact x4
  have hT1 : ∀ j, j < X.2.2.2.1 → 0 ≤ g1 (ad L 203) j ∧ g1 (ad L 203) j ≤ 255 := fun j hj => by
    have := wt j hj
    rw [etx j hj]
    omega
  have eld : itmsF (g1 (ad L 203)) X.2.2.2.1 X.2.2.2.1 (skp (g1 (ad L 203)) X.2.2.2.1 0) 0 X.1.1 = ldV X := by
    unfold ldV
    rw [skp_eq etx, itmsF_eq etx]
  have leb := (itmsF_wf (T := X.2.2.2.2) (L := X.2.2.2.1) X.2.2.2.1 (skp X.2.2.2.2 X.2.2.2.1 0) 0 X.1.1 (skp_b (Nat.zero_le _)).2 hU)
  change WFV (-1) (ldV X).2.2 ∧ -1 ≤ (ldV X).1 ∧ (ldV X).1 ≤ _ at leb
  simp only [m_L_load, b_L_load_0, P_L_load_57, b_L_load_57, wp_aln0, wp_cv1, wp_cv2, wp_cv3, wp_cv4, wp_cv5, wp_cv6, wp_cv7, wp_iceq, wp_iconst, wp_iln1, wp_iret, wp_isn1, wp_isub, wp_sipush, wp_zret, qsc_kd, qsc_k1, qsc_l1, qsc_gf1, qsc_k2, qsc_l2, qsc_gf2, qsc_k3, qsc_l3, qsc_gf3, qsc_k4, qsc_l4, qsc_gf4, qsc_k5, qsc_l5, qsc_gf6, qsc_k6, qsc_l6, qsc_gf7, qsc_k7, qsc_l7, qsc_gf9, qsc_k8, qsc_l8, qsc_gf10, qsc_gf0, qsc_pf0, qsc_gf5, qsc_pf5, qsc_gf8, qsc_pf8, qrd_kd, qrd_gf0, qrd_pf0, qrd_gf2, qrd_pf2, qrd_gf3, qrd_pf3, qst_kd, qst_gf0, qst_k10, qst_l10, qst_gf1, qst_k29, qst_l29, qst_gf2, qlf_kd, qlf_gf0, qlf_k31, qlf_l31, qlf_gf1, qlf_gf3, qlf_gf4, qlf_gf5, qlf_gf6, qlf_k203, qlf_l203, qlf_gf7, qlf_gf2, qlf_pf2, qlf_gf8, qlf_pf8, wrI_row, cpI_row, row_s, row_n, row_ss, row_sw, upd_s, upd_n, ad_inj, ad_z, ad_z2, Nat.reduceEqDiff, reduceCtorEq, List.cons_append, List.nil_append, Option.toList_some, Option.toList_none, Int.toNat_natCast, List.length_cons, List.length_nil, Int.cast_ofNat_Int, Nat.reduceAdd, Nat.reduceLeDiff, Nat.reduceLT, Nat.reduceMul, Int.reduceAdd, Int.reduceSub, Int.reduceMul, Int.reduceNeg, Int.reduceLT, Int.reduceLE, Int.reduceEq, Int.reduceToNat, eq_self, true_and, and_true, true_or, or_true, false_or, or_false, if_true, if_false, not_true_eq_false, not_false_eq_true, and_self, ne_eq, hLf, hN1, hTr, hRd, eL8]
  refine readItems_ok hTr hRd ktx ltx (by unfold ad; omega) (by unfold ad; omega) (by unfold ad; omega) wl hT1 hR1 hU (fun g2 v y1 y2 y3 => ?_)
  rw [eld] at y2 y3
  have hX2 := rd_lay hX (g1 := g2) (fun x z1 z2 => by
    rw [y1 x (by unfold ad at *; omega) z2]
    exact hf x (by unfold ad at *; omega)) hW
  have hLf2 := hX2.1.1
  have hRd2 := hX2.1.2.2.2.2.2.2.1
  have hTr2 := hX2.1.2.2.2.1
  have hN2 := hX2.1.2.1.1
  have hfr2 : ∀ x, (x < L ∨ ad L 204 ≤ x) → (rdP ρ (ad L 201) (ad L 203)).1 x = ρ.1 x ∧ g2 x = g x := fun x z => ⟨rdP_1 (by unfold ad at *; omega), by
    rw [y1 x (by unfold ad at *; omega) (by unfold ad at *; omega)]
    exact hf x (by unfold ad at *; omega)⟩
  obtain ⟨ρ2, hρ2⟩ : ∃ ρ2, ρ2 = rdP ρ (ad L 201) (ad L 203) := ⟨_, rfl⟩
  have hρ3 : ρ2.2 = ρ.2 := by rw [hρ2]; rfl
  rw [← hρ2] at hX2 hLf2 hRd2 hTr2 hN2 hfr2 ⊢
  by_cases c : (ldV X).1 = -1
  · rw [if_pos c] at hQ
    obtain ⟨y4, y5⟩ := y3 c
    rw [c] at y2
    simp only [m_L_load, b_L_load_0, P_L_load_57, b_L_load_57, wp_aln0, wp_cv1, wp_cv2, wp_cv3, wp_cv4, wp_cv5, wp_cv6, wp_cv7, wp_iceq, wp_iconst, wp_iln1, wp_iret, wp_isn1, wp_isub, wp_sipush, wp_zret, qsc_kd, qsc_k1, qsc_l1, qsc_gf1, qsc_k2, qsc_l2, qsc_gf2, qsc_k3, qsc_l3, qsc_gf3, qsc_k4, qsc_l4, qsc_gf4, qsc_k5, qsc_l5, qsc_gf6, qsc_k6, qsc_l6, qsc_gf7, qsc_k7, qsc_l7, qsc_gf9, qsc_k8, qsc_l8, qsc_gf10, qsc_gf0, qsc_pf0, qsc_gf5, qsc_pf5, qsc_gf8, qsc_pf8, qrd_kd, qrd_gf0, qrd_pf0, qrd_gf2, qrd_pf2, qrd_gf3, qrd_pf3, qst_kd, qst_gf0, qst_k10, qst_l10, qst_gf1, qst_k29, qst_l29, qst_gf2, qlf_kd, qlf_gf0, qlf_k31, qlf_l31, qlf_gf1, qlf_gf3, qlf_gf4, qlf_gf5, qlf_gf6, qlf_k203, qlf_l203, qlf_gf7, qlf_gf2, qlf_pf2, qlf_gf8, qlf_pf8, wrI_row, cpI_row, row_s, row_n, row_ss, row_sw, upd_s, upd_n, ad_inj, ad_z, ad_z2, Nat.reduceEqDiff, reduceCtorEq, List.cons_append, List.nil_append, Option.toList_some, Option.toList_none, Int.toNat_natCast, List.length_cons, List.length_nil, Int.cast_ofNat_Int, Nat.reduceAdd, Nat.reduceLeDiff, Nat.reduceLT, Nat.reduceMul, Int.reduceAdd, Int.reduceSub, Int.reduceMul, Int.reduceNeg, Int.reduceLT, Int.reduceLE, Int.reduceEq, Int.reduceToNat, eq_self, true_and, and_true, true_or, or_true, false_or, or_false, if_true, if_false, not_true_eq_false, not_false_eq_true, and_self, ne_eq, hLf2, hRd2, y2]
    refine recordState_ok hX2 hW (fun g' ρ' h' j1 j2 j3 j4 => ?_)
    have hLf' := j1.1.1
    have hN' := j1.1.2.1
    have hN1' := hN'.1
    have hS' := hN'.2.1
    have hTr' := j1.1.2.2.2.1
    have et : vwC g' (ad L 182) = vwC g2 (ad L 182) := vwC_kept (fun x z1 z2 => j4 x (by unfold ad at *; omega))
    simp only [m_L_load, b_L_load_0, P_L_load_57, b_L_load_57, wp_aln0, wp_cv1, wp_cv2, wp_cv3, wp_cv4, wp_cv5, wp_cv6, wp_cv7, wp_iceq, wp_iconst, wp_iln1, wp_iret, wp_isn1, wp_isub, wp_sipush, wp_zret, qsc_kd, qsc_k1, qsc_l1, qsc_gf1, qsc_k2, qsc_l2, qsc_gf2, qsc_k3, qsc_l3, qsc_gf3, qsc_k4, qsc_l4, qsc_gf4, qsc_k5, qsc_l5, qsc_gf6, qsc_k6, qsc_l6, qsc_gf7, qsc_k7, qsc_l7, qsc_gf9, qsc_k8, qsc_l8, qsc_gf10, qsc_gf0, qsc_pf0, qsc_gf5, qsc_pf5, qsc_gf8, qsc_pf8, qst_kd, qst_gf0, qst_k10, qst_l10, qst_gf1, qst_k29, qst_l29, qst_gf2, qlf_kd, qlf_gf0, qlf_k31, qlf_l31, qlf_gf1, qlf_gf3, qlf_gf4, qlf_gf5, qlf_gf6, qlf_k203, qlf_l203, qlf_gf7, qlf_gf2, qlf_pf2, qlf_gf8, qlf_pf8, wrI_row, cpI_row, row_s, row_n, row_ss, row_sw, upd_s, upd_n, ad_inj, ad_z, ad_z2, Nat.reduceEqDiff, reduceCtorEq, List.cons_append, List.nil_append, Option.toList_some, Option.toList_none, Int.toNat_natCast, List.length_cons, List.length_nil, Int.cast_ofNat_Int, Nat.reduceAdd, Nat.reduceLeDiff, Nat.reduceLT, Nat.reduceMul, Int.reduceAdd, Int.reduceSub, Int.reduceMul, Int.reduceNeg, Int.reduceLT, Int.reduceLE, Int.reduceEq, Int.reduceToNat, eq_self, true_and, and_true, true_or, or_true, false_or, or_false, if_true, if_false, not_true_eq_false, not_false_eq_true, and_self, ne_eq, hLf', hN1', hS']
    refine copyFrom_ok hS' hTr' (by unfold ad; omega) (fun g3 he3 hf3 => ?_)
    rw [et] at he3
    have hl := y5.eq leb.1 he3
    have hX3 := j1.now hW hl (fun x z => hf3 x (by unfold ad at *; omega))
    have q := hQ (setRow g3 L (upd1 (g3 L) 8 0)) ρ' h' (clX_rep hX3 (actX_wf hW leb.1) (fun x z1 z2 => row_n (by omega)) (by rw [row_s, upd_n (by omega)]) (by rw [row_s, upd_s])) ⟨by rw [j2, hρ3], fun x z => ⟨by rw [j3 x (by unfold ad at *; omega)]; exact (hfr2 x z).1, by
      rw [row_n (by unfold ad at z; omega), hf3 x (by unfold ad at *; omega), j4 x (by unfold ad at *; omega)]
      exact (hfr2 x z).2⟩⟩
    rw [← y4] at q
    simp only [m_L_load, b_L_load_0, P_L_load_57, b_L_load_57, wp_aln0, wp_cv1, wp_cv2, wp_cv3, wp_cv4, wp_cv5, wp_cv6, wp_cv7, wp_iceq, wp_iconst, wp_iln1, wp_iret, wp_isn1, wp_isub, wp_sipush, wp_zret, qst_kd, qst_gf0, qst_k10, qst_l10, qst_gf1, qst_k29, qst_l29, qst_gf2, qlf_kd, qlf_gf0, qlf_k31, qlf_l31, qlf_gf1, qlf_gf3, qlf_gf4, qlf_gf5, qlf_gf6, qlf_k203, qlf_l203, qlf_gf7, qlf_gf2, qlf_pf2, qlf_gf8, qlf_pf8, wrI_row, cpI_row, row_s, row_n, row_ss, row_sw, upd_s, upd_n, ad_inj, ad_z, ad_z2, Nat.reduceEqDiff, reduceCtorEq, List.cons_append, List.nil_append, Option.toList_some, Option.toList_none, Int.toNat_natCast, List.length_cons, List.length_nil, Int.cast_ofNat_Int, Nat.reduceAdd, Nat.reduceLeDiff, Nat.reduceLT, Nat.reduceMul, Int.reduceAdd, Int.reduceSub, Int.reduceMul, Int.reduceNeg, Int.reduceLT, Int.reduceLE, Int.reduceEq, Int.reduceToNat, eq_self, true_and, and_true, true_or, or_true, false_or, or_false, if_true, if_false, not_true_eq_false, not_false_eq_true, and_self, ne_eq, hLf', hN1']
    (repeat' (first | apply And.intro | split)) <;> first | omega | exact q
  · rw [if_neg c] at hQ
    have q := hQ g2 ρ2 h hX2 ⟨hρ3, hfr2⟩
    rw [← y2] at q c leb
    simp only [m_L_load, b_L_load_0, P_L_load_57, b_L_load_57, wp_aln0, wp_cv1, wp_cv2, wp_cv3, wp_cv4, wp_cv5, wp_cv6, wp_cv7, wp_iceq, wp_iconst, wp_iln1, wp_iret, wp_isn1, wp_isub, wp_sipush, wp_zret, qsc_kd, qsc_k1, qsc_l1, qsc_gf1, qsc_k2, qsc_l2, qsc_gf2, qsc_k3, qsc_l3, qsc_gf3, qsc_k4, qsc_l4, qsc_gf4, qsc_k5, qsc_l5, qsc_gf6, qsc_k6, qsc_l6, qsc_gf7, qsc_k7, qsc_l7, qsc_gf9, qsc_k8, qsc_l8, qsc_gf10, qsc_gf0, qsc_pf0, qsc_gf5, qsc_pf5, qsc_gf8, qsc_pf8, qrd_kd, qrd_gf0, qrd_pf0, qrd_gf2, qrd_pf2, qrd_gf3, qrd_pf3, qst_kd, qst_gf0, qst_k10, qst_l10, qst_gf1, qst_k29, qst_l29, qst_gf2, qlf_kd, qlf_gf0, qlf_k31, qlf_l31, qlf_gf1, qlf_gf3, qlf_gf4, qlf_gf5, qlf_gf6, qlf_k203, qlf_l203, qlf_gf7, qlf_gf2, qlf_pf2, qlf_gf8, qlf_pf8, wrI_row, cpI_row, row_s, row_n, row_ss, row_sw, upd_s, upd_n, ad_inj, ad_z, ad_z2, Nat.reduceEqDiff, reduceCtorEq, List.cons_append, List.nil_append, Option.toList_some, Option.toList_none, Int.toNat_natCast, List.length_cons, List.length_nil, Int.cast_ofNat_Int, Nat.reduceAdd, Nat.reduceLeDiff, Nat.reduceLT, Nat.reduceMul, Int.reduceAdd, Int.reduceSub, Int.reduceMul, Int.reduceNeg, Int.reduceLT, Int.reduceLE, Int.reduceEq, Int.reduceToNat, eq_self, true_and, and_true, true_or, or_true, false_or, or_false, if_true, if_false, not_true_eq_false, not_false_eq_true, and_self, ne_eq, hLf2, hRd2]
    (repeat' (first | apply And.intro | split)) <;> first | omega | exact q
end BRE
