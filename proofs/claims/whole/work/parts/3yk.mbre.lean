/-! breathe of the reference -/
section MBR
variable {zt : Nat → Nat} {g : Nat → Nat → Int} {ρ : Ri} {M : Nat} {X : XV} {Q : Option AV → Sto → Prop}
/-- the spare page holds a view, and what the page has behind it; all else that counts stands -/
def TrM (g : Nat → Nat → Int) (M : Nat) (U : Vw) (g1 : Nat → Nat → Int) : Prop := WFV (-1) U ∧ LR (-1) (vwM (g1 (ad M 2))) U ∧ (∀ y, 317 ≤ y → y < 953 → g1 (ad M 2) y = g (ad M 1) y) ∧ (∀ x, x ≠ M → x ≠ ad M 2 → x ≠ ad M 5 → x ≠ ad M 6 → g1 x = g x) ∧ ∀ k, k ≠ 8 → k ≠ 9 → g1 M k = g M k
theorem TrM.rep {U : Vw} {g1 : Nat → Nat → Int} (hI : TrM g M U g1) (hX : RepM g ρ M X) : RepM g1 ρ M X := hX.kept (hI.2.2.2.1 _ (by unfold ad; omega) (by unfold ad; omega) (by unfold ad; omega) (by unfold ad; omega)) (hI.2.2.2.1 _ (by unfold ad; omega) (by unfold ad; omega) (by unfold ad; omega) (by unfold ad; omega)) (hI.2.2.2.1 _ (by unfold ad; omega) (by unfold ad; omega) (by unfold ad; omega) (by unfold ad; omega)) (hI.2.2.2.2 3 (by omega) (by omega)) (hI.2.2.2.2 5 (by omega) (by omega))
theorem TrM.fr {U : Vw} {g1 : Nat → Nat → Int} (hI : TrM g M U g1) (x : Nat) (z : x < M ∨ ad M 10 ≤ x) : g1 x = g x := hI.2.2.2.1 x (by unfold ad at z; omega) (by unfold ad at *; omega) (by unfold ad at *; omega) (by unfold ad at *; omega)
theorem TrM.st {U : Vw} (hX : RepM g ρ M X) (hW : WFX X) (hU : U = X.1.1) : TrM g M U (setRow g (ad M 2) (cpR (g (ad M 1)) (g (ad M 2)) 0 0 953)) := by
  subst hU
  refine ⟨hW.1.1, ?_, fun y z1 z2 => ?_, fun x z1 z2 z3 z4 => row_n z2, fun k z1 z2 => by rw [row_n (by unfold ad; omega)]⟩
  · rw [row_s]
    refine lrm_eq hX.2.1.1 hW.1.1 (fun j hj => ?_)
    rw [cpR_in (by omega) (by omega), show 0 + (j - 0) = j by omega]
  · rw [row_s, cpR_in (by omega) (by omega), show 0 + (y - 0) = y by omega]
/-- a new segment on the spare page -/
theorem TrM.pg {U U' : Vw} {g1 : Nat → Nat → Int} (hI : TrM g M U g1) {R' : Nat → Int} (hW' : WFV (-1) U') (hR : LR (-1) (vwM R') U') (hy : ∀ y, 317 ≤ y → R' y = g1 (ad M 2) y) : TrM g M U' (setRow g1 (ad M 2) R') := by
  obtain ⟨h1, h2, h3, h4, h5⟩ := hI
  refine ⟨hW', by rw [row_s]; exact hR, fun y z1 z2 => ?_, fun x z0 z1 z2 z3 => ?_, fun k z1 z2 => ?_⟩
  · rw [row_s, hy y z1]
    exact h3 y z1 z2
  · rw [row_n z1]
    exact h4 x z0 z1 z2 z3
  · rw [row_n (by unfold ad; omega)]
    exact h5 k z1 z2
/-- the spare page becomes the page -/
theorem TrM.adopt {U : Vw} {g1 g' : Nat → Nat → Int} (hI : TrM g M U g1) (hW : WFX X) (j1 : RepM g' ρ M (recX X)) (j2 : ∀ x, x ≠ M → x ≠ ad M 3 → g' x = g1 x) : RepM (setRow g' (ad M 1) (cpR (g' (ad M 2)) (g' (ad M 1)) 0 0 953)) ρ M (actX X U) := by
  obtain ⟨h1, h2, h3, h4, h5⟩ := hI
  refine j1.pg hW ?_ (fun y z1 z2 => ?_)
  · refine lrm_eq h2 h1 (fun j hj => ?_)
    rw [cpR_in (by omega) (by omega), show 0 + (j - 0) = j by omega, j2 (ad M 2) (by unfold ad; omega) (by unfold ad; omega)]
  · rw [cpR_in (by omega) (by omega), show 0 + (y - 0) = y by omega, j2 (ad M 2) (by unfold ad; omega) (by unfold ad; omega), j2 (ad M 1) (by unfold ad; omega) (by unfold ad; omega), h3 y z1 z2, h4 (ad M 1) (by unfold ad; omega) (by unfold ad; omega) (by unfold ad; omega) (by unfold ad; omega)]
theorem breathe_finM (hX : RepM g ρ M X) (hW : WFX X) {U : Vw} {g1 : Nat → Nat → Int} (hI : TrM g M U g1) {n : Nat} {m : Int} {o3 o4 : Option AV} (hQ : MdQ g ρ M ((n : Int), actX X U) Q) : Wp zt 126 (P 126 123) [some (AR M), some (AI m), some (AI n), o3, o4] [] (g1, ρ) Q := by
  have hX1 := hI.rep hX
  have hM := hX.1
  rw [P_M_breathe_123]
  simp only [m_M_breathe, b_M_breathe_0, P_M_breathe_12, b_M_breathe_12, P_M_breathe_79, b_M_breathe_79, P_M_breathe_82, b_M_breathe_82, P_M_breathe_96, b_M_breathe_96, wp_abs, wp_aln0, wp_bipush, wp_copy, wp_cs1, wp_cs2, wp_cs3, wp_cs4, wp_cs5, wp_cs6, wp_cs7, wp_cv1, wp_cv2, wp_cv3, wp_cv4, wp_cv5, wp_cv6, wp_cv7, wp_goto, wp_iadd, wp_iald, wp_icge, wp_icne, wp_iconst, wp_il4, wp_iln1, wp_iln2, wp_iln3, wp_imul, wp_inc2, wp_iret, wp_is4, wp_isn2, wp_isn3, wp_isub, wp_izeq, wp_izne, wp_max, wp_min, wp_nop, wp_sipush, wp_zret, qmd_kd, qmd_k1, qmd_l1, qmd_gf0, qmd_k2, qmd_l2, qmd_gf1, qmd_k3, qmd_l3, qmd_gf2, qmd_k4, qmd_l4, qmd_gf4, qmd_k5, qmd_l5, qmd_gf6, qmd_k6, qmd_l6, qmd_gf7, qmd_k7, qmd_l7, qmd_gf10, qmd_k8, qmd_l8, qmd_gf11, qmd_k9, qmd_l9, qmd_gf12, qmd_gf3, qmd_pf3, qmd_gf5, qmd_pf5, qmd_gf8, qmd_pf8, qmd_gf9, qmd_pf9, wrI_row, cpI_row, row_s, row_n, row_ss, row_sw, upd_s, upd_n, ad_inj, ad_z, ad_z2, Nat.reduceEqDiff, reduceCtorEq, List.cons_append, List.nil_append, Option.toList_some, Option.toList_none, Int.toNat_natCast, List.length_cons, List.length_nil, Int.cast_ofNat_Int, Nat.reduceAdd, Nat.reduceLeDiff, Nat.reduceLT, Nat.reduceMul, Int.reduceAdd, Int.reduceSub, Int.reduceMul, Int.reduceNeg, Int.reduceLT, Int.reduceLE, Int.reduceEq, Int.reduceToNat, eq_self, true_and, and_true, true_or, or_true, false_or, or_false, if_true, if_false, not_true_eq_false, not_false_eq_true, and_self, ne_eq, b_M_breathe_123, hM]
  refine keep_ok hX1 hW (fun g' j1 j2 j3 => ?_)
  have f1 := fun Q => bring_ok (zt := zt) (g := g') (ρ := ρ) (b := ad M 2) (c := ad M 1) (sp := 0) (dp := 0) (n := 953) (sp' := 0) (dp' := 0) (n' := 953) (qmd_k2 hM) (qmd_k1 hM) (qmd_l2 hM) (qmd_l1 hM) (by omega) (by omega) (by omega) (by omega) (Or.inl (by unfold ad; omega)) rfl rfl rfl Q
  have q := hQ _ (hI.adopt hW j1 j2) (fun x z => (pg_fr j2 x z).trans (hI.fr x z))
  simp only [m_M_breathe, b_M_breathe_0, P_M_breathe_12, b_M_breathe_12, P_M_breathe_79, b_M_breathe_79, P_M_breathe_82, b_M_breathe_82, P_M_breathe_96, b_M_breathe_96, wp_abs, wp_aln0, wp_bipush, wp_copy, wp_cs1, wp_cs2, wp_cs3, wp_cs4, wp_cs5, wp_cs6, wp_cs7, wp_cv1, wp_cv2, wp_cv3, wp_cv4, wp_cv5, wp_cv6, wp_cv7, wp_goto, wp_iadd, wp_iald, wp_icge, wp_icne, wp_iconst, wp_il4, wp_iln1, wp_iln2, wp_iln3, wp_imul, wp_inc2, wp_iret, wp_is4, wp_isn2, wp_isn3, wp_isub, wp_izeq, wp_izne, wp_max, wp_min, wp_nop, wp_sipush, wp_zret, qmd_kd, qmd_k1, qmd_l1, qmd_gf0, qmd_k2, qmd_l2, qmd_gf1, qmd_k3, qmd_l3, qmd_gf2, qmd_k4, qmd_l4, qmd_gf4, qmd_k5, qmd_l5, qmd_gf6, qmd_k6, qmd_l6, qmd_gf7, qmd_k7, qmd_l7, qmd_gf10, qmd_k8, qmd_l8, qmd_gf11, qmd_k9, qmd_l9, qmd_gf12, qmd_gf3, qmd_pf3, qmd_gf5, qmd_pf5, qmd_gf8, qmd_pf8, qmd_gf9, qmd_pf9, wrI_row, cpI_row, row_s, row_n, row_ss, row_sw, upd_s, upd_n, ad_inj, ad_z, ad_z2, Nat.reduceEqDiff, reduceCtorEq, List.cons_append, List.nil_append, Option.toList_some, Option.toList_none, Int.toNat_natCast, List.length_cons, List.length_nil, Int.cast_ofNat_Int, Nat.reduceAdd, Nat.reduceLeDiff, Nat.reduceLT, Nat.reduceMul, Int.reduceAdd, Int.reduceSub, Int.reduceMul, Int.reduceNeg, Int.reduceLT, Int.reduceLE, Int.reduceEq, Int.reduceToNat, eq_self, true_and, and_true, true_or, or_true, false_or, or_false, if_true, if_false, not_true_eq_false, not_false_eq_true, and_self, ne_eq, hM, f1]
  (repeat' (first | apply And.intro | split)) <;> first | omega | exact q
theorem breathe_loopM (hX : RepM g ρ M X) (hW : WFX X) {m : Nat} (hm : 1 ≤ m ∧ m ≤ 20) (hQ : MdQ g ρ M (brR (brF m 31 0 X.1.1) X) Q) :
    ∀ (d n : Nat) (U : Vw) (g1 : Nat → Nat → Int) (o4 : Option AV), n + d = 31 → (n : Int) ≤ U 5 0 → TrM g M U g1 → brF m d n U = brF m 31 0 X.1.1 → Wp zt 126 (P 126 39) [some (AR M), some (AI m), some (AI n), some (AI (fgV U (U 8 0).toNat)), o4] [] (g1, ρ) Q := by
  intro d
  induction d with
  | zero =>
    intro n U g1 o4 hn hnG hI hv
    have b5 := hI.1.2.2.2.2.1
    omega
  | succ d ih =>
    intro n U g1 o4 hn hnG hI hv
    have hM := hX.1
    obtain ⟨i1, i2, i3, i4, i5⟩ := id hI
    have b5 := i1.2.2.2.2.1
    have b8 := i1.2.2.2.2.2.2.1
    have fi := fg_inv i1 (U 8 0).toNat (by omega)
    rw [brF_st] at hv
    rcases fi with ⟨a1, a2, a3⟩ | ⟨a1, a2, a3, a4, a5⟩
    · rw [if_pos a3] at hv
      rw [← hv] at hQ
      rw [brR_p] at hQ
      have k1 := breathe_finM (zt := zt) (m := m) (o3 := some (AI 99)) (o4 := o4) hX hW hI hQ
      rw [a1]
      rw [P_M_breathe_39]
      simp only [m_M_breathe, b_M_breathe_0, P_M_breathe_12, b_M_breathe_12, P_M_breathe_79, b_M_breathe_79, P_M_breathe_82, b_M_breathe_82, P_M_breathe_96, b_M_breathe_96, wp_abs, wp_aln0, wp_bipush, wp_copy, wp_cs1, wp_cs2, wp_cs3, wp_cs4, wp_cs5, wp_cs6, wp_cs7, wp_cv1, wp_cv2, wp_cv3, wp_cv4, wp_cv5, wp_cv6, wp_cv7, wp_goto, wp_iadd, wp_iald, wp_icge, wp_icne, wp_iconst, wp_il4, wp_iln1, wp_iln2, wp_iln3, wp_imul, wp_inc2, wp_iret, wp_is4, wp_isn2, wp_isn3, wp_isub, wp_izeq, wp_izne, wp_max, wp_min, wp_nop, wp_sipush, wp_zret, qmd_kd, qmd_k1, qmd_l1, qmd_gf0, qmd_k2, qmd_l2, qmd_gf1, qmd_k3, qmd_l3, qmd_gf2, qmd_k4, qmd_l4, qmd_gf4, qmd_k5, qmd_l5, qmd_gf6, qmd_k6, qmd_l6, qmd_gf7, qmd_k7, qmd_l7, qmd_gf10, qmd_k8, qmd_l8, qmd_gf11, qmd_k9, qmd_l9, qmd_gf12, qmd_gf3, qmd_pf3, qmd_gf5, qmd_pf5, qmd_gf8, qmd_pf8, qmd_gf9, qmd_pf9, wrI_row, cpI_row, row_s, row_n, row_ss, row_sw, upd_s, upd_n, ad_inj, ad_z, ad_z2, Nat.reduceEqDiff, reduceCtorEq, List.cons_append, List.nil_append, Option.toList_some, Option.toList_none, Int.toNat_natCast, List.length_cons, List.length_nil, Int.cast_ofNat_Int, Nat.reduceAdd, Nat.reduceLeDiff, Nat.reduceLT, Nat.reduceMul, Int.reduceAdd, Int.reduceSub, Int.reduceMul, Int.reduceNeg, Int.reduceLT, Int.reduceLE, Int.reduceEq, Int.reduceToNat, eq_self, true_and, and_true, true_or, or_true, false_or, or_false, if_true, if_false, not_true_eq_false, not_false_eq_true, and_self, ne_eq, b_M_breathe_39]
      exact k1
    · have sv := segV_lt i1 (f := (fgV U (U 8 0).toNat).toNat) (by omega)
      rw [show (((fgV U (U 8 0).toNat).toNat : Nat) : Int) = fgV U (U 8 0).toNat by omega] at sv
      have si := segmentIn_ok (zt := zt) (g := g1) (ρ := ρ) (qmd_k2 hM) (qmd_l2 hM) i2 i1 (f := fgV U (U 8 0).toNat) (by omega)
      rw [← a5] at si sv
      clear a5 a4 a3
      obtain ⟨gs, hgs⟩ : ∃ gs, gs = gsgV U (U 8 0).toNat := ⟨_, rfl⟩
      rw [← hgs] at si sv hv
      have c1 : ¬ gs = -1 := by omega
      rw [if_neg c1] at hv
      have hfl : ¬ (99 : Int) ≤ fgV U (U 8 0).toNat := by omega
      have hneg : (gs = 0 ∨ U 6 (gs.toNat - 1) = 9) → Wp zt 126 (P 126 79) [some (AR M), some (AI m), some (AI n), some (AI (fgV U (U 8 0).toNat)), some (AI gs)] [] (g1, ρ) Q := by
        intro c2
        rw [if_pos c2] at hv
        rw [← hv] at hQ
        rw [brR_n (by omega)] at hQ
        have q := hQ g1 (hI.rep hX) (fun x z => hI.fr x z)
        rw [P_M_breathe_79]
        simp only [m_M_breathe, b_M_breathe_0, P_M_breathe_12, b_M_breathe_12, P_M_breathe_82, b_M_breathe_82, P_M_breathe_96, b_M_breathe_96, wp_abs, wp_aln0, wp_bipush, wp_copy, wp_cs1, wp_cs2, wp_cs3, wp_cs4, wp_cs5, wp_cs6, wp_cs7, wp_cv1, wp_cv2, wp_cv3, wp_cv4, wp_cv5, wp_cv6, wp_cv7, wp_goto, wp_iadd, wp_iald, wp_icge, wp_icne, wp_iconst, wp_il4, wp_iln1, wp_iln2, wp_iln3, wp_imul, wp_inc2, wp_iret, wp_is4, wp_isn2, wp_isn3, wp_isub, wp_izeq, wp_izne, wp_max, wp_min, wp_nop, wp_sipush, wp_zret, qmd_kd, qmd_k1, qmd_l1, qmd_gf0, qmd_k2, qmd_l2, qmd_gf1, qmd_k3, qmd_l3, qmd_gf2, qmd_k4, qmd_l4, qmd_gf4, qmd_k5, qmd_l5, qmd_gf6, qmd_k6, qmd_l6, qmd_gf7, qmd_k7, qmd_l7, qmd_gf10, qmd_k8, qmd_l8, qmd_gf11, qmd_k9, qmd_l9, qmd_gf12, qmd_gf3, qmd_pf3, qmd_gf5, qmd_pf5, qmd_gf8, qmd_pf8, qmd_gf9, qmd_pf9, wrI_row, cpI_row, row_s, row_n, row_ss, row_sw, upd_s, upd_n, ad_inj, ad_z, ad_z2, Nat.reduceEqDiff, reduceCtorEq, List.cons_append, List.nil_append, Option.toList_some, Option.toList_none, Int.toNat_natCast, List.length_cons, List.length_nil, Int.cast_ofNat_Int, Nat.reduceAdd, Nat.reduceLeDiff, Nat.reduceLT, Nat.reduceMul, Int.reduceAdd, Int.reduceSub, Int.reduceMul, Int.reduceNeg, Int.reduceLT, Int.reduceLE, Int.reduceEq, Int.reduceToNat, eq_self, true_and, and_true, true_or, or_true, false_or, or_false, if_true, if_false, not_true_eq_false, not_false_eq_true, and_self, ne_eq, b_M_breathe_79]
        exact q
      by_cases c2 : gs = 0
      · have k1 := hneg (Or.inl c2)
        rw [c2] at si k1
        rw [P_M_breathe_39]
        simp only [m_M_breathe, b_M_breathe_0, P_M_breathe_12, b_M_breathe_12, P_M_breathe_82, b_M_breathe_82, P_M_breathe_96, b_M_breathe_96, wp_abs, wp_aln0, wp_bipush, wp_copy, wp_cs1, wp_cs2, wp_cs3, wp_cs4, wp_cs5, wp_cs6, wp_cs7, wp_cv1, wp_cv2, wp_cv3, wp_cv4, wp_cv5, wp_cv6, wp_cv7, wp_goto, wp_iadd, wp_iald, wp_icge, wp_icne, wp_iconst, wp_il4, wp_iln1, wp_iln2, wp_iln3, wp_imul, wp_inc2, wp_iret, wp_is4, wp_isn2, wp_isn3, wp_isub, wp_izeq, wp_izne, wp_max, wp_min, wp_nop, wp_sipush, wp_zret, qmd_kd, qmd_k1, qmd_l1, qmd_gf0, qmd_k2, qmd_l2, qmd_gf1, qmd_k3, qmd_l3, qmd_gf2, qmd_k4, qmd_l4, qmd_gf4, qmd_k5, qmd_l5, qmd_gf6, qmd_k6, qmd_l6, qmd_gf7, qmd_k7, qmd_l7, qmd_gf10, qmd_k8, qmd_l8, qmd_gf11, qmd_k9, qmd_l9, qmd_gf12, qmd_gf3, qmd_pf3, qmd_gf5, qmd_pf5, qmd_gf8, qmd_pf8, qmd_gf9, qmd_pf9, wrI_row, cpI_row, row_s, row_n, row_ss, row_sw, upd_s, upd_n, ad_inj, ad_z, ad_z2, Nat.reduceEqDiff, reduceCtorEq, List.cons_append, List.nil_append, Option.toList_some, Option.toList_none, Int.toNat_natCast, List.length_cons, List.length_nil, Int.cast_ofNat_Int, Nat.reduceAdd, Nat.reduceLeDiff, Nat.reduceLT, Nat.reduceMul, Int.reduceAdd, Int.reduceSub, Int.reduceMul, Int.reduceNeg, Int.reduceLT, Int.reduceLE, Int.reduceEq, Int.reduceToNat, eq_self, true_and, and_true, true_or, or_true, false_or, or_false, if_true, if_false, not_true_eq_false, not_false_eq_true, and_self, ne_eq, b_M_breathe_39, hM, hfl, si]
        (repeat' (first | apply And.intro | split)) <;> first | omega | exact k1
      · obtain ⟨s, hs⟩ : ∃ s : Nat, gs = (s : Int) + 1 := ⟨(gs - 1).toNat, by omega⟩
        have egs : gs.toNat = s + 1 := by omega
        rw [egs] at hv hneg
        rw [show s + 1 - 1 = s by omega] at hv hneg
        have ei : (59 + 2 * gs - 2).toNat = 59 + 2 * s := by omega
        have r6 := (p_6 i2 i1 (j := s) (by omega)).1
        have bk := (i1.2.2.2.2.2.1 s (by omega)).1
        by_cases c3 : U 6 s = 9
        · have k1 := hneg (Or.inr c3)
          rw [c3] at r6
          rw [P_M_breathe_39]
          simp only [m_M_breathe, b_M_breathe_0, P_M_breathe_12, b_M_breathe_12, P_M_breathe_82, b_M_breathe_82, P_M_breathe_96, b_M_breathe_96, wp_abs, wp_aln0, wp_bipush, wp_copy, wp_cs1, wp_cs2, wp_cs3, wp_cs4, wp_cs5, wp_cs6, wp_cs7, wp_cv1, wp_cv2, wp_cv3, wp_cv4, wp_cv5, wp_cv6, wp_cv7, wp_goto, wp_iadd, wp_iald, wp_icge, wp_icne, wp_iconst, wp_il4, wp_iln1, wp_iln2, wp_iln3, wp_imul, wp_inc2, wp_iret, wp_is4, wp_isn2, wp_isn3, wp_isub, wp_izeq, wp_izne, wp_max, wp_min, wp_nop, wp_sipush, wp_zret, qmd_kd, qmd_k1, qmd_l1, qmd_gf0, qmd_k2, qmd_l2, qmd_gf1, qmd_k3, qmd_l3, qmd_gf2, qmd_k4, qmd_l4, qmd_gf4, qmd_k5, qmd_l5, qmd_gf6, qmd_k6, qmd_l6, qmd_gf7, qmd_k7, qmd_l7, qmd_gf10, qmd_k8, qmd_l8, qmd_gf11, qmd_k9, qmd_l9, qmd_gf12, qmd_gf3, qmd_pf3, qmd_gf5, qmd_pf5, qmd_gf8, qmd_pf8, qmd_gf9, qmd_pf9, wrI_row, cpI_row, row_s, row_n, row_ss, row_sw, upd_s, upd_n, ad_inj, ad_z, ad_z2, Nat.reduceEqDiff, reduceCtorEq, List.cons_append, List.nil_append, Option.toList_some, Option.toList_none, Int.toNat_natCast, List.length_cons, List.length_nil, Int.cast_ofNat_Int, Nat.reduceAdd, Nat.reduceLeDiff, Nat.reduceLT, Nat.reduceMul, Int.reduceAdd, Int.reduceSub, Int.reduceMul, Int.reduceNeg, Int.reduceLT, Int.reduceLE, Int.reduceEq, Int.reduceToNat, eq_self, true_and, and_true, true_or, or_true, false_or, or_false, if_true, if_false, not_true_eq_false, not_false_eq_true, and_self, ne_eq, b_M_breathe_39, hM, hfl, si, c2, ei, r6]
          (repeat' (first | apply And.intro | split)) <;> first | omega | exact k1
        · rw [if_neg (fun z => z.elim c2 c3)] at hv
          have hro := hasRoom_ok (zt := zt) (g := g1) (ρ := ρ) (qmd_k2 hM) (qmd_l2 hM) i2 i1 (m := m) (by omega)
          by_cases c4 : U 5 0 < 30 ∧ U 8 0 + m ≤ 99
          · rw [if_pos c4] at hv
            rw [b2_t c4] at hro
            rw [P_M_breathe_39]
            simp only [m_M_breathe, b_M_breathe_0, P_M_breathe_12, b_M_breathe_12, P_M_breathe_82, b_M_breathe_82, P_M_breathe_96, b_M_breathe_96, wp_abs, wp_aln0, wp_bipush, wp_copy, wp_cs1, wp_cs2, wp_cs3, wp_cs4, wp_cs5, wp_cs6, wp_cs7, wp_cv1, wp_cv2, wp_cv3, wp_cv4, wp_cv5, wp_cv6, wp_cv7, wp_goto, wp_iadd, wp_iald, wp_icge, wp_icne, wp_iconst, wp_il4, wp_iln1, wp_iln2, wp_iln3, wp_imul, wp_inc2, wp_iret, wp_is4, wp_isn2, wp_isn3, wp_isub, wp_izeq, wp_izne, wp_max, wp_min, wp_nop, wp_sipush, wp_zret, qmd_kd, qmd_k1, qmd_l1, qmd_gf0, qmd_k2, qmd_l2, qmd_gf1, qmd_k3, qmd_l3, qmd_gf2, qmd_k4, qmd_l4, qmd_gf4, qmd_k5, qmd_l5, qmd_gf6, qmd_k6, qmd_l6, qmd_gf7, qmd_k7, qmd_l7, qmd_gf10, qmd_k8, qmd_l8, qmd_gf11, qmd_k9, qmd_l9, qmd_gf12, qmd_gf3, qmd_pf3, qmd_gf5, qmd_pf5, qmd_gf8, qmd_pf8, qmd_gf9, qmd_pf9, wrI_row, cpI_row, row_s, row_n, row_ss, row_sw, upd_s, upd_n, ad_inj, ad_z, ad_z2, Nat.reduceEqDiff, reduceCtorEq, List.cons_append, List.nil_append, Option.toList_some, Option.toList_none, Int.toNat_natCast, List.length_cons, List.length_nil, Int.cast_ofNat_Int, Nat.reduceAdd, Nat.reduceLeDiff, Nat.reduceLT, Nat.reduceMul, Int.reduceAdd, Int.reduceSub, Int.reduceMul, Int.reduceNeg, Int.reduceLT, Int.reduceLE, Int.reduceEq, Int.reduceToNat, eq_self, true_and, and_true, true_or, or_true, false_or, or_false, if_true, if_false, not_true_eq_false, not_false_eq_true, and_self, ne_eq, b_M_breathe_39, hM, hfl, si, c2, c3, ei, r6, hro]
            (repeat' (first | apply And.intro | split)) <;> first | omega | skip
            refine inserts_ok (qmd_k2 hM) (qmd_l2 hM) i2 i1 (s := s + 1) (m := m) (kd := 9) (by omega) (by omega) hm c4.1 (by omega) (by omega) rfl (fun R' y1 y2 => ?_)
            have hW1 := insV_wf i1 (s := s + 1) (m := m) (kd := 9) (by omega) c4.1 (by omega) hm (by omega)
            have hI2 := hI.pg hW1 y1 y2
            simp only [m_M_breathe, b_M_breathe_0, P_M_breathe_12, b_M_breathe_12, P_M_breathe_82, b_M_breathe_82, P_M_breathe_96, b_M_breathe_96, wp_abs, wp_aln0, wp_bipush, wp_copy, wp_cs1, wp_cs2, wp_cs3, wp_cs4, wp_cs5, wp_cs6, wp_cs7, wp_cv1, wp_cv2, wp_cv3, wp_cv4, wp_cv5, wp_cv6, wp_cv7, wp_goto, wp_iadd, wp_iald, wp_icge, wp_icne, wp_iconst, wp_il4, wp_iln1, wp_iln2, wp_iln3, wp_imul, wp_inc2, wp_iret, wp_is4, wp_isn2, wp_isn3, wp_isub, wp_izeq, wp_izne, wp_max, wp_min, wp_nop, wp_sipush, wp_zret, qmd_kd, qmd_k1, qmd_l1, qmd_gf0, qmd_k2, qmd_l2, qmd_gf1, qmd_k3, qmd_l3, qmd_gf2, qmd_k4, qmd_l4, qmd_gf4, qmd_k5, qmd_l5, qmd_gf6, qmd_k6, qmd_l6, qmd_gf7, qmd_k7, qmd_l7, qmd_gf10, qmd_k8, qmd_l8, qmd_gf11, qmd_k9, qmd_l9, qmd_gf12, qmd_gf3, qmd_pf3, qmd_gf5, qmd_pf5, qmd_gf8, qmd_pf8, qmd_gf9, qmd_pf9, wrI_row, cpI_row, row_s, row_n, row_ss, row_sw, upd_s, upd_n, ad_inj, ad_z, ad_z2, Nat.reduceEqDiff, reduceCtorEq, List.cons_append, List.nil_append, Option.toList_some, Option.toList_none, Int.toNat_natCast, List.length_cons, List.length_nil, Int.cast_ofNat_Int, Nat.reduceAdd, Nat.reduceLeDiff, Nat.reduceLT, Nat.reduceMul, Int.reduceAdd, Int.reduceSub, Int.reduceMul, Int.reduceNeg, Int.reduceLT, Int.reduceLE, Int.reduceEq, Int.reduceToNat, eq_self, true_and, and_true, true_or, or_true, false_or, or_false, if_true, if_false, not_true_eq_false, not_false_eq_true, and_self, ne_eq, hM]
            (repeat' (first | apply And.intro | split)) <;> first | omega | skip
            refine breathes_ok hM (qmd_k2 hM) (qmd_l2 hM) (by unfold ad; omega) (by unfold ad; omega) (U := insV U (s + 1) 9 m) (by rw [row_s]; exact y1) hW1 (fun g3 hB => ?_)
            have hI3 : TrM g M (insV U (s + 1) 9 m) g3 := ⟨hW1, by
              rw [hB.2.2 _ (by unfold ad; omega) (by unfold ad; omega)]
              exact hI2.2.1, fun y z1 z2 => by
              rw [hB.2.2 _ (by unfold ad; omega) (by unfold ad; omega)]
              exact hI2.2.2.1 y z1 z2, fun x z0 z1 z2 z3 => by
              rw [hB.2.2 x z2 z3]
              exact hI2.2.2.2.1 x z0 z1 z2 z3, fun k z1 z2 => by
              rw [hB.2.2 M (by unfold ad; omega) (by unfold ad; omega)]
              exact hI2.2.2.2.2 k z1 z2⟩
            have e55 : insV U (s + 1) 9 m 5 0 = U 5 0 + 1 := rfl
            have i9 := ih (n + 1) (insV U (s + 1) 9 m) g3 (some (AI gs)) (by omega) (by rw [e55]; omega) hI3 hv
            simp only [m_M_breathe, b_M_breathe_0, P_M_breathe_12, b_M_breathe_12, P_M_breathe_82, b_M_breathe_82, P_M_breathe_96, b_M_breathe_96, wp_abs, wp_aln0, wp_bipush, wp_copy, wp_cs1, wp_cs2, wp_cs3, wp_cs4, wp_cs5, wp_cs6, wp_cs7, wp_cv1, wp_cv2, wp_cv3, wp_cv4, wp_cv5, wp_cv6, wp_cv7, wp_goto, wp_iadd, wp_iald, wp_icge, wp_icne, wp_iconst, wp_il4, wp_iln1, wp_iln2, wp_iln3, wp_imul, wp_inc2, wp_iret, wp_is4, wp_isn2, wp_isn3, wp_isub, wp_izeq, wp_izne, wp_max, wp_min, wp_nop, wp_sipush, wp_zret, qmd_kd, qmd_k1, qmd_l1, qmd_gf0, qmd_k2, qmd_l2, qmd_gf1, qmd_k3, qmd_l3, qmd_gf2, qmd_k4, qmd_l4, qmd_gf4, qmd_k5, qmd_l5, qmd_gf6, qmd_k6, qmd_l6, qmd_gf7, qmd_k7, qmd_l7, qmd_gf10, qmd_k8, qmd_l8, qmd_gf11, qmd_k9, qmd_l9, qmd_gf12, qmd_gf3, qmd_pf3, qmd_gf5, qmd_pf5, qmd_gf8, qmd_pf8, qmd_gf9, qmd_pf9, wrI_row, cpI_row, row_s, row_n, row_ss, row_sw, upd_s, upd_n, ad_inj, ad_z, ad_z2, Nat.reduceEqDiff, reduceCtorEq, List.cons_append, List.nil_append, Option.toList_some, Option.toList_none, Int.toNat_natCast, List.length_cons, List.length_nil, Int.cast_ofNat_Int, Nat.reduceAdd, Nat.reduceLeDiff, Nat.reduceLT, Nat.reduceMul, Int.reduceAdd, Int.reduceSub, Int.reduceMul, Int.reduceNeg, Int.reduceLT, Int.reduceLE, Int.reduceEq, Int.reduceToNat, eq_self, true_and, and_true, true_or, or_true, false_or, or_false, if_true, if_false, not_true_eq_false, not_false_eq_true, and_self, ne_eq, hM]
            (repeat' (first | apply And.intro | split)) <;> first | omega | exact i9
          · rw [if_neg c4] at hv
            rw [b2_f c4] at hro
            rw [← hv] at hQ
            rw [brR_n (by omega)] at hQ
            have q := hQ g1 (hI.rep hX) (fun x z => hI.fr x z)
            rw [P_M_breathe_39]
            simp only [m_M_breathe, b_M_breathe_0, P_M_breathe_12, b_M_breathe_12, P_M_breathe_82, b_M_breathe_82, P_M_breathe_96, b_M_breathe_96, wp_abs, wp_aln0, wp_bipush, wp_copy, wp_cs1, wp_cs2, wp_cs3, wp_cs4, wp_cs5, wp_cs6, wp_cs7, wp_cv1, wp_cv2, wp_cv3, wp_cv4, wp_cv5, wp_cv6, wp_cv7, wp_goto, wp_iadd, wp_iald, wp_icge, wp_icne, wp_iconst, wp_il4, wp_iln1, wp_iln2, wp_iln3, wp_imul, wp_inc2, wp_iret, wp_is4, wp_isn2, wp_isn3, wp_isub, wp_izeq, wp_izne, wp_max, wp_min, wp_nop, wp_sipush, wp_zret, qmd_kd, qmd_k1, qmd_l1, qmd_gf0, qmd_k2, qmd_l2, qmd_gf1, qmd_k3, qmd_l3, qmd_gf2, qmd_k4, qmd_l4, qmd_gf4, qmd_k5, qmd_l5, qmd_gf6, qmd_k6, qmd_l6, qmd_gf7, qmd_k7, qmd_l7, qmd_gf10, qmd_k8, qmd_l8, qmd_gf11, qmd_k9, qmd_l9, qmd_gf12, qmd_gf3, qmd_pf3, qmd_gf5, qmd_pf5, qmd_gf8, qmd_pf8, qmd_gf9, qmd_pf9, wrI_row, cpI_row, row_s, row_n, row_ss, row_sw, upd_s, upd_n, ad_inj, ad_z, ad_z2, Nat.reduceEqDiff, reduceCtorEq, List.cons_append, List.nil_append, Option.toList_some, Option.toList_none, Int.toNat_natCast, List.length_cons, List.length_nil, Int.cast_ofNat_Int, Nat.reduceAdd, Nat.reduceLeDiff, Nat.reduceLT, Nat.reduceMul, Int.reduceAdd, Int.reduceSub, Int.reduceMul, Int.reduceNeg, Int.reduceLT, Int.reduceLE, Int.reduceEq, Int.reduceToNat, eq_self, true_and, and_true, true_or, or_true, false_or, or_false, if_true, if_false, not_true_eq_false, not_false_eq_true, and_self, ne_eq, b_M_breathe_39, hM, hfl, si, c2, c3, ei, r6, hro]
            (repeat' (first | apply And.intro | split)) <;> first | omega | exact q
theorem d_breathe (hX : RepM g ρ M X) (hW : WFX X) {m : Int} (hm : i32 m) (hQ : MdQ g ρ M (sBreathe m X) Q) : WpM zt 126 [AR M, AI m] (g, ρ) Q := by
  obtain ⟨hM, hS, -⟩ := id hX
  have hR := hS.1
  have hU := hW.1.1
  have e0 := m_0 hR
  have e5 := m_5 hR
  have b0 := hU.1
  have b5 := hU.2.2.2.2.1
  have b8 := hU.2.2.2.2.2.2.1
  unfold sBreathe at hQ
  by_cases c : 1 ≤ m ∧ m ≤ 20
  · rw [if_pos c] at hQ
    have ho1 := fun Q => in_t (zt := zt) (g := g) (ρ := ρ) (lo := 1) (hi := 20) (by omega) (by omega) c Q
    obtain ⟨N, rfl⟩ := Int.eq_ofNat_of_zero_le (show 0 ≤ m by omega)
    rw [Int.toNat_natCast] at hQ
    have f1 := fun Q => bring_ok (zt := zt) (g := g) (ρ := ρ) (b := ad M 1) (c := ad M 2) (sp := 0) (dp := 0) (n := 953) (sp' := 0) (dp' := 0) (n' := 953) (qmd_k1 hM) (qmd_k2 hM) (qmd_l1 hM) (qmd_l2 hM) (by omega) (by omega) (by omega) (by omega) (Or.inl (by unfold ad; omega)) rfl rfl rfl Q
    have hI := TrM.st hX hW rfl
    simp only [m_M_breathe, b_M_breathe_0, P_M_breathe_12, b_M_breathe_12, P_M_breathe_79, b_M_breathe_79, P_M_breathe_82, b_M_breathe_82, P_M_breathe_96, b_M_breathe_96, wp_abs, wp_aln0, wp_bipush, wp_copy, wp_cs1, wp_cs2, wp_cs3, wp_cs4, wp_cs5, wp_cs6, wp_cs7, wp_cv1, wp_cv2, wp_cv3, wp_cv4, wp_cv5, wp_cv6, wp_cv7, wp_goto, wp_iadd, wp_iald, wp_icge, wp_icne, wp_iconst, wp_il4, wp_iln1, wp_iln2, wp_iln3, wp_imul, wp_inc2, wp_iret, wp_is4, wp_isn2, wp_isn3, wp_isub, wp_izeq, wp_izne, wp_max, wp_min, wp_nop, wp_sipush, wp_zret, qmd_kd, qmd_k1, qmd_l1, qmd_gf0, qmd_k2, qmd_l2, qmd_gf1, qmd_k3, qmd_l3, qmd_gf2, qmd_k4, qmd_l4, qmd_gf4, qmd_k5, qmd_l5, qmd_gf6, qmd_k6, qmd_l6, qmd_gf7, qmd_k7, qmd_l7, qmd_gf10, qmd_k8, qmd_l8, qmd_gf11, qmd_k9, qmd_l9, qmd_gf12, qmd_gf3, qmd_pf3, qmd_gf5, qmd_pf5, qmd_gf8, qmd_pf8, qmd_gf9, qmd_pf9, wrI_row, cpI_row, row_s, row_n, row_ss, row_sw, upd_s, upd_n, ad_inj, ad_z, ad_z2, Nat.reduceEqDiff, reduceCtorEq, List.cons_append, List.nil_append, Option.toList_some, Option.toList_none, Int.toNat_natCast, List.length_cons, List.length_nil, Int.cast_ofNat_Int, Nat.reduceAdd, Nat.reduceLeDiff, Nat.reduceLT, Nat.reduceMul, Int.reduceAdd, Int.reduceSub, Int.reduceMul, Int.reduceNeg, Int.reduceLT, Int.reduceLE, Int.reduceEq, Int.reduceToNat, eq_self, true_and, and_true, true_or, or_true, false_or, or_false, if_true, if_false, not_true_eq_false, not_false_eq_true, and_self, ne_eq, hM, ho1, f1]
    refine breathes_ok hM (qmd_k2 hM) (qmd_l2 hM) (by unfold ad; omega) (by unfold ad; omega) (U := X.1.1) hI.2.1 hU (fun g3 hB => ?_)
    have hI3 : TrM g M X.1.1 g3 := ⟨hU, by
      rw [hB.2.2 _ (by unfold ad; omega) (by unfold ad; omega)]
      exact hI.2.1, fun y z1 z2 => by
      rw [hB.2.2 _ (by unfold ad; omega) (by unfold ad; omega)]
      exact hI.2.2.1 y z1 z2, fun x z0 z1 z2 z3 => by
      rw [hB.2.2 x z2 z3]
      exact hI.2.2.2.1 x z0 z1 z2 z3, fun k z1 z2 => by
      rw [hB.2.2 M (by unfold ad; omega) (by unfold ad; omega)]
      exact hI.2.2.2.2 k z1 z2⟩
    have k1 := breathe_loopM (zt := zt) hX hW (m := N) (by omega) hQ 31 0 X.1.1 g3 none (by omega) b5.1 hI3 rfl
    simp only [m_M_breathe, b_M_breathe_0, P_M_breathe_12, b_M_breathe_12, P_M_breathe_79, b_M_breathe_79, P_M_breathe_82, b_M_breathe_82, P_M_breathe_96, b_M_breathe_96, wp_abs, wp_aln0, wp_bipush, wp_copy, wp_cs1, wp_cs2, wp_cs3, wp_cs4, wp_cs5, wp_cs6, wp_cs7, wp_cv1, wp_cv2, wp_cv3, wp_cv4, wp_cv5, wp_cv6, wp_cv7, wp_goto, wp_iadd, wp_iald, wp_icge, wp_icne, wp_iconst, wp_il4, wp_iln1, wp_iln2, wp_iln3, wp_imul, wp_inc2, wp_iret, wp_is4, wp_isn2, wp_isn3, wp_isub, wp_izeq, wp_izne, wp_max, wp_min, wp_nop, wp_sipush, wp_zret, qmd_kd, qmd_k1, qmd_l1, qmd_gf0, qmd_k2, qmd_l2, qmd_gf1, qmd_k3, qmd_l3, qmd_gf2, qmd_k4, qmd_l4, qmd_gf4, qmd_k5, qmd_l5, qmd_gf6, qmd_k6, qmd_l6, qmd_gf7, qmd_k7, qmd_l7, qmd_gf10, qmd_k8, qmd_l8, qmd_gf11, qmd_k9, qmd_l9, qmd_gf12, qmd_gf3, qmd_pf3, qmd_gf5, qmd_pf5, qmd_gf8, qmd_pf8, qmd_gf9, qmd_pf9, wrI_row, cpI_row, row_s, row_n, row_ss, row_sw, upd_s, upd_n, ad_inj, ad_z, ad_z2, Nat.reduceEqDiff, reduceCtorEq, List.cons_append, List.nil_append, Option.toList_some, Option.toList_none, Int.toNat_natCast, List.length_cons, List.length_nil, Int.cast_ofNat_Int, Nat.reduceAdd, Nat.reduceLeDiff, Nat.reduceLT, Nat.reduceMul, Int.reduceAdd, Int.reduceSub, Int.reduceMul, Int.reduceNeg, Int.reduceLT, Int.reduceLE, Int.reduceEq, Int.reduceToNat, eq_self, true_and, and_true, true_or, or_true, false_or, or_false, if_true, if_false, not_true_eq_false, not_false_eq_true, and_self, ne_eq]
    exact k1
  · rw [if_neg c] at hQ
    have q := hQ.ro hX
    have ho1 := fun Q => in_f (zt := zt) (g := g) (ρ := ρ) (lo := 1) (hi := 20) hm (by omega) (by omega) c Q
    simp only [m_M_breathe, b_M_breathe_0, P_M_breathe_12, b_M_breathe_12, P_M_breathe_79, b_M_breathe_79, P_M_breathe_82, b_M_breathe_82, P_M_breathe_96, b_M_breathe_96, wp_abs, wp_aln0, wp_bipush, wp_copy, wp_cs1, wp_cs2, wp_cs3, wp_cs4, wp_cs5, wp_cs6, wp_cs7, wp_cv1, wp_cv2, wp_cv3, wp_cv4, wp_cv5, wp_cv6, wp_cv7, wp_goto, wp_iadd, wp_iald, wp_icge, wp_icne, wp_iconst, wp_il4, wp_iln1, wp_iln2, wp_iln3, wp_imul, wp_inc2, wp_iret, wp_is4, wp_isn2, wp_isn3, wp_isub, wp_izeq, wp_izne, wp_max, wp_min, wp_nop, wp_sipush, wp_zret, qmd_kd, qmd_k1, qmd_l1, qmd_gf0, qmd_k2, qmd_l2, qmd_gf1, qmd_k3, qmd_l3, qmd_gf2, qmd_k4, qmd_l4, qmd_gf4, qmd_k5, qmd_l5, qmd_gf6, qmd_k6, qmd_l6, qmd_gf7, qmd_k7, qmd_l7, qmd_gf10, qmd_k8, qmd_l8, qmd_gf11, qmd_k9, qmd_l9, qmd_gf12, qmd_gf3, qmd_pf3, qmd_gf5, qmd_pf5, qmd_gf8, qmd_pf8, qmd_gf9, qmd_pf9, wrI_row, cpI_row, row_s, row_n, row_ss, row_sw, upd_s, upd_n, ad_inj, ad_z, ad_z2, Nat.reduceEqDiff, reduceCtorEq, List.cons_append, List.nil_append, Option.toList_some, Option.toList_none, Int.toNat_natCast, List.length_cons, List.length_nil, Int.cast_ofNat_Int, Nat.reduceAdd, Nat.reduceLeDiff, Nat.reduceLT, Nat.reduceMul, Int.reduceAdd, Int.reduceSub, Int.reduceMul, Int.reduceNeg, Int.reduceLT, Int.reduceLE, Int.reduceEq, Int.reduceToNat, eq_self, true_and, and_true, true_or, or_true, false_or, or_false, if_true, if_false, not_true_eq_false, not_false_eq_true, and_self, ne_eq, hM, ho1]
    (repeat' (first | apply And.intro | split)) <;> first | omega | exact q
end MBR
