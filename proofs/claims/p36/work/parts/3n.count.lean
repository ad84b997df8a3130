/-! count -/
section CNT
variable {zt : Nat → Nat} {g : Nat → Nat → Int} {ρ : Ri} {L : Nat} {h : Nat → Nat} {X : XV} {Q : Option AV → Sto → Prop}
def tkU (b : Bool) : Int := if b = true then 1 else 0
noncomputable def sCount (w : Int) (X : XV) : Int := if w = 0 then X.1.1 0 0 else if w = 1 then X.1.1 5 0 else if w = 2 then X.1.1 8 0 else if w = 3 then cntS (-1) (X.1.1 9) (X.1.1 8 0).toNat else if w = 4 then cntS (-1) (X.1.1 10) (X.1.1 8 0).toNat else if w = 5 then gcnV X.1.1 (X.1.1 8 0).toNat else if w = 6 then tkU (X.1.2.1 0) + tkU (X.1.2.1 1) else if w = 7 then (X.2.1 : Int) else if w = 8 then (X.2.2.2.1 : Int) else -1
theorem c_count (hX : RepC g ρ L h X) (hW : WFX X) {w : Int} (hw : i32 w) (hQ : CQ g ρ L (sCount w X, X) Q) : WpM zt 66 [AR L, AI w] (g, ρ) Q := by
  obtain ⟨hLf, hN, -⟩ := id hX.1
  obtain ⟨hR, -⟩ := id hX.2.1
  have hU := hW.1.1
  have hWV := hR.wf (by omega) hU
  have hN1 := hN.1
  have hS := hN.2.1
  have e0 : g (ad (ad L 1) 1) 0 = X.1.1 0 0 := hR.l0
  have e5 : g (ad (ad L 1) 1) 5 = X.1.1 5 0 := hR.l5
  have e8 : g (ad (ad L 1) 1) 8 = X.1.1 8 0 := hR.l8
  have b0 := hU.1
  have b5 := hU.2.2.2.2.1
  have b8 := hU.2.2.2.2.2.2.1
  have hAr := hX.1.2.2.2.2.1
  unfold sCount at hQ
  have hpb : ∀ j : Nat, (j : Int) < g (ad (ad L 1) 1) 8 → -2147483648 ≤ g (ad (ad (ad L 1) 1) 7) j ∧ g (ad (ad (ad L 1) 1) 7) j < 2147483648 := fun j hj => by
    have := w_pn hWV hj
    omega
  have hdb : ∀ j : Nat, (j : Int) < g (ad (ad L 1) 1) 8 → -2147483648 ≤ g (ad (ad (ad L 1) 1) 8) j ∧ g (ad (ad (ad L 1) 1) 8) j < 2147483648 := fun j hj => by
    have := w_dr hWV hj
    omega
  by_cases w0 : w = 0
  · rw [if_pos w0] at hQ
    subst w0
    have q := hQ.ro hX
    simp only [m_L_count, b_L_count_0, P_L_count_60, b_L_count_60, P_L_count_65, b_L_count_65, P_L_count_70, b_L_count_70, P_L_count_75, b_L_count_75, P_L_count_84, b_L_count_84, P_L_count_93, b_L_count_93, P_L_count_109, b_L_count_109, P_L_count_117, b_L_count_117, P_L_count_122, b_L_count_122, P_L_count_127, b_L_count_127, wp_aln0, wp_aln2, wp_asn2, wp_cv1, wp_cv2, wp_cv3, wp_cv4, wp_cv5, wp_cv6, wp_cv7, wp_iconst, wp_iln1, wp_iret, wp_zret, qsc_kd, qsc_k1, qsc_l1, qsc_gf1, qsc_k2, qsc_l2, qsc_gf2, qsc_k3, qsc_l3, qsc_gf3, qsc_k4, qsc_l4, qsc_gf4, qsc_k5, qsc_l5, qsc_gf6, qsc_k6, qsc_l6, qsc_gf7, qsc_k7, qsc_l7, qsc_gf9, qsc_k8, qsc_l8, qsc_gf10, qsc_gf0, qsc_pf0, qsc_gf5, qsc_pf5, qsc_gf8, qsc_pf8, qst_kd, qst_gf0, qst_k10, qst_l10, qst_gf1, qst_k29, qst_l29, qst_gf2, qlf_kd, qlf_gf0, qlf_k31, qlf_l31, qlf_gf1, qlf_gf3, qlf_gf4, qlf_gf5, qlf_gf6, qlf_k203, qlf_l203, qlf_gf7, qlf_gf2, qlf_pf2, qlf_gf8, qlf_pf8, wrI_row, cpI_row, row_s, row_n, row_ss, row_sw, upd_s, upd_n, ad_inj, ad_z, ad_z2, Nat.reduceEqDiff, reduceCtorEq, List.cons_append, List.nil_append, Option.toList_some, Option.toList_none, Int.toNat_natCast, List.length_cons, List.length_nil, Int.cast_ofNat_Int, Nat.reduceAdd, Nat.reduceLeDiff, Nat.reduceLT, Nat.reduceMul, Int.reduceAdd, Int.reduceSub, Int.reduceMul, Int.reduceNeg, Int.reduceLT, Int.reduceLE, Int.reduceEq, Int.reduceToNat, eq_self, true_and, and_true, true_or, or_true, false_or, or_false, if_true, if_false, not_true_eq_false, not_false_eq_true, and_self, ne_eq, hLf, hN1, hS, e0, wp_tsw_i (v := 0) (lo := 0) (hi := 8) (t := 60) (ts := [60, 65, 70, 75, 84, 93, 109, 117, 122]) (by omega) (rng_32 (by unfold i32; omega)) rfl]
    (repeat' (first | apply And.intro | split)) <;> first | omega | exact q
  by_cases w1 : w = 1
  · rw [if_neg w0, if_pos w1] at hQ
    subst w1
    have q := hQ.ro hX
    simp only [m_L_count, b_L_count_0, P_L_count_60, b_L_count_60, P_L_count_65, b_L_count_65, P_L_count_70, b_L_count_70, P_L_count_75, b_L_count_75, P_L_count_84, b_L_count_84, P_L_count_93, b_L_count_93, P_L_count_109, b_L_count_109, P_L_count_117, b_L_count_117, P_L_count_122, b_L_count_122, P_L_count_127, b_L_count_127, wp_aln0, wp_aln2, wp_asn2, wp_cv1, wp_cv2, wp_cv3, wp_cv4, wp_cv5, wp_cv6, wp_cv7, wp_iconst, wp_iln1, wp_iret, wp_zret, qsc_kd, qsc_k1, qsc_l1, qsc_gf1, qsc_k2, qsc_l2, qsc_gf2, qsc_k3, qsc_l3, qsc_gf3, qsc_k4, qsc_l4, qsc_gf4, qsc_k5, qsc_l5, qsc_gf6, qsc_k6, qsc_l6, qsc_gf7, qsc_k7, qsc_l7, qsc_gf9, qsc_k8, qsc_l8, qsc_gf10, qsc_gf0, qsc_pf0, qsc_gf5, qsc_pf5, qsc_gf8, qsc_pf8, qst_kd, qst_gf0, qst_k10, qst_l10, qst_gf1, qst_k29, qst_l29, qst_gf2, qlf_kd, qlf_gf0, qlf_k31, qlf_l31, qlf_gf1, qlf_gf3, qlf_gf4, qlf_gf5, qlf_gf6, qlf_k203, qlf_l203, qlf_gf7, qlf_gf2, qlf_pf2, qlf_gf8, qlf_pf8, wrI_row, cpI_row, row_s, row_n, row_ss, row_sw, upd_s, upd_n, ad_inj, ad_z, ad_z2, Nat.reduceEqDiff, reduceCtorEq, List.cons_append, List.nil_append, Option.toList_some, Option.toList_none, Int.toNat_natCast, List.length_cons, List.length_nil, Int.cast_ofNat_Int, Nat.reduceAdd, Nat.reduceLeDiff, Nat.reduceLT, Nat.reduceMul, Int.reduceAdd, Int.reduceSub, Int.reduceMul, Int.reduceNeg, Int.reduceLT, Int.reduceLE, Int.reduceEq, Int.reduceToNat, eq_self, true_and, and_true, true_or, or_true, false_or, or_false, if_true, if_false, not_true_eq_false, not_false_eq_true, and_self, ne_eq, hLf, hN1, hS, e5, wp_tsw_i (v := 1) (lo := 0) (hi := 8) (t := 65) (ts := [60, 65, 70, 75, 84, 93, 109, 117, 122]) (by omega) (rng_32 (by unfold i32; omega)) rfl]
    (repeat' (first | apply And.intro | split)) <;> first | omega | exact q
  by_cases w2 : w = 2
  · rw [if_neg w0, if_neg w1, if_pos w2] at hQ
    subst w2
    have q := hQ.ro hX
    simp only [m_L_count, b_L_count_0, P_L_count_60, b_L_count_60, P_L_count_65, b_L_count_65, P_L_count_70, b_L_count_70, P_L_count_75, b_L_count_75, P_L_count_84, b_L_count_84, P_L_count_93, b_L_count_93, P_L_count_109, b_L_count_109, P_L_count_117, b_L_count_117, P_L_count_122, b_L_count_122, P_L_count_127, b_L_count_127, wp_aln0, wp_aln2, wp_asn2, wp_cv1, wp_cv2, wp_cv3, wp_cv4, wp_cv5, wp_cv6, wp_cv7, wp_iconst, wp_iln1, wp_iret, wp_zret, qsc_kd, qsc_k1, qsc_l1, qsc_gf1, qsc_k2, qsc_l2, qsc_gf2, qsc_k3, qsc_l3, qsc_gf3, qsc_k4, qsc_l4, qsc_gf4, qsc_k5, qsc_l5, qsc_gf6, qsc_k6, qsc_l6, qsc_gf7, qsc_k7, qsc_l7, qsc_gf9, qsc_k8, qsc_l8, qsc_gf10, qsc_gf0, qsc_pf0, qsc_gf5, qsc_pf5, qsc_gf8, qsc_pf8, qst_kd, qst_gf0, qst_k10, qst_l10, qst_gf1, qst_k29, qst_l29, qst_gf2, qlf_kd, qlf_gf0, qlf_k31, qlf_l31, qlf_gf1, qlf_gf3, qlf_gf4, qlf_gf5, qlf_gf6, qlf_k203, qlf_l203, qlf_gf7, qlf_gf2, qlf_pf2, qlf_gf8, qlf_pf8, wrI_row, cpI_row, row_s, row_n, row_ss, row_sw, upd_s, upd_n, ad_inj, ad_z, ad_z2, Nat.reduceEqDiff, reduceCtorEq, List.cons_append, List.nil_append, Option.toList_some, Option.toList_none, Int.toNat_natCast, List.length_cons, List.length_nil, Int.cast_ofNat_Int, Nat.reduceAdd, Nat.reduceLeDiff, Nat.reduceLT, Nat.reduceMul, Int.reduceAdd, Int.reduceSub, Int.reduceMul, Int.reduceNeg, Int.reduceLT, Int.reduceLE, Int.reduceEq, Int.reduceToNat, eq_self, true_and, and_true, true_or, or_true, false_or, or_false, if_true, if_false, not_true_eq_false, not_false_eq_true, and_self, ne_eq, hLf, hN1, hS, e8, wp_tsw_i (v := 2) (lo := 0) (hi := 8) (t := 70) (ts := [60, 65, 70, 75, 84, 93, 109, 117, 122]) (by omega) (rng_32 (by unfold i32; omega)) rfl]
    (repeat' (first | apply And.intro | split)) <;> first | omega | exact q
  by_cases w3 : w = 3
  · rw [if_neg w0, if_neg w1, if_neg w2, if_pos w3] at hQ
    subst w3
    have q := hQ.ro hX
    have hcs := countSet_ok (zt := zt) (ρ := ρ) hS hWV (b := ad (ad (ad L 1) 1) 7) (qsc_k7 hS) (qsc_l7 hS) hpb
    have hcn : cntS (-99) (g (ad (ad (ad L 1) 1) 7)) (g (ad (ad L 1) 1) 8).toNat = cntS (-1) (X.1.1 9) (X.1.1 8 0).toNat := hR.cn9 (by omega) hU
    rw [hcn] at hcs
    simp only [m_L_count, b_L_count_0, P_L_count_60, b_L_count_60, P_L_count_65, b_L_count_65, P_L_count_70, b_L_count_70, P_L_count_75, b_L_count_75, P_L_count_84, b_L_count_84, P_L_count_93, b_L_count_93, P_L_count_109, b_L_count_109, P_L_count_117, b_L_count_117, P_L_count_122, b_L_count_122, P_L_count_127, b_L_count_127, wp_aln0, wp_aln2, wp_asn2, wp_cv1, wp_cv2, wp_cv3, wp_cv4, wp_cv5, wp_cv6, wp_cv7, wp_iconst, wp_iln1, wp_iret, wp_zret, qsc_kd, qsc_k1, qsc_l1, qsc_gf1, qsc_k2, qsc_l2, qsc_gf2, qsc_k3, qsc_l3, qsc_gf3, qsc_k4, qsc_l4, qsc_gf4, qsc_k5, qsc_l5, qsc_gf6, qsc_k6, qsc_l6, qsc_gf7, qsc_k7, qsc_l7, qsc_gf9, qsc_k8, qsc_l8, qsc_gf10, qsc_gf0, qsc_pf0, qsc_gf5, qsc_pf5, qsc_gf8, qsc_pf8, qst_kd, qst_gf0, qst_k10, qst_l10, qst_gf1, qst_k29, qst_l29, qst_gf2, qlf_kd, qlf_gf0, qlf_k31, qlf_l31, qlf_gf1, qlf_gf3, qlf_gf4, qlf_gf5, qlf_gf6, qlf_k203, qlf_l203, qlf_gf7, qlf_gf2, qlf_pf2, qlf_gf8, qlf_pf8, wrI_row, cpI_row, row_s, row_n, row_ss, row_sw, upd_s, upd_n, ad_inj, ad_z, ad_z2, Nat.reduceEqDiff, reduceCtorEq, List.cons_append, List.nil_append, Option.toList_some, Option.toList_none, Int.toNat_natCast, List.length_cons, List.length_nil, Int.cast_ofNat_Int, Nat.reduceAdd, Nat.reduceLeDiff, Nat.reduceLT, Nat.reduceMul, Int.reduceAdd, Int.reduceSub, Int.reduceMul, Int.reduceNeg, Int.reduceLT, Int.reduceLE, Int.reduceEq, Int.reduceToNat, eq_self, true_and, and_true, true_or, or_true, false_or, or_false, if_true, if_false, not_true_eq_false, not_false_eq_true, and_self, ne_eq, hLf, hN1, hS, hcs, wp_tsw_i (v := 3) (lo := 0) (hi := 8) (t := 75) (ts := [60, 65, 70, 75, 84, 93, 109, 117, 122]) (by omega) (rng_32 (by unfold i32; omega)) rfl]
    (repeat' (first | apply And.intro | split)) <;> first | omega | exact q
  by_cases w4 : w = 4
  · rw [if_neg w0, if_neg w1, if_neg w2, if_neg w3, if_pos w4] at hQ
    subst w4
    have q := hQ.ro hX
    have hcs := countSet_ok (zt := zt) (ρ := ρ) hS hWV (b := ad (ad (ad L 1) 1) 8) (qsc_k8 hS) (qsc_l8 hS) hdb
    have hcn : cntS (-99) (g (ad (ad (ad L 1) 1) 8)) (g (ad (ad L 1) 1) 8).toNat = cntS (-1) (X.1.1 10) (X.1.1 8 0).toNat := hR.cn10 (by omega) hU
    rw [hcn] at hcs
    simp only [m_L_count, b_L_count_0, P_L_count_60, b_L_count_60, P_L_count_65, b_L_count_65, P_L_count_70, b_L_count_70, P_L_count_75, b_L_count_75, P_L_count_84, b_L_count_84, P_L_count_93, b_L_count_93, P_L_count_109, b_L_count_109, P_L_count_117, b_L_count_117, P_L_count_122, b_L_count_122, P_L_count_127, b_L_count_127, wp_aln0, wp_aln2, wp_asn2, wp_cv1, wp_cv2, wp_cv3, wp_cv4, wp_cv5, wp_cv6, wp_cv7, wp_iconst, wp_iln1, wp_iret, wp_zret, qsc_kd, qsc_k1, qsc_l1, qsc_gf1, qsc_k2, qsc_l2, qsc_gf2, qsc_k3, qsc_l3, qsc_gf3, qsc_k4, qsc_l4, qsc_gf4, qsc_k5, qsc_l5, qsc_gf6, qsc_k6, qsc_l6, qsc_gf7, qsc_k7, qsc_l7, qsc_gf9, qsc_k8, qsc_l8, qsc_gf10, qsc_gf0, qsc_pf0, qsc_gf5, qsc_pf5, qsc_gf8, qsc_pf8, qst_kd, qst_gf0, qst_k10, qst_l10, qst_gf1, qst_k29, qst_l29, qst_gf2, qlf_kd, qlf_gf0, qlf_k31, qlf_l31, qlf_gf1, qlf_gf3, qlf_gf4, qlf_gf5, qlf_gf6, qlf_k203, qlf_l203, qlf_gf7, qlf_gf2, qlf_pf2, qlf_gf8, qlf_pf8, wrI_row, cpI_row, row_s, row_n, row_ss, row_sw, upd_s, upd_n, ad_inj, ad_z, ad_z2, Nat.reduceEqDiff, reduceCtorEq, List.cons_append, List.nil_append, Option.toList_some, Option.toList_none, Int.toNat_natCast, List.length_cons, List.length_nil, Int.cast_ofNat_Int, Nat.reduceAdd, Nat.reduceLeDiff, Nat.reduceLT, Nat.reduceMul, Int.reduceAdd, Int.reduceSub, Int.reduceMul, Int.reduceNeg, Int.reduceLT, Int.reduceLE, Int.reduceEq, Int.reduceToNat, eq_self, true_and, and_true, true_or, or_true, false_or, or_false, if_true, if_false, not_true_eq_false, not_false_eq_true, and_self, ne_eq, hLf, hN1, hS, hcs, wp_tsw_i (v := 4) (lo := 0) (hi := 8) (t := 84) (ts := [60, 65, 70, 75, 84, 93, 109, 117, 122]) (by omega) (rng_32 (by unfold i32; omega)) rfl]
    (repeat' (first | apply And.intro | split)) <;> first | omega | exact q
  by_cases w5 : w = 5
  · rw [if_neg w0, if_neg w1, if_neg w2, if_neg w3, if_neg w4, if_pos w5] at hQ
    subst w5
    simp only [m_L_count, b_L_count_0, P_L_count_60, b_L_count_60, P_L_count_65, b_L_count_65, P_L_count_70, b_L_count_70, P_L_count_75, b_L_count_75, P_L_count_84, b_L_count_84, P_L_count_93, b_L_count_93, P_L_count_109, b_L_count_109, P_L_count_117, b_L_count_117, P_L_count_122, b_L_count_122, P_L_count_127, b_L_count_127, wp_aln0, wp_aln2, wp_asn2, wp_cv1, wp_cv2, wp_cv3, wp_cv4, wp_cv5, wp_cv6, wp_cv7, wp_iconst, wp_iln1, wp_iret, wp_zret, qsc_kd, qsc_k1, qsc_l1, qsc_gf1, qsc_k2, qsc_l2, qsc_gf2, qsc_k3, qsc_l3, qsc_gf3, qsc_k4, qsc_l4, qsc_gf4, qsc_k5, qsc_l5, qsc_gf6, qsc_k6, qsc_l6, qsc_gf7, qsc_k7, qsc_l7, qsc_gf9, qsc_k8, qsc_l8, qsc_gf10, qsc_gf0, qsc_pf0, qsc_gf5, qsc_pf5, qsc_gf8, qsc_pf8, qar_kd, qar_k1, qar_l1, qar_gf0, qar_k2, qar_l2, qar_gf1, qar_gf2, qar_pf2, qar_gf3, qar_pf3, qst_kd, qst_gf0, qst_k10, qst_l10, qst_gf1, qst_k29, qst_l29, qst_gf2, qlf_kd, qlf_gf0, qlf_k31, qlf_l31, qlf_gf1, qlf_gf3, qlf_gf4, qlf_gf5, qlf_gf6, qlf_k203, qlf_l203, qlf_gf7, qlf_gf2, qlf_pf2, qlf_gf8, qlf_pf8, wrI_row, cpI_row, row_s, row_n, row_ss, row_sw, upd_s, upd_n, ad_inj, ad_z, ad_z2, Nat.reduceEqDiff, reduceCtorEq, List.cons_append, List.nil_append, Option.toList_some, Option.toList_none, Int.toNat_natCast, List.length_cons, List.length_nil, Int.cast_ofNat_Int, Nat.reduceAdd, Nat.reduceLeDiff, Nat.reduceLT, Nat.reduceMul, Int.reduceAdd, Int.reduceSub, Int.reduceMul, Int.reduceNeg, Int.reduceLT, Int.reduceLE, Int.reduceEq, Int.reduceToNat, eq_self, true_and, and_true, true_or, or_true, false_or, or_false, if_true, if_false, not_true_eq_false, not_false_eq_true, and_self, ne_eq, hLf, hN1, hS, hAr, wp_tsw_i (v := 5) (lo := 0) (hi := 8) (t := 93) (ts := [60, 65, 70, 75, 84, 93, 109, 117, 122]) (by omega) (rng_32 (by unfold i32; omega)) rfl]
    refine air_c hX hW (fun g2 q1 q2 q3 => ?_)
    have q := hQ g2 ρ h (hX.kept hW (fun x z1 z2 => q1 x (by unfold ad at *; omega))) ⟨rfl, fun x z => ⟨rfl, q1 x (by unfold ad at *; omega)⟩⟩
    simp only [m_L_count, b_L_count_0, P_L_count_60, b_L_count_60, P_L_count_65, b_L_count_65, P_L_count_70, b_L_count_70, P_L_count_75, b_L_count_75, P_L_count_84, b_L_count_84, P_L_count_93, b_L_count_93, P_L_count_109, b_L_count_109, P_L_count_117, b_L_count_117, P_L_count_122, b_L_count_122, P_L_count_127, b_L_count_127, wp_aln0, wp_aln2, wp_asn2, wp_cv1, wp_cv2, wp_cv3, wp_cv4, wp_cv5, wp_cv6, wp_cv7, wp_iconst, wp_iln1, wp_iret, wp_zret, qsc_kd, qsc_k1, qsc_l1, qsc_gf1, qsc_k2, qsc_l2, qsc_gf2, qsc_k3, qsc_l3, qsc_gf3, qsc_k4, qsc_l4, qsc_gf4, qsc_k5, qsc_l5, qsc_gf6, qsc_k6, qsc_l6, qsc_gf7, qsc_k7, qsc_l7, qsc_gf9, qsc_k8, qsc_l8, qsc_gf10, qsc_gf0, qsc_pf0, qsc_gf5, qsc_pf5, qsc_gf8, qsc_pf8, qar_kd, qar_k1, qar_l1, qar_gf0, qar_k2, qar_l2, qar_gf1, qar_gf2, qar_pf2, qar_gf3, qar_pf3, qst_kd, qst_gf0, qst_k10, qst_l10, qst_gf1, qst_k29, qst_l29, qst_gf2, qlf_kd, qlf_gf0, qlf_k31, qlf_l31, qlf_gf1, qlf_gf3, qlf_gf4, qlf_gf5, qlf_gf6, qlf_k203, qlf_l203, qlf_gf7, qlf_gf2, qlf_pf2, qlf_gf8, qlf_pf8, wrI_row, cpI_row, row_s, row_n, row_ss, row_sw, upd_s, upd_n, ad_inj, ad_z, ad_z2, Nat.reduceEqDiff, reduceCtorEq, List.cons_append, List.nil_append, Option.toList_some, Option.toList_none, Int.toNat_natCast, List.length_cons, List.length_nil, Int.cast_ofNat_Int, Nat.reduceAdd, Nat.reduceLeDiff, Nat.reduceLT, Nat.reduceMul, Int.reduceAdd, Int.reduceSub, Int.reduceMul, Int.reduceNeg, Int.reduceLT, Int.reduceLE, Int.reduceEq, Int.reduceToNat, eq_self, true_and, and_true, true_or, or_true, false_or, or_false, if_true, if_false, not_true_eq_false, not_false_eq_true, and_self, ne_eq, hLf, hN1, hS, hAr, q3]
    (repeat' (first | apply And.intro | split)) <;> first | omega | exact q
  by_cases w6 : w = 6
  · rw [if_neg w0, if_neg w1, if_neg w2, if_neg w3, if_neg w4, if_neg w5, if_pos w6] at hQ
    subst w6
    have q := hQ.ro hX
    have hct := countTaken_ok (zt := zt) (ρ := ρ) hN hX.2.1.tk
    obtain ⟨-, k0, k1, -, -⟩ := hX.2.1
    rw [k0, k1] at hct
    simp only [m_L_count, b_L_count_0, P_L_count_60, b_L_count_60, P_L_count_65, b_L_count_65, P_L_count_70, b_L_count_70, P_L_count_75, b_L_count_75, P_L_count_84, b_L_count_84, P_L_count_93, b_L_count_93, P_L_count_109, b_L_count_109, P_L_count_117, b_L_count_117, P_L_count_122, b_L_count_122, P_L_count_127, b_L_count_127, wp_aln0, wp_aln2, wp_asn2, wp_cv1, wp_cv2, wp_cv3, wp_cv4, wp_cv5, wp_cv6, wp_cv7, wp_iconst, wp_iln1, wp_iret, wp_zret, qsc_kd, qsc_k1, qsc_l1, qsc_gf1, qsc_k2, qsc_l2, qsc_gf2, qsc_k3, qsc_l3, qsc_gf3, qsc_k4, qsc_l4, qsc_gf4, qsc_k5, qsc_l5, qsc_gf6, qsc_k6, qsc_l6, qsc_gf7, qsc_k7, qsc_l7, qsc_gf9, qsc_k8, qsc_l8, qsc_gf10, qsc_gf0, qsc_pf0, qsc_gf5, qsc_pf5, qsc_gf8, qsc_pf8, qst_kd, qst_gf0, qst_k10, qst_l10, qst_gf1, qst_k29, qst_l29, qst_gf2, qlf_kd, qlf_gf0, qlf_k31, qlf_l31, qlf_gf1, qlf_gf3, qlf_gf4, qlf_gf5, qlf_gf6, qlf_k203, qlf_l203, qlf_gf7, qlf_gf2, qlf_pf2, qlf_gf8, qlf_pf8, wrI_row, cpI_row, row_s, row_n, row_ss, row_sw, upd_s, upd_n, ad_inj, ad_z, ad_z2, Nat.reduceEqDiff, reduceCtorEq, List.cons_append, List.nil_append, Option.toList_some, Option.toList_none, Int.toNat_natCast, List.length_cons, List.length_nil, Int.cast_ofNat_Int, Nat.reduceAdd, Nat.reduceLeDiff, Nat.reduceLT, Nat.reduceMul, Int.reduceAdd, Int.reduceSub, Int.reduceMul, Int.reduceNeg, Int.reduceLT, Int.reduceLE, Int.reduceEq, Int.reduceToNat, eq_self, true_and, and_true, true_or, or_true, false_or, or_false, if_true, if_false, not_true_eq_false, not_false_eq_true, and_self, ne_eq, hLf, hN1, hS, hct, wp_tsw_i (v := 6) (lo := 0) (hi := 8) (t := 109) (ts := [60, 65, 70, 75, 84, 93, 109, 117, 122]) (by omega) (rng_32 (by unfold i32; omega)) rfl]
    exact q
  by_cases w7 : w = 7
  · rw [if_neg w0, if_neg w1, if_neg w2, if_neg w3, if_neg w4, if_neg w5, if_neg w6, if_pos w7] at hQ
    subst w7
    have q := hQ.ro hX
    have x3 : g L 2 = X.2.1 := hX.2.2.2.1
    simp only [m_L_count, b_L_count_0, P_L_count_60, b_L_count_60, P_L_count_65, b_L_count_65, P_L_count_70, b_L_count_70, P_L_count_75, b_L_count_75, P_L_count_84, b_L_count_84, P_L_count_93, b_L_count_93, P_L_count_109, b_L_count_109, P_L_count_117, b_L_count_117, P_L_count_122, b_L_count_122, P_L_count_127, b_L_count_127, wp_aln0, wp_aln2, wp_asn2, wp_cv1, wp_cv2, wp_cv3, wp_cv4, wp_cv5, wp_cv6, wp_cv7, wp_iconst, wp_iln1, wp_iret, wp_zret, qsc_kd, qsc_k1, qsc_l1, qsc_gf1, qsc_k2, qsc_l2, qsc_gf2, qsc_k3, qsc_l3, qsc_gf3, qsc_k4, qsc_l4, qsc_gf4, qsc_k5, qsc_l5, qsc_gf6, qsc_k6, qsc_l6, qsc_gf7, qsc_k7, qsc_l7, qsc_gf9, qsc_k8, qsc_l8, qsc_gf10, qsc_gf0, qsc_pf0, qsc_gf5, qsc_pf5, qsc_gf8, qsc_pf8, qst_kd, qst_gf0, qst_k10, qst_l10, qst_gf1, qst_k29, qst_l29, qst_gf2, qlf_kd, qlf_gf0, qlf_k31, qlf_l31, qlf_gf1, qlf_gf3, qlf_gf4, qlf_gf5, qlf_gf6, qlf_k203, qlf_l203, qlf_gf7, qlf_gf2, qlf_pf2, qlf_gf8, qlf_pf8, wrI_row, cpI_row, row_s, row_n, row_ss, row_sw, upd_s, upd_n, ad_inj, ad_z, ad_z2, Nat.reduceEqDiff, reduceCtorEq, List.cons_append, List.nil_append, Option.toList_some, Option.toList_none, Int.toNat_natCast, List.length_cons, List.length_nil, Int.cast_ofNat_Int, Nat.reduceAdd, Nat.reduceLeDiff, Nat.reduceLT, Nat.reduceMul, Int.reduceAdd, Int.reduceSub, Int.reduceMul, Int.reduceNeg, Int.reduceLT, Int.reduceLE, Int.reduceEq, Int.reduceToNat, eq_self, true_and, and_true, true_or, or_true, false_or, or_false, if_true, if_false, not_true_eq_false, not_false_eq_true, and_self, ne_eq, hLf, hN1, hS, x3, wp_tsw_i (v := 7) (lo := 0) (hi := 8) (t := 117) (ts := [60, 65, 70, 75, 84, 93, 109, 117, 122]) (by omega) (rng_32 (by unfold i32; omega)) rfl]
    exact q
  by_cases w8 : w = 8
  · rw [if_neg w0, if_neg w1, if_neg w2, if_neg w3, if_neg w4, if_neg w5, if_neg w6, if_neg w7, if_pos w8] at hQ
    subst w8
    have q := hQ.ro hX
    have x4 : g L 8 = X.2.2.2.1 := hX.2.2.2.2.1
    simp only [m_L_count, b_L_count_0, P_L_count_60, b_L_count_60, P_L_count_65, b_L_count_65, P_L_count_70, b_L_count_70, P_L_count_75, b_L_count_75, P_L_count_84, b_L_count_84, P_L_count_93, b_L_count_93, P_L_count_109, b_L_count_109, P_L_count_117, b_L_count_117, P_L_count_122, b_L_count_122, P_L_count_127, b_L_count_127, wp_aln0, wp_aln2, wp_asn2, wp_cv1, wp_cv2, wp_cv3, wp_cv4, wp_cv5, wp_cv6, wp_cv7, wp_iconst, wp_iln1, wp_iret, wp_zret, qsc_kd, qsc_k1, qsc_l1, qsc_gf1, qsc_k2, qsc_l2, qsc_gf2, qsc_k3, qsc_l3, qsc_gf3, qsc_k4, qsc_l4, qsc_gf4, qsc_k5, qsc_l5, qsc_gf6, qsc_k6, qsc_l6, qsc_gf7, qsc_k7, qsc_l7, qsc_gf9, qsc_k8, qsc_l8, qsc_gf10, qsc_gf0, qsc_pf0, qsc_gf5, qsc_pf5, qsc_gf8, qsc_pf8, qst_kd, qst_gf0, qst_k10, qst_l10, qst_gf1, qst_k29, qst_l29, qst_gf2, qlf_kd, qlf_gf0, qlf_k31, qlf_l31, qlf_gf1, qlf_gf3, qlf_gf4, qlf_gf5, qlf_gf6, qlf_k203, qlf_l203, qlf_gf7, qlf_gf2, qlf_pf2, qlf_gf8, qlf_pf8, wrI_row, cpI_row, row_s, row_n, row_ss, row_sw, upd_s, upd_n, ad_inj, ad_z, ad_z2, Nat.reduceEqDiff, reduceCtorEq, List.cons_append, List.nil_append, Option.toList_some, Option.toList_none, Int.toNat_natCast, List.length_cons, List.length_nil, Int.cast_ofNat_Int, Nat.reduceAdd, Nat.reduceLeDiff, Nat.reduceLT, Nat.reduceMul, Int.reduceAdd, Int.reduceSub, Int.reduceMul, Int.reduceNeg, Int.reduceLT, Int.reduceLE, Int.reduceEq, Int.reduceToNat, eq_self, true_and, and_true, true_or, or_true, false_or, or_false, if_true, if_false, not_true_eq_false, not_false_eq_true, and_self, ne_eq, hLf, hN1, hS, x4, wp_tsw_i (v := 8) (lo := 0) (hi := 8) (t := 122) (ts := [60, 65, 70, 75, 84, 93, 109, 117, 122]) (by omega) (rng_32 (by unfold i32; omega)) rfl]
    exact q
  · rw [if_neg w0, if_neg w1, if_neg w2, if_neg w3, if_neg w4, if_neg w5, if_neg w6, if_neg w7, if_neg w8] at hQ
    have q := hQ.ro hX
    simp only [m_L_count, b_L_count_0, P_L_count_60, b_L_count_60, P_L_count_65, b_L_count_65, P_L_count_70, b_L_count_70, P_L_count_75, b_L_count_75, P_L_count_84, b_L_count_84, P_L_count_93, b_L_count_93, P_L_count_109, b_L_count_109, P_L_count_117, b_L_count_117, P_L_count_122, b_L_count_122, P_L_count_127, b_L_count_127, wp_aln0, wp_aln2, wp_asn2, wp_cv1, wp_cv2, wp_cv3, wp_cv4, wp_cv5, wp_cv6, wp_cv7, wp_iconst, wp_iln1, wp_iret, wp_zret, qsc_kd, qsc_k1, qsc_l1, qsc_gf1, qsc_k2, qsc_l2, qsc_gf2, qsc_k3, qsc_l3, qsc_gf3, qsc_k4, qsc_l4, qsc_gf4, qsc_k5, qsc_l5, qsc_gf6, qsc_k6, qsc_l6, qsc_gf7, qsc_k7, qsc_l7, qsc_gf9, qsc_k8, qsc_l8, qsc_gf10, qsc_gf0, qsc_pf0, qsc_gf5, qsc_pf5, qsc_gf8, qsc_pf8, qst_kd, qst_gf0, qst_k10, qst_l10, qst_gf1, qst_k29, qst_l29, qst_gf2, qlf_kd, qlf_gf0, qlf_k31, qlf_l31, qlf_gf1, qlf_gf3, qlf_gf4, qlf_gf5, qlf_gf6, qlf_k203, qlf_l203, qlf_gf7, qlf_gf2, qlf_pf2, qlf_gf8, qlf_pf8, wrI_row, cpI_row, row_s, row_n, row_ss, row_sw, upd_s, upd_n, ad_inj, ad_z, ad_z2, Nat.reduceEqDiff, reduceCtorEq, List.cons_append, List.nil_append, Option.toList_some, Option.toList_none, Int.toNat_natCast, List.length_cons, List.length_nil, Int.cast_ofNat_Int, Nat.reduceAdd, Nat.reduceLeDiff, Nat.reduceLT, Nat.reduceMul, Int.reduceAdd, Int.reduceSub, Int.reduceMul, Int.reduceNeg, Int.reduceLT, Int.reduceLE, Int.reduceEq, Int.reduceToNat, eq_self, true_and, and_true, true_or, or_true, false_or, or_false, if_true, if_false, not_true_eq_false, not_false_eq_true, and_self, ne_eq, hLf, hN1, hS, wp_tsw_o (v := w) (lo := 0) (hi := 8) (by omega) (rng_32 hw)]
    exact q
/-- the sum of what is drawn; -99 where a frame has none -/
def drF (U : Vw) : Nat → Nat → Int → Int
  | 0, _, t => t
  | d + 1, f, t => if U 10 f = -1 then -99 else drF U d (f + 1) (t + wrgV U (kndV U f) (U 10 f).toNat)
def sDrawnSum (X : XV) : Int := drF X.1.1 (X.1.1 8 0).toNat 0 0
theorem drawnSum_loop (hX : RepC g ρ L h X) (hW : WFX X) (hQ : CQ g ρ L (sDrawnSum X, X) Q) :
    ∀ (d f : Nat) (t : Int), (f : Int) + d = X.1.1 8 0 → 0 ≤ t ∧ t ≤ 1000 * f → drF X.1.1 d f t = sDrawnSum X → Wp zt 78 (P 78 12) [some (AR L), some (AR (ad (ad L 1) 1)), some (AI t), some (AI f)] [] (g, ρ) Q := by
  obtain ⟨hLf, hN, -⟩ := id hX.1
  obtain ⟨hR, -⟩ := id hX.2.1
  have hU := hW.1.1
  have hWV := hR.wf (by omega) hU
  have hN1 := hN.1
  have hS := hN.2.1
  have e0 : g (ad (ad L 1) 1) 0 = X.1.1 0 0 := hR.l0
  have e5 : g (ad (ad L 1) 1) 5 = X.1.1 5 0 := hR.l5
  have e8 : g (ad (ad L 1) 1) 8 = X.1.1 8 0 := hR.l8
  have b0 := hU.1
  have b5 := hU.2.2.2.2.1
  have b8 := hU.2.2.2.2.2.2.1
  have q := hQ.ro hX
  intro d
  induction d with
  | zero =>
    intro f t hf ht hs
    rw [← hs] at q
    have hfe : ¬ (f : Int) < X.1.1 8 0 := by omega
    rw [P_L_drawnSum_12]
    simp only [m_L_drawnSum, b_L_drawnSum_0, P_L_drawnSum_36, b_L_drawnSum_36, P_L_drawnSum_60, b_L_drawnSum_60, wp_aln0, wp_aln1, wp_asn1, wp_bipush, wp_cv1, wp_cv2, wp_cv3, wp_cv4, wp_cv5, wp_cv6, wp_cv7, wp_goto, wp_iadd, wp_iald, wp_icge, wp_iconst, wp_iln2, wp_iln3, wp_inc3, wp_iret, wp_isn2, wp_isn3, wp_izne, wp_nop, wp_zret, qsc_kd, qsc_k1, qsc_l1, qsc_gf1, qsc_k2, qsc_l2, qsc_gf2, qsc_k3, qsc_l3, qsc_gf3, qsc_k4, qsc_l4, qsc_gf4, qsc_k5, qsc_l5, qsc_gf6, qsc_k6, qsc_l6, qsc_gf7, qsc_k7, qsc_l7, qsc_gf9, qsc_k8, qsc_l8, qsc_gf10, qsc_gf0, qsc_pf0, qsc_gf5, qsc_pf5, qsc_gf8, qsc_pf8, qst_kd, qst_gf0, qst_k10, qst_l10, qst_gf1, qst_k29, qst_l29, qst_gf2, qlf_kd, qlf_gf0, qlf_k31, qlf_l31, qlf_gf1, qlf_gf3, qlf_gf4, qlf_gf5, qlf_gf6, qlf_k203, qlf_l203, qlf_gf7, qlf_gf2, qlf_pf2, qlf_gf8, qlf_pf8, wrI_row, cpI_row, row_s, row_n, row_ss, row_sw, upd_s, upd_n, ad_inj, ad_z, ad_z2, Nat.reduceEqDiff, reduceCtorEq, List.cons_append, List.nil_append, Option.toList_some, Option.toList_none, Int.toNat_natCast, List.length_cons, List.length_nil, Int.cast_ofNat_Int, Nat.reduceAdd, Nat.reduceLeDiff, Nat.reduceLT, Nat.reduceMul, Int.reduceAdd, Int.reduceSub, Int.reduceMul, Int.reduceNeg, Int.reduceLT, Int.reduceLE, Int.reduceEq, Int.reduceToNat, eq_self, true_and, and_true, true_or, or_true, false_or, or_false, if_true, if_false, not_true_eq_false, not_false_eq_true, and_self, ne_eq, b_L_drawnSum_12, hLf, hN1, hS, e8]
    (repeat' (first | apply And.intro | split)) <;> first | omega | exact q
  | succ d ih =>
    intro f t hf ht hs
    simp only [drF] at hs
    have r10 : g (ad (ad (ad L 1) 1) 8) f = nn (-99) (X.1.1 10 f) := hR.l10 (by omega)
    have b10 := (hU.2.2.2.2.2.2.2.2 f (by omega)).2
    by_cases e : X.1.1 10 f = -1
    · rw [if_pos e] at hs
      rw [← hs] at q
      have en : nn (-99) (X.1.1 10 f) = -99 := if_pos e
      rw [en] at r10
      have hm1 := hasMouth_ok (zt := zt) (ρ := ρ) hS hWV (m := -99) (by omega) (by omega)
      rw [b2_f (by omega)] at hm1
      rw [P_L_drawnSum_12]
      simp only [m_L_drawnSum, b_L_drawnSum_0, P_L_drawnSum_36, b_L_drawnSum_36, P_L_drawnSum_60, b_L_drawnSum_60, wp_aln0, wp_aln1, wp_asn1, wp_bipush, wp_cv1, wp_cv2, wp_cv3, wp_cv4, wp_cv5, wp_cv6, wp_cv7, wp_goto, wp_iadd, wp_iald, wp_icge, wp_iconst, wp_iln2, wp_iln3, wp_inc3, wp_iret, wp_isn2, wp_isn3, wp_izne, wp_nop, wp_zret, qsc_kd, qsc_k1, qsc_l1, qsc_gf1, qsc_k2, qsc_l2, qsc_gf2, qsc_k3, qsc_l3, qsc_gf3, qsc_k4, qsc_l4, qsc_gf4, qsc_k5, qsc_l5, qsc_gf6, qsc_k6, qsc_l6, qsc_gf7, qsc_k7, qsc_l7, qsc_gf9, qsc_k8, qsc_l8, qsc_gf10, qsc_gf0, qsc_pf0, qsc_gf5, qsc_pf5, qsc_gf8, qsc_pf8, qst_kd, qst_gf0, qst_k10, qst_l10, qst_gf1, qst_k29, qst_l29, qst_gf2, qlf_kd, qlf_gf0, qlf_k31, qlf_l31, qlf_gf1, qlf_gf3, qlf_gf4, qlf_gf5, qlf_gf6, qlf_k203, qlf_l203, qlf_gf7, qlf_gf2, qlf_pf2, qlf_gf8, qlf_pf8, wrI_row, cpI_row, row_s, row_n, row_ss, row_sw, upd_s, upd_n, ad_inj, ad_z, ad_z2, Nat.reduceEqDiff, reduceCtorEq, List.cons_append, List.nil_append, Option.toList_some, Option.toList_none, Int.toNat_natCast, List.length_cons, List.length_nil, Int.cast_ofNat_Int, Nat.reduceAdd, Nat.reduceLeDiff, Nat.reduceLT, Nat.reduceMul, Int.reduceAdd, Int.reduceSub, Int.reduceMul, Int.reduceNeg, Int.reduceLT, Int.reduceLE, Int.reduceEq, Int.reduceToNat, eq_self, true_and, and_true, true_or, or_true, false_or, or_false, if_true, if_false, not_true_eq_false, not_false_eq_true, and_self, ne_eq, b_L_drawnSum_12, hLf, hN1, hS, e8, r10, hm1]
      (repeat' (first | apply And.intro | split)) <;> first | omega | exact q
    · rw [if_neg e] at hs
      have en : nn (-99) (X.1.1 10 f) = X.1.1 10 f := if_neg e
      rw [en] at r10
      have hm1 := hasMouth_ok (zt := zt) (ρ := ρ) hS hWV (m := X.1.1 10 f) (by omega) (by omega)
      rw [e0, b2_t (by omega)] at hm1
      have hka := kindAt_ok (zt := zt) (ρ := ρ) hS hWV (f := f) (by omega) (by omega)
      rw [hR.knd hU (by omega)] at hka
      have hkb := kndV_lt hU (f := f) (by omega)
      have hwr := wrongOf_ok (zt := zt) (ρ := ρ) hS hWV (kd := kndV X.1.1 f) (m := X.1.1 10 f) hkb.1 hkb.2 (by omega) (by rw [e0]; omega)
      have hwb := wrgV_b hWV hkb.1 hkb.2 (m := (X.1.1 10 f).toNat) (by omega)
      rw [hR.wrg hkb.1 hkb.2 (by omega)] at hwr hwb
      have i1 := ih (f + 1) (t + wrgV X.1.1 (kndV X.1.1 f) (X.1.1 10 f).toNat) (by omega) (by omega) hs
      rw [P_L_drawnSum_12]
      simp only [m_L_drawnSum, b_L_drawnSum_0, P_L_drawnSum_36, b_L_drawnSum_36, P_L_drawnSum_60, b_L_drawnSum_60, wp_aln0, wp_aln1, wp_asn1, wp_bipush, wp_cv1, wp_cv2, wp_cv3, wp_cv4, wp_cv5, wp_cv6, wp_cv7, wp_goto, wp_iadd, wp_iald, wp_icge, wp_iconst, wp_iln2, wp_iln3, wp_inc3, wp_iret, wp_isn2, wp_isn3, wp_izne, wp_nop, wp_zret, qsc_kd, qsc_k1, qsc_l1, qsc_gf1, qsc_k2, qsc_l2, qsc_gf2, qsc_k3, qsc_l3, qsc_gf3, qsc_k4, qsc_l4, qsc_gf4, qsc_k5, qsc_l5, qsc_gf6, qsc_k6, qsc_l6, qsc_gf7, qsc_k7, qsc_l7, qsc_gf9, qsc_k8, qsc_l8, qsc_gf10, qsc_gf0, qsc_pf0, qsc_gf5, qsc_pf5, qsc_gf8, qsc_pf8, qst_kd, qst_gf0, qst_k10, qst_l10, qst_gf1, qst_k29, qst_l29, qst_gf2, qlf_kd, qlf_gf0, qlf_k31, qlf_l31, qlf_gf1, qlf_gf3, qlf_gf4, qlf_gf5, qlf_gf6, qlf_k203, qlf_l203, qlf_gf7, qlf_gf2, qlf_pf2, qlf_gf8, qlf_pf8, wrI_row, cpI_row, row_s, row_n, row_ss, row_sw, upd_s, upd_n, ad_inj, ad_z, ad_z2, Nat.reduceEqDiff, reduceCtorEq, List.cons_append, List.nil_append, Option.toList_some, Option.toList_none, Int.toNat_natCast, List.length_cons, List.length_nil, Int.cast_ofNat_Int, Nat.reduceAdd, Nat.reduceLeDiff, Nat.reduceLT, Nat.reduceMul, Int.reduceAdd, Int.reduceSub, Int.reduceMul, Int.reduceNeg, Int.reduceLT, Int.reduceLE, Int.reduceEq, Int.reduceToNat, eq_self, true_and, and_true, true_or, or_true, false_or, or_false, if_true, if_false, not_true_eq_false, not_false_eq_true, and_self, ne_eq, b_L_drawnSum_12, hLf, hN1, hS, e8, r10, hm1, hka, hwr]
      (repeat' (first | apply And.intro | split)) <;> first | omega | exact i1
theorem c_drawnSum (hX : RepC g ρ L h X) (hW : WFX X) (hQ : CQ g ρ L (sDrawnSum X, X) Q) : WpM zt 78 [AR L] (g, ρ) Q := by
  obtain ⟨hLf, hN, -⟩ := id hX.1
  obtain ⟨hR, -⟩ := id hX.2.1
  have hU := hW.1.1
  have hWV := hR.wf (by omega) hU
  have hN1 := hN.1
  have hS := hN.2.1
  have e0 : g (ad (ad L 1) 1) 0 = X.1.1 0 0 := hR.l0
  have e5 : g (ad (ad L 1) 1) 5 = X.1.1 5 0 := hR.l5
  have e8 : g (ad (ad L 1) 1) 8 = X.1.1 8 0 := hR.l8
  have b0 := hU.1
  have b5 := hU.2.2.2.2.1
  have b8 := hU.2.2.2.2.2.2.1
  have k1 := drawnSum_loop (zt := zt) hX hW hQ (X.1.1 8 0).toNat 0 0 (by omega) (by omega) rfl
  simp only [m_L_drawnSum, b_L_drawnSum_0, P_L_drawnSum_36, b_L_drawnSum_36, P_L_drawnSum_60, b_L_drawnSum_60, wp_aln0, wp_aln1, wp_asn1, wp_bipush, wp_cv1, wp_cv2, wp_cv3, wp_cv4, wp_cv5, wp_cv6, wp_cv7, wp_goto, wp_iadd, wp_iald, wp_icge, wp_iconst, wp_iln2, wp_iln3, wp_inc3, wp_iret, wp_isn2, wp_isn3, wp_izne, wp_nop, wp_zret, qsc_kd, qsc_k1, qsc_l1, qsc_gf1, qsc_k2, qsc_l2, qsc_gf2, qsc_k3, qsc_l3, qsc_gf3, qsc_k4, qsc_l4, qsc_gf4, qsc_k5, qsc_l5, qsc_gf6, qsc_k6, qsc_l6, qsc_gf7, qsc_k7, qsc_l7, qsc_gf9, qsc_k8, qsc_l8, qsc_gf10, qsc_gf0, qsc_pf0, qsc_gf5, qsc_pf5, qsc_gf8, qsc_pf8, qst_kd, qst_gf0, qst_k10, qst_l10, qst_gf1, qst_k29, qst_l29, qst_gf2, qlf_kd, qlf_gf0, qlf_k31, qlf_l31, qlf_gf1, qlf_gf3, qlf_gf4, qlf_gf5, qlf_gf6, qlf_k203, qlf_l203, qlf_gf7, qlf_gf2, qlf_pf2, qlf_gf8, qlf_pf8, wrI_row, cpI_row, row_s, row_n, row_ss, row_sw, upd_s, upd_n, ad_inj, ad_z, ad_z2, Nat.reduceEqDiff, reduceCtorEq, List.cons_append, List.nil_append, Option.toList_some, Option.toList_none, Int.toNat_natCast, List.length_cons, List.length_nil, Int.cast_ofNat_Int, Nat.reduceAdd, Nat.reduceLeDiff, Nat.reduceLT, Nat.reduceMul, Int.reduceAdd, Int.reduceSub, Int.reduceMul, Int.reduceNeg, Int.reduceLT, Int.reduceLE, Int.reduceEq, Int.reduceToNat, eq_self, true_and, and_true, true_or, or_true, false_or, or_false, if_true, if_false, not_true_eq_false, not_false_eq_true, and_self, ne_eq, hLf, hN1, hS]
  exact k1
end CNT
