/-! speedFor, frame, why, finish of the reference -/
section MLL
variable {zt : Nat → Nat} {g : Nat → Nat → Int} {ρ : Ri} {M : Nat} {X : XV} {Q : Option AV → Sto → Prop}
theorem lsU_b {U : Vw} (hU : WFV (-1) U) (s : Int) : -99 ≤ lsU U s ∧ lsU U s < 1000000 := lstV_b (F := pF U) (M := pM U) (h := pH U) (c := cstV (-1) U) (cl := clsV U s) (fun f m => (cstU_b hU f m).1)
theorem speedFor_loopM (hX : RepM g ρ M X) (hW : WFX X) {t v : Int} (ht : 0 ≤ t ∧ t ≤ 99999) (hQ : MdQ g ρ M (v, X) Q) :
    ∀ (d s : Nat) (g1 : Nat → Nat → Int) (o3 : Option AV), s + d = 10 → 1 ≤ s → spF X.1.1 t d s = v → plE g M g1 → Wp zt 161 (P 161 14) [some (AR M), some (AI t), some (AI s), o3] [] (g1, ρ) Q := by
  have hM := hX.1
  have hU := hW.1.1
  intro d
  induction d with
  | zero =>
    intro s g1 o3 hs hs1 hv hE
    have q := hQ g1 (hE.rep hX) (fun x z => hE.fr x z)
    rw [← hv] at q
    have e : (9 : Int) < (s : Int) := by omega
    rw [P_M_speedFor_14]
    simp only [m_M_speedFor, b_M_speedFor_0, P_M_speedFor_12, b_M_speedFor_12, P_M_speedFor_43, b_M_speedFor_43, P_M_speedFor_49, b_M_speedFor_49, wp_abs, wp_aln0, wp_bipush, wp_copy, wp_cs1, wp_cs2, wp_cs3, wp_cs4, wp_cs5, wp_cs6, wp_cs7, wp_cv1, wp_cv2, wp_cv3, wp_cv4, wp_cv5, wp_cv6, wp_cv7, wp_goto, wp_iceq, wp_icgt, wp_iconst, wp_iln1, wp_iln2, wp_iln3, wp_inc2, wp_iret, wp_isn2, wp_isn3, wp_izne, wp_ldc, wp_max, wp_min, wp_nop, wp_zret, qmd_kd, qmd_k1, qmd_l1, qmd_gf0, qmd_k2, qmd_l2, qmd_gf1, qmd_k3, qmd_l3, qmd_gf2, qmd_k4, qmd_l4, qmd_gf4, qmd_k5, qmd_l5, qmd_gf6, qmd_k6, qmd_l6, qmd_gf7, qmd_k7, qmd_l7, qmd_gf10, qmd_k8, qmd_l8, qmd_gf11, qmd_k9, qmd_l9, qmd_gf12, qmd_gf3, qmd_pf3, qmd_gf5, qmd_pf5, qmd_gf8, qmd_pf8, qmd_gf9, qmd_pf9, wrI_row, cpI_row, row_s, row_n, row_ss, row_sw, upd_s, upd_n, ad_inj, ad_z, ad_z2, Nat.reduceEqDiff, reduceCtorEq, List.cons_append, List.nil_append, Option.toList_some, Option.toList_none, Int.toNat_natCast, List.length_cons, List.length_nil, Int.cast_ofNat_Int, Nat.reduceAdd, Nat.reduceLeDiff, Nat.reduceLT, Nat.reduceMul, Int.reduceAdd, Int.reduceSub, Int.reduceMul, Int.reduceNeg, Int.reduceLT, Int.reduceLE, Int.reduceEq, Int.reduceToNat, eq_self, true_and, and_true, true_or, or_true, false_or, or_false, if_true, if_false, not_true_eq_false, not_false_eq_true, and_self, ne_eq, b_M_speedFor_14, hM, e]
    (repeat' (first | apply And.intro | split)) <;> first | omega | exact q
  | succ d ih =>
    intro s g1 o3 hs hs1 hv hE
    have e : ¬ (9 : Int) < (s : Int) := by omega
    simp only [spF] at hv
    have lb := lsU_b hU (s : Int)
    rw [P_M_speedFor_14]
    simp only [m_M_speedFor, b_M_speedFor_0, P_M_speedFor_12, b_M_speedFor_12, P_M_speedFor_49, b_M_speedFor_49, wp_abs, wp_aln0, wp_bipush, wp_copy, wp_cs1, wp_cs2, wp_cs3, wp_cs4, wp_cs5, wp_cs6, wp_cs7, wp_cv1, wp_cv2, wp_cv3, wp_cv4, wp_cv5, wp_cv6, wp_cv7, wp_goto, wp_iceq, wp_icgt, wp_iconst, wp_iln1, wp_iln2, wp_iln3, wp_inc2, wp_iret, wp_isn2, wp_isn3, wp_izne, wp_ldc, wp_max, wp_min, wp_nop, wp_zret, qmd_kd, qmd_k1, qmd_l1, qmd_gf0, qmd_k2, qmd_l2, qmd_gf1, qmd_k3, qmd_l3, qmd_gf2, qmd_k4, qmd_l4, qmd_gf4, qmd_k5, qmd_l5, qmd_gf6, qmd_k6, qmd_l6, qmd_gf7, qmd_k7, qmd_l7, qmd_gf10, qmd_k8, qmd_l8, qmd_gf11, qmd_k9, qmd_l9, qmd_gf12, qmd_gf3, qmd_pf3, qmd_gf5, qmd_pf5, qmd_gf8, qmd_pf8, qmd_gf9, qmd_pf9, wrI_row, cpI_row, row_s, row_n, row_ss, row_sw, upd_s, upd_n, ad_inj, ad_z, ad_z2, Nat.reduceEqDiff, reduceCtorEq, List.cons_append, List.nil_append, Option.toList_some, Option.toList_none, Int.toNat_natCast, List.length_cons, List.length_nil, Int.cast_ofNat_Int, Nat.reduceAdd, Nat.reduceLeDiff, Nat.reduceLT, Nat.reduceMul, Int.reduceAdd, Int.reduceSub, Int.reduceMul, Int.reduceNeg, Int.reduceLT, Int.reduceLE, Int.reduceEq, Int.reduceToNat, eq_self, true_and, and_true, true_or, or_true, false_or, or_false, if_true, if_false, not_true_eq_false, not_false_eq_true, and_self, ne_eq, b_M_speedFor_14, hM, e]
    (repeat' (first | apply And.intro | split)) <;> first | omega | skip
    refine find_u (hE.rep hX) hW (sp := (s : Int)) (by omega) (fun g2 y1 y2 y3 => ?_)
    have hE2 : plE g M g2 := fun x z1 z2 z3 => (y1 x z1 z2 z3).trans (hE x z1 z2 z3)
    by_cases c1 : lsU X.1.1 s ≠ -99 ∧ lsU X.1.1 s ≤ t
    · rw [if_pos c1] at hv
      have q := hQ g2 (hE2.rep hX) (fun x z => hE2.fr x z)
      rw [← hv] at q
      simp only [m_M_speedFor, b_M_speedFor_0, P_M_speedFor_12, b_M_speedFor_12, P_M_speedFor_49, b_M_speedFor_49, wp_abs, wp_aln0, wp_bipush, wp_copy, wp_cs1, wp_cs2, wp_cs3, wp_cs4, wp_cs5, wp_cs6, wp_cs7, wp_cv1, wp_cv2, wp_cv3, wp_cv4, wp_cv5, wp_cv6, wp_cv7, wp_goto, wp_iceq, wp_icgt, wp_iconst, wp_iln1, wp_iln2, wp_iln3, wp_inc2, wp_iret, wp_isn2, wp_isn3, wp_izne, wp_ldc, wp_max, wp_min, wp_nop, wp_zret, qmd_kd, qmd_k1, qmd_l1, qmd_gf0, qmd_k2, qmd_l2, qmd_gf1, qmd_k3, qmd_l3, qmd_gf2, qmd_k4, qmd_l4, qmd_gf4, qmd_k5, qmd_l5, qmd_gf6, qmd_k6, qmd_l6, qmd_gf7, qmd_k7, qmd_l7, qmd_gf10, qmd_k8, qmd_l8, qmd_gf11, qmd_k9, qmd_l9, qmd_gf12, qmd_gf3, qmd_pf3, qmd_gf5, qmd_pf5, qmd_gf8, qmd_pf8, qmd_gf9, qmd_pf9, wrI_row, cpI_row, row_s, row_n, row_ss, row_sw, upd_s, upd_n, ad_inj, ad_z, ad_z2, Nat.reduceEqDiff, reduceCtorEq, List.cons_append, List.nil_append, Option.toList_some, Option.toList_none, Int.toNat_natCast, List.length_cons, List.length_nil, Int.cast_ofNat_Int, Nat.reduceAdd, Nat.reduceLeDiff, Nat.reduceLT, Nat.reduceMul, Int.reduceAdd, Int.reduceSub, Int.reduceMul, Int.reduceNeg, Int.reduceLT, Int.reduceLE, Int.reduceEq, Int.reduceToNat, eq_self, true_and, and_true, true_or, or_true, false_or, or_false, if_true, if_false, not_true_eq_false, not_false_eq_true, and_self, ne_eq, hM]
      (repeat' (first | apply And.intro | split)) <;> first | omega | exact q
    · rw [if_neg c1] at hv
      have i1 := ih (s + 1) g2 (some (AI (lsU X.1.1 s))) (by omega) (by omega) hv hE2
      have k43 : Wp zt 161 (P 161 43) [some (AR M), some (AI t), some (AI s), some (AI (lsU X.1.1 s))] [] (g2, ρ) Q := by
        rw [P_M_speedFor_43]
        simp only [m_M_speedFor, b_M_speedFor_0, P_M_speedFor_12, b_M_speedFor_12, P_M_speedFor_49, b_M_speedFor_49, wp_abs, wp_aln0, wp_bipush, wp_copy, wp_cs1, wp_cs2, wp_cs3, wp_cs4, wp_cs5, wp_cs6, wp_cs7, wp_cv1, wp_cv2, wp_cv3, wp_cv4, wp_cv5, wp_cv6, wp_cv7, wp_goto, wp_iceq, wp_icgt, wp_iconst, wp_iln1, wp_iln2, wp_iln3, wp_inc2, wp_iret, wp_isn2, wp_isn3, wp_izne, wp_ldc, wp_max, wp_min, wp_nop, wp_zret, qmd_kd, qmd_k1, qmd_l1, qmd_gf0, qmd_k2, qmd_l2, qmd_gf1, qmd_k3, qmd_l3, qmd_gf2, qmd_k4, qmd_l4, qmd_gf4, qmd_k5, qmd_l5, qmd_gf6, qmd_k6, qmd_l6, qmd_gf7, qmd_k7, qmd_l7, qmd_gf10, qmd_k8, qmd_l8, qmd_gf11, qmd_k9, qmd_l9, qmd_gf12, qmd_gf3, qmd_pf3, qmd_gf5, qmd_pf5, qmd_gf8, qmd_pf8, qmd_gf9, qmd_pf9, wrI_row, cpI_row, row_s, row_n, row_ss, row_sw, upd_s, upd_n, ad_inj, ad_z, ad_z2, Nat.reduceEqDiff, reduceCtorEq, List.cons_append, List.nil_append, Option.toList_some, Option.toList_none, Int.toNat_natCast, List.length_cons, List.length_nil, Int.cast_ofNat_Int, Nat.reduceAdd, Nat.reduceLeDiff, Nat.reduceLT, Nat.reduceMul, Int.reduceAdd, Int.reduceSub, Int.reduceMul, Int.reduceNeg, Int.reduceLT, Int.reduceLE, Int.reduceEq, Int.reduceToNat, eq_self, true_and, and_true, true_or, or_true, false_or, or_false, if_true, if_false, not_true_eq_false, not_false_eq_true, and_self, ne_eq, b_M_speedFor_43, hM]
        exact i1
      simp only [m_M_speedFor, b_M_speedFor_0, P_M_speedFor_12, b_M_speedFor_12, P_M_speedFor_49, b_M_speedFor_49, wp_abs, wp_aln0, wp_bipush, wp_copy, wp_cs1, wp_cs2, wp_cs3, wp_cs4, wp_cs5, wp_cs6, wp_cs7, wp_cv1, wp_cv2, wp_cv3, wp_cv4, wp_cv5, wp_cv6, wp_cv7, wp_goto, wp_iceq, wp_icgt, wp_iconst, wp_iln1, wp_iln2, wp_iln3, wp_inc2, wp_iret, wp_isn2, wp_isn3, wp_izne, wp_ldc, wp_max, wp_min, wp_nop, wp_zret, qmd_kd, qmd_k1, qmd_l1, qmd_gf0, qmd_k2, qmd_l2, qmd_gf1, qmd_k3, qmd_l3, qmd_gf2, qmd_k4, qmd_l4, qmd_gf4, qmd_k5, qmd_l5, qmd_gf6, qmd_k6, qmd_l6, qmd_gf7, qmd_k7, qmd_l7, qmd_gf10, qmd_k8, qmd_l8, qmd_gf11, qmd_k9, qmd_l9, qmd_gf12, qmd_gf3, qmd_pf3, qmd_gf5, qmd_pf5, qmd_gf8, qmd_pf8, qmd_gf9, qmd_pf9, wrI_row, cpI_row, row_s, row_n, row_ss, row_sw, upd_s, upd_n, ad_inj, ad_z, ad_z2, Nat.reduceEqDiff, reduceCtorEq, List.cons_append, List.nil_append, Option.toList_some, Option.toList_none, Int.toNat_natCast, List.length_cons, List.length_nil, Int.cast_ofNat_Int, Nat.reduceAdd, Nat.reduceLeDiff, Nat.reduceLT, Nat.reduceMul, Int.reduceAdd, Int.reduceSub, Int.reduceMul, Int.reduceNeg, Int.reduceLT, Int.reduceLE, Int.reduceEq, Int.reduceToNat, eq_self, true_and, and_true, true_or, or_true, false_or, or_false, if_true, if_false, not_true_eq_false, not_false_eq_true, and_self, ne_eq, hM]
      (repeat' (first | apply And.intro | split)) <;> first | omega | exact k43
theorem d_speedFor (hX : RepM g ρ M X) (hW : WFX X) {t : Int} (ht : i32 t) (hQ : MdQ g ρ M (sSpeedFor t X, X) Q) : WpM zt 161 [AR M, AI t] (g, ρ) Q := by
  obtain ⟨hM, hS, -⟩ := id hX
  have hR := hS.1
  have hU := hW.1.1
  have e0 := m_0 hR
  have e5 := m_5 hR
  have b0 := hU.1
  have b5 := hU.2.2.2.2.1
  have b8 := hU.2.2.2.2.2.2.1
  unfold sSpeedFor at hQ
  by_cases c : 0 ≤ t ∧ t ≤ 99999
  · rw [if_pos c] at hQ
    have ho := fun Q => in_t (zt := zt) (g := g) (ρ := ρ) (lo := 0) (hi := 99999) (by omega) (by omega) c Q
    have k1 := speedFor_loopM (zt := zt) hX hW c hQ 9 1 g none (by omega) (by omega) rfl (fun _ _ _ _ => rfl)
    simp only [m_M_speedFor, b_M_speedFor_0, P_M_speedFor_12, b_M_speedFor_12, P_M_speedFor_43, b_M_speedFor_43, P_M_speedFor_49, b_M_speedFor_49, wp_abs, wp_aln0, wp_bipush, wp_copy, wp_cs1, wp_cs2, wp_cs3, wp_cs4, wp_cs5, wp_cs6, wp_cs7, wp_cv1, wp_cv2, wp_cv3, wp_cv4, wp_cv5, wp_cv6, wp_cv7, wp_goto, wp_iceq, wp_icgt, wp_iconst, wp_iln1, wp_iln2, wp_iln3, wp_inc2, wp_iret, wp_isn2, wp_isn3, wp_izne, wp_ldc, wp_max, wp_min, wp_nop, wp_zret, qmd_kd, qmd_k1, qmd_l1, qmd_gf0, qmd_k2, qmd_l2, qmd_gf1, qmd_k3, qmd_l3, qmd_gf2, qmd_k4, qmd_l4, qmd_gf4, qmd_k5, qmd_l5, qmd_gf6, qmd_k6, qmd_l6, qmd_gf7, qmd_k7, qmd_l7, qmd_gf10, qmd_k8, qmd_l8, qmd_gf11, qmd_k9, qmd_l9, qmd_gf12, qmd_gf3, qmd_pf3, qmd_gf5, qmd_pf5, qmd_gf8, qmd_pf8, qmd_gf9, qmd_pf9, wrI_row, cpI_row, row_s, row_n, row_ss, row_sw, upd_s, upd_n, ad_inj, ad_z, ad_z2, Nat.reduceEqDiff, reduceCtorEq, List.cons_append, List.nil_append, Option.toList_some, Option.toList_none, Int.toNat_natCast, List.length_cons, List.length_nil, Int.cast_ofNat_Int, Nat.reduceAdd, Nat.reduceLeDiff, Nat.reduceLT, Nat.reduceMul, Int.reduceAdd, Int.reduceSub, Int.reduceMul, Int.reduceNeg, Int.reduceLT, Int.reduceLE, Int.reduceEq, Int.reduceToNat, eq_self, true_and, and_true, true_or, or_true, false_or, or_false, if_true, if_false, not_true_eq_false, not_false_eq_true, and_self, ne_eq, hM, ho]
    exact k1
  · rw [if_neg c] at hQ
    have q := hQ.ro hX
    have ho := fun Q => in_f (zt := zt) (g := g) (ρ := ρ) (lo := 0) (hi := 99999) ht (by omega) (by omega) c Q
    simp only [m_M_speedFor, b_M_speedFor_0, P_M_speedFor_12, b_M_speedFor_12, P_M_speedFor_43, b_M_speedFor_43, P_M_speedFor_49, b_M_speedFor_49, wp_abs, wp_aln0, wp_bipush, wp_copy, wp_cs1, wp_cs2, wp_cs3, wp_cs4, wp_cs5, wp_cs6, wp_cs7, wp_cv1, wp_cv2, wp_cv3, wp_cv4, wp_cv5, wp_cv6, wp_cv7, wp_goto, wp_iceq, wp_icgt, wp_iconst, wp_iln1, wp_iln2, wp_iln3, wp_inc2, wp_iret, wp_isn2, wp_isn3, wp_izne, wp_ldc, wp_max, wp_min, wp_nop, wp_zret, qmd_kd, qmd_k1, qmd_l1, qmd_gf0, qmd_k2, qmd_l2, qmd_gf1, qmd_k3, qmd_l3, qmd_gf2, qmd_k4, qmd_l4, qmd_gf4, qmd_k5, qmd_l5, qmd_gf6, qmd_k6, qmd_l6, qmd_gf7, qmd_k7, qmd_l7, qmd_gf10, qmd_k8, qmd_l8, qmd_gf11, qmd_k9, qmd_l9, qmd_gf12, qmd_gf3, qmd_pf3, qmd_gf5, qmd_pf5, qmd_gf8, qmd_pf8, qmd_gf9, qmd_pf9, wrI_row, cpI_row, row_s, row_n, row_ss, row_sw, upd_s, upd_n, ad_inj, ad_z, ad_z2, Nat.reduceEqDiff, reduceCtorEq, List.cons_append, List.nil_append, Option.toList_some, Option.toList_none, Int.toNat_natCast, List.length_cons, List.length_nil, Int.cast_ofNat_Int, Nat.reduceAdd, Nat.reduceLeDiff, Nat.reduceLT, Nat.reduceMul, Int.reduceAdd, Int.reduceSub, Int.reduceMul, Int.reduceNeg, Int.reduceLT, Int.reduceLE, Int.reduceEq, Int.reduceToNat, eq_self, true_and, and_true, true_or, or_true, false_or, or_false, if_true, if_false, not_true_eq_false, not_false_eq_true, and_self, ne_eq, hM, ho]
    (repeat' (first | apply And.intro | split)) <;> first | omega | exact q
theorem d_frame (hX : RepM g ρ M X) (hW : WFX X) {f w : Int} (hf : i32 f) (hw : i32 w) (hQ : MdQ g ρ M (sFrame f w X, X) Q) : WpM zt 153 [AR M, AI f, AI w] (g, ρ) Q := by
  obtain ⟨hM, hS, -⟩ := id hX
  have hR := hS.1
  have hU := hW.1.1
  have e0 := m_0 hR
  have e5 := m_5 hR
  have b0 := hU.1
  have b5 := hU.2.2.2.2.1
  have b8 := hU.2.2.2.2.2.2.1
  have b4 := hU.2.2.2.1
  unfold sFrame at hQ
  have h1 := isFrame_ok (zt := zt) hM hR hU hf
  by_cases c1' : ¬ (0 ≤ f ∧ f < X.1.1 8 0)
  · rw [b2_f c1'] at h1
    rw [if_neg c1'] at hQ
    have q := hQ.ro hX
    simp only [m_M_frame, b_M_frame_0, P_M_frame_18, b_M_frame_18, P_M_frame_20, b_M_frame_20, P_M_frame_60, b_M_frame_60, P_M_frame_66, b_M_frame_66, P_M_frame_76, b_M_frame_76, P_M_frame_89, b_M_frame_89, P_M_frame_103, b_M_frame_103, P_M_frame_110, b_M_frame_110, P_M_frame_133, b_M_frame_133, P_M_frame_139, b_M_frame_139, wp_abs, wp_aln0, wp_bipush, wp_copy, wp_cs1, wp_cs2, wp_cs3, wp_cs4, wp_cs5, wp_cs6, wp_cs7, wp_cv1, wp_cv2, wp_cv3, wp_cv4, wp_cv5, wp_cv6, wp_cv7, wp_goto, wp_iadd, wp_iald, wp_icne, wp_iconst, wp_iln1, wp_iln2, wp_iret, wp_izeq, wp_izne, wp_max, wp_min, wp_nop, wp_sipush, wp_zret, qmd_kd, qmd_k1, qmd_l1, qmd_gf0, qmd_k2, qmd_l2, qmd_gf1, qmd_k3, qmd_l3, qmd_gf2, qmd_k4, qmd_l4, qmd_gf4, qmd_k5, qmd_l5, qmd_gf6, qmd_k6, qmd_l6, qmd_gf7, qmd_k7, qmd_l7, qmd_gf10, qmd_k8, qmd_l8, qmd_gf11, qmd_k9, qmd_l9, qmd_gf12, qmd_gf3, qmd_pf3, qmd_gf5, qmd_pf5, qmd_gf8, qmd_pf8, qmd_gf9, qmd_pf9, wrI_row, cpI_row, row_s, row_n, row_ss, row_sw, upd_s, upd_n, ad_inj, ad_z, ad_z2, Nat.reduceEqDiff, reduceCtorEq, List.cons_append, List.nil_append, Option.toList_some, Option.toList_none, Int.toNat_natCast, List.length_cons, List.length_nil, Int.cast_ofNat_Int, Nat.reduceAdd, Nat.reduceLeDiff, Nat.reduceLT, Nat.reduceMul, Int.reduceAdd, Int.reduceSub, Int.reduceMul, Int.reduceNeg, Int.reduceLT, Int.reduceLE, Int.reduceEq, Int.reduceToNat, eq_self, true_and, and_true, true_or, or_true, false_or, or_false, if_true, if_false, not_true_eq_false, not_false_eq_true, and_self, ne_eq, hM, h1]
    (repeat' (first | apply And.intro | split)) <;> first | omega | exact q
  have c1 := Classical.not_not.1 c1'
  rw [b2_t c1] at h1
  rw [if_pos c1] at hQ
  obtain ⟨F, rfl⟩ := Int.eq_ofNat_of_zero_le c1.1
  rw [Int.toNat_natCast] at hQ
  by_cases c2 : 0 ≤ w ∧ w ≤ 6
  · have sg := segmentOf_ok (zt := zt) hM hR hU c1
    have sl := segV_lt hU (f := F) c1.2
    have hk := kindOf_okM (zt := zt) hM hR hU sl.1 sl.2
    change ∀ Q, WpM zt _ _ _ Q ↔ Q (some (AI (kndV X.1.1 F))) _ at hk
    have r9 := (p_9 hR hU (j := F) c1.2).1
    have r10 := (p_9 hR hU (j := F) c1.2).2
    have bd := hU.2.2.2.2.2.2.2.2 F c1.2
    have i9 : (119 + (F : Int)).toNat = 119 + F := by omega
    have i10 : (218 + (F : Int)).toNat = 218 + F := by omega
    have en : ∀ v : Int, (v = -1 ∨ (0 ≤ v ∧ v < X.1.1 0 0)) → (if v < 0 then (-99 : Int) else v) = nn (-99) v := fun v hv => by
      unfold nn
      by_cases e : v = -1
      · rw [if_pos (by omega), if_pos e]
      · rw [if_neg (by omega), if_neg e]
    have on9 := orNone_ok (zt := zt) (g := g) (ρ := ρ) (v := X.1.1 9 F) (by unfold i32; omega)
    have on10 := orNone_ok (zt := zt) (g := g) (ρ := ρ) (v := X.1.1 10 F) (by unfold i32; omega)
    rw [en _ bd.1] at on9
    rw [en _ bd.2] at on10
    rcases (by omega : w = 0 ∨ w = 1 ∨ w = 2 ∨ w = 3 ∨ w = 4 ∨ w = 5 ∨ w = 6) with rfl | rfl | rfl | rfl | rfl | rfl | rfl
    · have ho := fun Q => in_t (zt := zt) (g := g) (ρ := ρ) (v := 0) (lo := 0) (hi := 6) (by omega) (by omega) (by omega) Q
      have q := hQ.ro hX
      rw [if_pos rfl] at q
      simp only [m_M_frame, b_M_frame_0, P_M_frame_18, b_M_frame_18, P_M_frame_20, b_M_frame_20, P_M_frame_60, b_M_frame_60, P_M_frame_66, b_M_frame_66, P_M_frame_76, b_M_frame_76, P_M_frame_89, b_M_frame_89, P_M_frame_103, b_M_frame_103, P_M_frame_110, b_M_frame_110, P_M_frame_133, b_M_frame_133, P_M_frame_139, b_M_frame_139, wp_abs, wp_aln0, wp_bipush, wp_copy, wp_cs1, wp_cs2, wp_cs3, wp_cs4, wp_cs5, wp_cs6, wp_cs7, wp_cv1, wp_cv2, wp_cv3, wp_cv4, wp_cv5, wp_cv6, wp_cv7, wp_goto, wp_iadd, wp_iald, wp_icne, wp_iconst, wp_iln1, wp_iln2, wp_iret, wp_izeq, wp_izne, wp_max, wp_min, wp_nop, wp_sipush, wp_zret, qmd_kd, qmd_k1, qmd_l1, qmd_gf0, qmd_k2, qmd_l2, qmd_gf1, qmd_k3, qmd_l3, qmd_gf2, qmd_k4, qmd_l4, qmd_gf4, qmd_k5, qmd_l5, qmd_gf6, qmd_k6, qmd_l6, qmd_gf7, qmd_k7, qmd_l7, qmd_gf10, qmd_k8, qmd_l8, qmd_gf11, qmd_k9, qmd_l9, qmd_gf12, qmd_gf3, qmd_pf3, qmd_gf5, qmd_pf5, qmd_gf8, qmd_pf8, qmd_gf9, qmd_pf9, wrI_row, cpI_row, row_s, row_n, row_ss, row_sw, upd_s, upd_n, ad_inj, ad_z, ad_z2, Nat.reduceEqDiff, reduceCtorEq, List.cons_append, List.nil_append, Option.toList_some, Option.toList_none, Int.toNat_natCast, List.length_cons, List.length_nil, Int.cast_ofNat_Int, Nat.reduceAdd, Nat.reduceLeDiff, Nat.reduceLT, Nat.reduceMul, Int.reduceAdd, Int.reduceSub, Int.reduceMul, Int.reduceNeg, Int.reduceLT, Int.reduceLE, Int.reduceEq, Int.reduceToNat, eq_self, true_and, and_true, true_or, or_true, false_or, or_false, if_true, if_false, not_true_eq_false, not_false_eq_true, and_self, ne_eq, hM, h1, ho, sg, wp_tsw_i (v := 0) (lo := 0) (hi := 5) (t := 60) (ts := [60, 66, 76, 89, 103, 103]) (by omega) (rng_32 (by unfold i32; omega)) rfl]
      (repeat' (first | apply And.intro | split)) <;> first | omega | exact q
    · have ho := fun Q => in_t (zt := zt) (g := g) (ρ := ρ) (v := 1) (lo := 0) (hi := 6) (by omega) (by omega) (by omega) Q
      have q := hQ.ro hX
      rw [if_neg (by omega), if_pos rfl] at q
      simp only [m_M_frame, b_M_frame_0, P_M_frame_18, b_M_frame_18, P_M_frame_20, b_M_frame_20, P_M_frame_60, b_M_frame_60, P_M_frame_66, b_M_frame_66, P_M_frame_76, b_M_frame_76, P_M_frame_89, b_M_frame_89, P_M_frame_103, b_M_frame_103, P_M_frame_110, b_M_frame_110, P_M_frame_133, b_M_frame_133, P_M_frame_139, b_M_frame_139, wp_abs, wp_aln0, wp_bipush, wp_copy, wp_cs1, wp_cs2, wp_cs3, wp_cs4, wp_cs5, wp_cs6, wp_cs7, wp_cv1, wp_cv2, wp_cv3, wp_cv4, wp_cv5, wp_cv6, wp_cv7, wp_goto, wp_iadd, wp_iald, wp_icne, wp_iconst, wp_iln1, wp_iln2, wp_iret, wp_izeq, wp_izne, wp_max, wp_min, wp_nop, wp_sipush, wp_zret, qmd_kd, qmd_k1, qmd_l1, qmd_gf0, qmd_k2, qmd_l2, qmd_gf1, qmd_k3, qmd_l3, qmd_gf2, qmd_k4, qmd_l4, qmd_gf4, qmd_k5, qmd_l5, qmd_gf6, qmd_k6, qmd_l6, qmd_gf7, qmd_k7, qmd_l7, qmd_gf10, qmd_k8, qmd_l8, qmd_gf11, qmd_k9, qmd_l9, qmd_gf12, qmd_gf3, qmd_pf3, qmd_gf5, qmd_pf5, qmd_gf8, qmd_pf8, qmd_gf9, qmd_pf9, wrI_row, cpI_row, row_s, row_n, row_ss, row_sw, upd_s, upd_n, ad_inj, ad_z, ad_z2, Nat.reduceEqDiff, reduceCtorEq, List.cons_append, List.nil_append, Option.toList_some, Option.toList_none, Int.toNat_natCast, List.length_cons, List.length_nil, Int.cast_ofNat_Int, Nat.reduceAdd, Nat.reduceLeDiff, Nat.reduceLT, Nat.reduceMul, Int.reduceAdd, Int.reduceSub, Int.reduceMul, Int.reduceNeg, Int.reduceLT, Int.reduceLE, Int.reduceEq, Int.reduceToNat, eq_self, true_and, and_true, true_or, or_true, false_or, or_false, if_true, if_false, not_true_eq_false, not_false_eq_true, and_self, ne_eq, hM, h1, ho, sg, hk, wp_tsw_i (v := 1) (lo := 0) (hi := 5) (t := 66) (ts := [60, 66, 76, 89, 103, 103]) (by omega) (rng_32 (by unfold i32; omega)) rfl]
      (repeat' (first | apply And.intro | split)) <;> first | omega | exact q
    · have ho := fun Q => in_t (zt := zt) (g := g) (ρ := ρ) (v := 2) (lo := 0) (hi := 6) (by omega) (by omega) (by omega) Q
      have q := hQ.ro hX
      rw [if_neg (by omega), if_neg (by omega), if_pos rfl] at q
      simp only [m_M_frame, b_M_frame_0, P_M_frame_18, b_M_frame_18, P_M_frame_20, b_M_frame_20, P_M_frame_60, b_M_frame_60, P_M_frame_66, b_M_frame_66, P_M_frame_76, b_M_frame_76, P_M_frame_89, b_M_frame_89, P_M_frame_103, b_M_frame_103, P_M_frame_110, b_M_frame_110, P_M_frame_133, b_M_frame_133, P_M_frame_139, b_M_frame_139, wp_abs, wp_aln0, wp_bipush, wp_copy, wp_cs1, wp_cs2, wp_cs3, wp_cs4, wp_cs5, wp_cs6, wp_cs7, wp_cv1, wp_cv2, wp_cv3, wp_cv4, wp_cv5, wp_cv6, wp_cv7, wp_goto, wp_iadd, wp_iald, wp_icne, wp_iconst, wp_iln1, wp_iln2, wp_iret, wp_izeq, wp_izne, wp_max, wp_min, wp_nop, wp_sipush, wp_zret, qmd_kd, qmd_k1, qmd_l1, qmd_gf0, qmd_k2, qmd_l2, qmd_gf1, qmd_k3, qmd_l3, qmd_gf2, qmd_k4, qmd_l4, qmd_gf4, qmd_k5, qmd_l5, qmd_gf6, qmd_k6, qmd_l6, qmd_gf7, qmd_k7, qmd_l7, qmd_gf10, qmd_k8, qmd_l8, qmd_gf11, qmd_k9, qmd_l9, qmd_gf12, qmd_gf3, qmd_pf3, qmd_gf5, qmd_pf5, qmd_gf8, qmd_pf8, qmd_gf9, qmd_pf9, wrI_row, cpI_row, row_s, row_n, row_ss, row_sw, upd_s, upd_n, ad_inj, ad_z, ad_z2, Nat.reduceEqDiff, reduceCtorEq, List.cons_append, List.nil_append, Option.toList_some, Option.toList_none, Int.toNat_natCast, List.length_cons, List.length_nil, Int.cast_ofNat_Int, Nat.reduceAdd, Nat.reduceLeDiff, Nat.reduceLT, Nat.reduceMul, Int.reduceAdd, Int.reduceSub, Int.reduceMul, Int.reduceNeg, Int.reduceLT, Int.reduceLE, Int.reduceEq, Int.reduceToNat, eq_self, true_and, and_true, true_or, or_true, false_or, or_false, if_true, if_false, not_true_eq_false, not_false_eq_true, and_self, ne_eq, hM, h1, ho, i9, r9, on9, wp_tsw_i (v := 2) (lo := 0) (hi := 5) (t := 76) (ts := [60, 66, 76, 89, 103, 103]) (by omega) (rng_32 (by unfold i32; omega)) rfl]
      (repeat' (first | apply And.intro | split)) <;> first | omega | exact q
    · have ho := fun Q => in_t (zt := zt) (g := g) (ρ := ρ) (v := 3) (lo := 0) (hi := 6) (by omega) (by omega) (by omega) Q
      have q := hQ.ro hX
      rw [if_neg (by omega), if_neg (by omega), if_neg (by omega), if_pos rfl] at q
      simp only [m_M_frame, b_M_frame_0, P_M_frame_18, b_M_frame_18, P_M_frame_20, b_M_frame_20, P_M_frame_60, b_M_frame_60, P_M_frame_66, b_M_frame_66, P_M_frame_76, b_M_frame_76, P_M_frame_89, b_M_frame_89, P_M_frame_103, b_M_frame_103, P_M_frame_110, b_M_frame_110, P_M_frame_133, b_M_frame_133, P_M_frame_139, b_M_frame_139, wp_abs, wp_aln0, wp_bipush, wp_copy, wp_cs1, wp_cs2, wp_cs3, wp_cs4, wp_cs5, wp_cs6, wp_cs7, wp_cv1, wp_cv2, wp_cv3, wp_cv4, wp_cv5, wp_cv6, wp_cv7, wp_goto, wp_iadd, wp_iald, wp_icne, wp_iconst, wp_iln1, wp_iln2, wp_iret, wp_izeq, wp_izne, wp_max, wp_min, wp_nop, wp_sipush, wp_zret, qmd_kd, qmd_k1, qmd_l1, qmd_gf0, qmd_k2, qmd_l2, qmd_gf1, qmd_k3, qmd_l3, qmd_gf2, qmd_k4, qmd_l4, qmd_gf4, qmd_k5, qmd_l5, qmd_gf6, qmd_k6, qmd_l6, qmd_gf7, qmd_k7, qmd_l7, qmd_gf10, qmd_k8, qmd_l8, qmd_gf11, qmd_k9, qmd_l9, qmd_gf12, qmd_gf3, qmd_pf3, qmd_gf5, qmd_pf5, qmd_gf8, qmd_pf8, qmd_gf9, qmd_pf9, wrI_row, cpI_row, row_s, row_n, row_ss, row_sw, upd_s, upd_n, ad_inj, ad_z, ad_z2, Nat.reduceEqDiff, reduceCtorEq, List.cons_append, List.nil_append, Option.toList_some, Option.toList_none, Int.toNat_natCast, List.length_cons, List.length_nil, Int.cast_ofNat_Int, Nat.reduceAdd, Nat.reduceLeDiff, Nat.reduceLT, Nat.reduceMul, Int.reduceAdd, Int.reduceSub, Int.reduceMul, Int.reduceNeg, Int.reduceLT, Int.reduceLE, Int.reduceEq, Int.reduceToNat, eq_self, true_and, and_true, true_or, or_true, false_or, or_false, if_true, if_false, not_true_eq_false, not_false_eq_true, and_self, ne_eq, hM, h1, ho, i10, r10, on10, wp_tsw_i (v := 3) (lo := 0) (hi := 5) (t := 89) (ts := [60, 66, 76, 89, 103, 103]) (by omega) (rng_32 (by unfold i32; omega)) rfl]
      (repeat' (first | apply And.intro | split)) <;> first | omega | exact q
    · have ho := fun Q => in_t (zt := zt) (g := g) (ρ := ρ) (v := 4) (lo := 0) (hi := 6) (by omega) (by omega) (by omega) Q
      rw [if_neg (by omega), if_neg (by omega), if_neg (by omega), if_neg (by omega), if_pos rfl] at hQ
      simp only [m_M_frame, b_M_frame_0, P_M_frame_18, b_M_frame_18, P_M_frame_20, b_M_frame_20, P_M_frame_60, b_M_frame_60, P_M_frame_66, b_M_frame_66, P_M_frame_76, b_M_frame_76, P_M_frame_89, b_M_frame_89, P_M_frame_103, b_M_frame_103, P_M_frame_110, b_M_frame_110, P_M_frame_133, b_M_frame_133, P_M_frame_139, b_M_frame_139, wp_abs, wp_aln0, wp_bipush, wp_copy, wp_cs1, wp_cs2, wp_cs3, wp_cs4, wp_cs5, wp_cs6, wp_cs7, wp_cv1, wp_cv2, wp_cv3, wp_cv4, wp_cv5, wp_cv6, wp_cv7, wp_goto, wp_iadd, wp_iald, wp_icne, wp_iconst, wp_iln1, wp_iln2, wp_iret, wp_izeq, wp_izne, wp_max, wp_min, wp_nop, wp_sipush, wp_zret, qmd_kd, qmd_k1, qmd_l1, qmd_gf0, qmd_k2, qmd_l2, qmd_gf1, qmd_k3, qmd_l3, qmd_gf2, qmd_k4, qmd_l4, qmd_gf4, qmd_k5, qmd_l5, qmd_gf6, qmd_k6, qmd_l6, qmd_gf7, qmd_k7, qmd_l7, qmd_gf10, qmd_k8, qmd_l8, qmd_gf11, qmd_k9, qmd_l9, qmd_gf12, qmd_gf3, qmd_pf3, qmd_gf5, qmd_pf5, qmd_gf8, qmd_pf8, qmd_gf9, qmd_pf9, wrI_row, cpI_row, row_s, row_n, row_ss, row_sw, upd_s, upd_n, ad_inj, ad_z, ad_z2, Nat.reduceEqDiff, reduceCtorEq, List.cons_append, List.nil_append, Option.toList_some, Option.toList_none, Int.toNat_natCast, List.length_cons, List.length_nil, Int.cast_ofNat_Int, Nat.reduceAdd, Nat.reduceLeDiff, Nat.reduceLT, Nat.reduceMul, Int.reduceAdd, Int.reduceSub, Int.reduceMul, Int.reduceNeg, Int.reduceLT, Int.reduceLE, Int.reduceEq, Int.reduceToNat, eq_self, true_and, and_true, true_or, or_true, false_or, or_false, if_true, if_false, not_true_eq_false, not_false_eq_true, and_self, ne_eq, hM, h1, ho, wp_tsw_i (v := 4) (lo := 0) (hi := 5) (t := 103) (ts := [60, 66, 76, 89, 103, 103]) (by omega) (rng_32 (by unfold i32; omega)) rfl]
      (repeat' (first | apply And.intro | split)) <;> first | omega | skip
      refine tellAir_ok hM hR hU c1.2 (Or.inl rfl) (fun g1 hI => ?_)
      have q := hQ g1 (hI.rep hX) (fun x z => hI.2.2 x (by unfold ad at *; omega) (by unfold ad at *; omega))
      rw [if_pos rfl]
      simp only [m_M_frame, b_M_frame_0, P_M_frame_18, b_M_frame_18, P_M_frame_20, b_M_frame_20, P_M_frame_60, b_M_frame_60, P_M_frame_66, b_M_frame_66, P_M_frame_76, b_M_frame_76, P_M_frame_89, b_M_frame_89, P_M_frame_103, b_M_frame_103, P_M_frame_110, b_M_frame_110, P_M_frame_133, b_M_frame_133, P_M_frame_139, b_M_frame_139, wp_abs, wp_aln0, wp_bipush, wp_copy, wp_cs1, wp_cs2, wp_cs3, wp_cs4, wp_cs5, wp_cs6, wp_cs7, wp_cv1, wp_cv2, wp_cv3, wp_cv4, wp_cv5, wp_cv6, wp_cv7, wp_goto, wp_iadd, wp_iald, wp_icne, wp_iconst, wp_iln1, wp_iln2, wp_iret, wp_izeq, wp_izne, wp_max, wp_min, wp_nop, wp_sipush, wp_zret, qmd_kd, qmd_k1, qmd_l1, qmd_gf0, qmd_k2, qmd_l2, qmd_gf1, qmd_k3, qmd_l3, qmd_gf2, qmd_k4, qmd_l4, qmd_gf4, qmd_k5, qmd_l5, qmd_gf6, qmd_k6, qmd_l6, qmd_gf7, qmd_k7, qmd_l7, qmd_gf10, qmd_k8, qmd_l8, qmd_gf11, qmd_k9, qmd_l9, qmd_gf12, qmd_gf3, qmd_pf3, qmd_gf5, qmd_pf5, qmd_gf8, qmd_pf8, qmd_gf9, qmd_pf9, wrI_row, cpI_row, row_s, row_n, row_ss, row_sw, upd_s, upd_n, ad_inj, ad_z, ad_z2, Nat.reduceEqDiff, reduceCtorEq, List.cons_append, List.nil_append, Option.toList_some, Option.toList_none, Int.toNat_natCast, List.length_cons, List.length_nil, Int.cast_ofNat_Int, Nat.reduceAdd, Nat.reduceLeDiff, Nat.reduceLT, Nat.reduceMul, Int.reduceAdd, Int.reduceSub, Int.reduceMul, Int.reduceNeg, Int.reduceLT, Int.reduceLE, Int.reduceEq, Int.reduceToNat, eq_self, true_and, and_true, true_or, or_true, false_or, or_false, if_true, if_false, not_true_eq_false, not_false_eq_true, and_self, ne_eq]
      (repeat' (first | apply And.intro | split)) <;> first | omega | exact q
    · have ho := fun Q => in_t (zt := zt) (g := g) (ρ := ρ) (v := 5) (lo := 0) (hi := 6) (by omega) (by omega) (by omega) Q
      rw [if_neg (by omega), if_neg (by omega), if_neg (by omega), if_neg (by omega), if_neg (by omega), if_pos rfl] at hQ
      simp only [m_M_frame, b_M_frame_0, P_M_frame_18, b_M_frame_18, P_M_frame_20, b_M_frame_20, P_M_frame_60, b_M_frame_60, P_M_frame_66, b_M_frame_66, P_M_frame_76, b_M_frame_76, P_M_frame_89, b_M_frame_89, P_M_frame_103, b_M_frame_103, P_M_frame_110, b_M_frame_110, P_M_frame_133, b_M_frame_133, P_M_frame_139, b_M_frame_139, wp_abs, wp_aln0, wp_bipush, wp_copy, wp_cs1, wp_cs2, wp_cs3, wp_cs4, wp_cs5, wp_cs6, wp_cs7, wp_cv1, wp_cv2, wp_cv3, wp_cv4, wp_cv5, wp_cv6, wp_cv7, wp_goto, wp_iadd, wp_iald, wp_icne, wp_iconst, wp_iln1, wp_iln2, wp_iret, wp_izeq, wp_izne, wp_max, wp_min, wp_nop, wp_sipush, wp_zret, qmd_kd, qmd_k1, qmd_l1, qmd_gf0, qmd_k2, qmd_l2, qmd_gf1, qmd_k3, qmd_l3, qmd_gf2, qmd_k4, qmd_l4, qmd_gf4, qmd_k5, qmd_l5, qmd_gf6, qmd_k6, qmd_l6, qmd_gf7, qmd_k7, qmd_l7, qmd_gf10, qmd_k8, qmd_l8, qmd_gf11, qmd_k9, qmd_l9, qmd_gf12, qmd_gf3, qmd_pf3, qmd_gf5, qmd_pf5, qmd_gf8, qmd_pf8, qmd_gf9, qmd_pf9, wrI_row, cpI_row, row_s, row_n, row_ss, row_sw, upd_s, upd_n, ad_inj, ad_z, ad_z2, Nat.reduceEqDiff, reduceCtorEq, List.cons_append, List.nil_append, Option.toList_some, Option.toList_none, Int.toNat_natCast, List.length_cons, List.length_nil, Int.cast_ofNat_Int, Nat.reduceAdd, Nat.reduceLeDiff, Nat.reduceLT, Nat.reduceMul, Int.reduceAdd, Int.reduceSub, Int.reduceMul, Int.reduceNeg, Int.reduceLT, Int.reduceLE, Int.reduceEq, Int.reduceToNat, eq_self, true_and, and_true, true_or, or_true, false_or, or_false, if_true, if_false, not_true_eq_false, not_false_eq_true, and_self, ne_eq, hM, h1, ho, wp_tsw_i (v := 5) (lo := 0) (hi := 5) (t := 103) (ts := [60, 66, 76, 89, 103, 103]) (by omega) (rng_32 (by unfold i32; omega)) rfl]
      (repeat' (first | apply And.intro | split)) <;> first | omega | skip
      refine tellAir_ok hM hR hU c1.2 (Or.inr rfl) (fun g1 hI => ?_)
      have q := hQ g1 (hI.rep hX) (fun x z => hI.2.2 x (by unfold ad at *; omega) (by unfold ad at *; omega))
      rw [if_neg (by omega)]
      simp only [m_M_frame, b_M_frame_0, P_M_frame_18, b_M_frame_18, P_M_frame_20, b_M_frame_20, P_M_frame_60, b_M_frame_60, P_M_frame_66, b_M_frame_66, P_M_frame_76, b_M_frame_76, P_M_frame_89, b_M_frame_89, P_M_frame_103, b_M_frame_103, P_M_frame_110, b_M_frame_110, P_M_frame_133, b_M_frame_133, P_M_frame_139, b_M_frame_139, wp_abs, wp_aln0, wp_bipush, wp_copy, wp_cs1, wp_cs2, wp_cs3, wp_cs4, wp_cs5, wp_cs6, wp_cs7, wp_cv1, wp_cv2, wp_cv3, wp_cv4, wp_cv5, wp_cv6, wp_cv7, wp_goto, wp_iadd, wp_iald, wp_icne, wp_iconst, wp_iln1, wp_iln2, wp_iret, wp_izeq, wp_izne, wp_max, wp_min, wp_nop, wp_sipush, wp_zret, qmd_kd, qmd_k1, qmd_l1, qmd_gf0, qmd_k2, qmd_l2, qmd_gf1, qmd_k3, qmd_l3, qmd_gf2, qmd_k4, qmd_l4, qmd_gf4, qmd_k5, qmd_l5, qmd_gf6, qmd_k6, qmd_l6, qmd_gf7, qmd_k7, qmd_l7, qmd_gf10, qmd_k8, qmd_l8, qmd_gf11, qmd_k9, qmd_l9, qmd_gf12, qmd_gf3, qmd_pf3, qmd_gf5, qmd_pf5, qmd_gf8, qmd_pf8, qmd_gf9, qmd_pf9, wrI_row, cpI_row, row_s, row_n, row_ss, row_sw, upd_s, upd_n, ad_inj, ad_z, ad_z2, Nat.reduceEqDiff, reduceCtorEq, List.cons_append, List.nil_append, Option.toList_some, Option.toList_none, Int.toNat_natCast, List.length_cons, List.length_nil, Int.cast_ofNat_Int, Nat.reduceAdd, Nat.reduceLeDiff, Nat.reduceLT, Nat.reduceMul, Int.reduceAdd, Int.reduceSub, Int.reduceMul, Int.reduceNeg, Int.reduceLT, Int.reduceLE, Int.reduceEq, Int.reduceToNat, eq_self, true_and, and_true, true_or, or_true, false_or, or_false, if_true, if_false, not_true_eq_false, not_false_eq_true, and_self, ne_eq]
      (repeat' (first | apply And.intro | split)) <;> first | omega | exact q
    · have ho := fun Q => in_t (zt := zt) (g := g) (ρ := ρ) (v := 6) (lo := 0) (hi := 6) (by omega) (by omega) (by omega) Q
      rw [if_neg (by omega), if_neg (by omega), if_neg (by omega), if_neg (by omega), if_neg (by omega), if_neg (by omega), if_pos rfl] at hQ
      have s0 := setting_ok (zt := zt) hM hR (w := 0) (by omega) (by omega)
      have es0 : X.1.1 4 (0 : Int).toNat = X.1.1 4 0 := rfl
      rw [es0] at s0
      simp only [m_M_frame, b_M_frame_0, P_M_frame_18, b_M_frame_18, P_M_frame_20, b_M_frame_20, P_M_frame_60, b_M_frame_60, P_M_frame_66, b_M_frame_66, P_M_frame_76, b_M_frame_76, P_M_frame_89, b_M_frame_89, P_M_frame_103, b_M_frame_103, P_M_frame_110, b_M_frame_110, P_M_frame_133, b_M_frame_133, P_M_frame_139, b_M_frame_139, wp_abs, wp_aln0, wp_bipush, wp_copy, wp_cs1, wp_cs2, wp_cs3, wp_cs4, wp_cs5, wp_cs6, wp_cs7, wp_cv1, wp_cv2, wp_cv3, wp_cv4, wp_cv5, wp_cv6, wp_cv7, wp_goto, wp_iadd, wp_iald, wp_icne, wp_iconst, wp_iln1, wp_iln2, wp_iret, wp_izeq, wp_izne, wp_max, wp_min, wp_nop, wp_sipush, wp_zret, qmd_kd, qmd_k1, qmd_l1, qmd_gf0, qmd_k2, qmd_l2, qmd_gf1, qmd_k3, qmd_l3, qmd_gf2, qmd_k4, qmd_l4, qmd_gf4, qmd_k5, qmd_l5, qmd_gf6, qmd_k6, qmd_l6, qmd_gf7, qmd_k7, qmd_l7, qmd_gf10, qmd_k8, qmd_l8, qmd_gf11, qmd_k9, qmd_l9, qmd_gf12, qmd_gf3, qmd_pf3, qmd_gf5, qmd_pf5, qmd_gf8, qmd_pf8, qmd_gf9, qmd_pf9, wrI_row, cpI_row, row_s, row_n, row_ss, row_sw, upd_s, upd_n, ad_inj, ad_z, ad_z2, Nat.reduceEqDiff, reduceCtorEq, List.cons_append, List.nil_append, Option.toList_some, Option.toList_none, Int.toNat_natCast, List.length_cons, List.length_nil, Int.cast_ofNat_Int, Nat.reduceAdd, Nat.reduceLeDiff, Nat.reduceLT, Nat.reduceMul, Int.reduceAdd, Int.reduceSub, Int.reduceMul, Int.reduceNeg, Int.reduceLT, Int.reduceLE, Int.reduceEq, Int.reduceToNat, eq_self, true_and, and_true, true_or, or_true, false_or, or_false, if_true, if_false, not_true_eq_false, not_false_eq_true, and_self, ne_eq, hM, h1, ho, s0, wp_tsw_o (v := 6) (lo := 0) (hi := 5) (by omega) (rng_32 (by unfold i32; omega))]
      (repeat' (first | apply And.intro | split)) <;> first | omega | skip
      refine find_u hX hW (by omega) (fun g1 y1 y2 y3 => ?_)
      have lb := lsU_b hU (X.1.1 4 0)
      have q := hQ g1 (y1.rep hX) (fun x z => y1.fr x z)
      by_cases c9 : lsU X.1.1 (X.1.1 4 0) = -99
      · rw [if_pos c9] at q
        rw [c9]
        simp only [m_M_frame, b_M_frame_0, P_M_frame_18, b_M_frame_18, P_M_frame_20, b_M_frame_20, P_M_frame_60, b_M_frame_60, P_M_frame_66, b_M_frame_66, P_M_frame_76, b_M_frame_76, P_M_frame_89, b_M_frame_89, P_M_frame_103, b_M_frame_103, P_M_frame_110, b_M_frame_110, P_M_frame_133, b_M_frame_133, P_M_frame_139, b_M_frame_139, wp_abs, wp_aln0, wp_bipush, wp_copy, wp_cs1, wp_cs2, wp_cs3, wp_cs4, wp_cs5, wp_cs6, wp_cs7, wp_cv1, wp_cv2, wp_cv3, wp_cv4, wp_cv5, wp_cv6, wp_cv7, wp_goto, wp_iadd, wp_iald, wp_icne, wp_iconst, wp_iln1, wp_iln2, wp_iret, wp_izeq, wp_izne, wp_max, wp_min, wp_nop, wp_sipush, wp_zret, qmd_kd, qmd_k1, qmd_l1, qmd_gf0, qmd_k2, qmd_l2, qmd_gf1, qmd_k3, qmd_l3, qmd_gf2, qmd_k4, qmd_l4, qmd_gf4, qmd_k5, qmd_l5, qmd_gf6, qmd_k6, qmd_l6, qmd_gf7, qmd_k7, qmd_l7, qmd_gf10, qmd_k8, qmd_l8, qmd_gf11, qmd_k9, qmd_l9, qmd_gf12, qmd_gf3, qmd_pf3, qmd_gf5, qmd_pf5, qmd_gf8, qmd_pf8, qmd_gf9, qmd_pf9, wrI_row, cpI_row, row_s, row_n, row_ss, row_sw, upd_s, upd_n, ad_inj, ad_z, ad_z2, Nat.reduceEqDiff, reduceCtorEq, List.cons_append, List.nil_append, Option.toList_some, Option.toList_none, Int.toNat_natCast, List.length_cons, List.length_nil, Int.cast_ofNat_Int, Nat.reduceAdd, Nat.reduceLeDiff, Nat.reduceLT, Nat.reduceMul, Int.reduceAdd, Int.reduceSub, Int.reduceMul, Int.reduceNeg, Int.reduceLT, Int.reduceLE, Int.reduceEq, Int.reduceToNat, eq_self, true_and, and_true, true_or, or_true, false_or, or_false, if_true, if_false, not_true_eq_false, not_false_eq_true, and_self, ne_eq, hM]
        (repeat' (first | apply And.intro | split)) <;> first | omega | exact q
      · rw [if_neg c9] at q
        have rp := y3 rfl c9 F (by unfold pF; omega)
        simp only [m_M_frame, b_M_frame_0, P_M_frame_18, b_M_frame_18, P_M_frame_20, b_M_frame_20, P_M_frame_60, b_M_frame_60, P_M_frame_66, b_M_frame_66, P_M_frame_76, b_M_frame_76, P_M_frame_89, b_M_frame_89, P_M_frame_103, b_M_frame_103, P_M_frame_110, b_M_frame_110, P_M_frame_133, b_M_frame_133, P_M_frame_139, b_M_frame_139, wp_abs, wp_aln0, wp_bipush, wp_copy, wp_cs1, wp_cs2, wp_cs3, wp_cs4, wp_cs5, wp_cs6, wp_cs7, wp_cv1, wp_cv2, wp_cv3, wp_cv4, wp_cv5, wp_cv6, wp_cv7, wp_goto, wp_iadd, wp_iald, wp_icne, wp_iconst, wp_iln1, wp_iln2, wp_iret, wp_izeq, wp_izne, wp_max, wp_min, wp_nop, wp_sipush, wp_zret, qmd_kd, qmd_k1, qmd_l1, qmd_gf0, qmd_k2, qmd_l2, qmd_gf1, qmd_k3, qmd_l3, qmd_gf2, qmd_k4, qmd_l4, qmd_gf4, qmd_k5, qmd_l5, qmd_gf6, qmd_k6, qmd_l6, qmd_gf7, qmd_k7, qmd_l7, qmd_gf10, qmd_k8, qmd_l8, qmd_gf11, qmd_k9, qmd_l9, qmd_gf12, qmd_gf3, qmd_pf3, qmd_gf5, qmd_pf5, qmd_gf8, qmd_pf8, qmd_gf9, qmd_pf9, wrI_row, cpI_row, row_s, row_n, row_ss, row_sw, upd_s, upd_n, ad_inj, ad_z, ad_z2, Nat.reduceEqDiff, reduceCtorEq, List.cons_append, List.nil_append, Option.toList_some, Option.toList_none, Int.toNat_natCast, List.length_cons, List.length_nil, Int.cast_ofNat_Int, Nat.reduceAdd, Nat.reduceLeDiff, Nat.reduceLT, Nat.reduceMul, Int.reduceAdd, Int.reduceSub, Int.reduceMul, Int.reduceNeg, Int.reduceLT, Int.reduceLE, Int.reduceEq, Int.reduceToNat, eq_self, true_and, and_true, true_or, or_true, false_or, or_false, if_true, if_false, not_true_eq_false, not_false_eq_true, and_self, ne_eq, hM, rp]
        (repeat' (first | apply And.intro | split)) <;> first | omega | exact q
  · have ho := fun Q => in_f (zt := zt) (g := g) (ρ := ρ) (lo := 0) (hi := 6) hw (by omega) (by omega) c2 Q
    rw [if_neg (by omega), if_neg (by omega), if_neg (by omega), if_neg (by omega), if_neg (by omega), if_neg (by omega), if_neg (by omega)] at hQ
    have q := hQ.ro hX
    simp only [m_M_frame, b_M_frame_0, P_M_frame_18, b_M_frame_18, P_M_frame_20, b_M_frame_20, P_M_frame_60, b_M_frame_60, P_M_frame_66, b_M_frame_66, P_M_frame_76, b_M_frame_76, P_M_frame_89, b_M_frame_89, P_M_frame_103, b_M_frame_103, P_M_frame_110, b_M_frame_110, P_M_frame_133, b_M_frame_133, P_M_frame_139, b_M_frame_139, wp_abs, wp_aln0, wp_bipush, wp_copy, wp_cs1, wp_cs2, wp_cs3, wp_cs4, wp_cs5, wp_cs6, wp_cs7, wp_cv1, wp_cv2, wp_cv3, wp_cv4, wp_cv5, wp_cv6, wp_cv7, wp_goto, wp_iadd, wp_iald, wp_icne, wp_iconst, wp_iln1, wp_iln2, wp_iret, wp_izeq, wp_izne, wp_max, wp_min, wp_nop, wp_sipush, wp_zret, qmd_kd, qmd_k1, qmd_l1, qmd_gf0, qmd_k2, qmd_l2, qmd_gf1, qmd_k3, qmd_l3, qmd_gf2, qmd_k4, qmd_l4, qmd_gf4, qmd_k5, qmd_l5, qmd_gf6, qmd_k6, qmd_l6, qmd_gf7, qmd_k7, qmd_l7, qmd_gf10, qmd_k8, qmd_l8, qmd_gf11, qmd_k9, qmd_l9, qmd_gf12, qmd_gf3, qmd_pf3, qmd_gf5, qmd_pf5, qmd_gf8, qmd_pf8, qmd_gf9, qmd_pf9, wrI_row, cpI_row, row_s, row_n, row_ss, row_sw, upd_s, upd_n, ad_inj, ad_z, ad_z2, Nat.reduceEqDiff, reduceCtorEq, List.cons_append, List.nil_append, Option.toList_some, Option.toList_none, Int.toNat_natCast, List.length_cons, List.length_nil, Int.cast_ofNat_Int, Nat.reduceAdd, Nat.reduceLeDiff, Nat.reduceLT, Nat.reduceMul, Int.reduceAdd, Int.reduceSub, Int.reduceMul, Int.reduceNeg, Int.reduceLT, Int.reduceLE, Int.reduceEq, Int.reduceToNat, eq_self, true_and, and_true, true_or, or_true, false_or, or_false, if_true, if_false, not_true_eq_false, not_false_eq_true, and_self, ne_eq, hM, h1, ho]
    (repeat' (first | apply And.intro | split)) <;> first | omega | exact q
theorem rival_loop {g1 : Nat → Nat → Int} {U : Vw} (hM : isMd ρ M) (hR : LR (-1) (vwM (g1 (ad M 1))) U) (hU : WFV (-1) U) {f : Nat} (hf : (f : Int) < U 8 0) (hk : g1 (ad M 9) f = kndV U f) {sp : Int} (hQ : ∀ o4 : Option AV, Wp zt 157 (P 157 88) [some (AR M), some (AI f), some (AI sp), some (AI (rivU U f : Nat)), o4] [] (g1, ρ) Q) :
    ∀ (d m : Nat), (m : Int) + d = U 0 0 → 1 ≤ m → Wp zt 157 (P 157 38) [some (AR M), some (AI f), some (AI sp), some (AI (amin (fun m => wrgV U (kndV U f) m) m : Nat)), some (AI m)] [] (g1, ρ) Q := by
  have b0 := hU.1
  have b8 := hU.2.2.2.2.2.2.1
  have e0 := m_0 hR
  have hkb := kndV_lt hU (f := f) hf
  intro d
  induction d with
  | zero =>
    intro m hm h1
    have q := hQ (some (AI (m : Int)))
    unfold rivU pM at q
    rw [show (U 0 0).toNat = m by omega] at q
    rw [P_M_why_38]
    simp only [m_M_why, b_M_why_0, P_M_why_10, b_M_why_10, P_M_why_33, b_M_why_33, P_M_why_80, b_M_why_80, P_M_why_81, b_M_why_81, P_M_why_120, b_M_why_120, P_M_why_134, b_M_why_134, P_M_why_157, b_M_why_157, P_M_why_188, b_M_why_188, P_M_why_189, b_M_why_189, wp_aln0, wp_bipush, wp_cv1, wp_cv2, wp_cv3, wp_cv4, wp_cv5, wp_cv6, wp_cv7, wp_goto, wp_iadd, wp_iald, wp_icge, wp_icle, wp_icne, wp_iconst, wp_il4, wp_iln1, wp_iln2, wp_iln3, wp_inc4, wp_iret, wp_is4, wp_isn2, wp_isn3, wp_isub, wp_izle, wp_izlt, wp_izne, wp_nop, wp_zret, qmd_kd, qmd_k1, qmd_l1, qmd_gf0, qmd_k2, qmd_l2, qmd_gf1, qmd_k3, qmd_l3, qmd_gf2, qmd_k4, qmd_l4, qmd_gf4, qmd_k5, qmd_l5, qmd_gf6, qmd_k6, qmd_l6, qmd_gf7, qmd_k7, qmd_l7, qmd_gf10, qmd_k8, qmd_l8, qmd_gf11, qmd_k9, qmd_l9, qmd_gf12, qmd_gf3, qmd_pf3, qmd_gf5, qmd_pf5, qmd_gf8, qmd_pf8, qmd_gf9, qmd_pf9, wrI_row, cpI_row, row_s, row_n, row_ss, row_sw, upd_s, upd_n, ad_inj, ad_z, ad_z2, Nat.reduceEqDiff, reduceCtorEq, List.cons_append, List.nil_append, Option.toList_some, Option.toList_none, Int.toNat_natCast, List.length_cons, List.length_nil, Int.cast_ofNat_Int, Nat.reduceAdd, Nat.reduceLeDiff, Nat.reduceLT, Nat.reduceMul, Int.reduceAdd, Int.reduceSub, Int.reduceMul, Int.reduceNeg, Int.reduceLT, Int.reduceLE, Int.reduceEq, Int.reduceToNat, eq_self, true_and, and_true, true_or, or_true, false_or, or_false, if_true, if_false, not_true_eq_false, not_false_eq_true, and_self, ne_eq, b_M_why_38, hM, e0]
    (repeat' (first | apply And.intro | split)) <;> first | omega | exact q
  | succ d ih =>
    intro m hm h1
    have hl := amin_lt (f := fun m => wrgV U (kndV U f) m) m (by omega)
    have i1 := ih (m + 1) (by omega) (by omega)
    have e2 : amin (fun m => wrgV U (kndV U f) m) (m + 1) = if wrgV U (kndV U f) m < wrgV U (kndV U f) (amin (fun m => wrgV U (kndV U f) m) m) then m else amin (fun m => wrgV U (kndV U f) m) m := by
      obtain ⟨m2, rfl⟩ : ∃ m2, m = m2 + 1 := ⟨m - 1, by omega⟩
      rfl
    rw [e2] at i1
    obtain ⟨b, hb⟩ : ∃ b, b = amin (fun m => wrgV U (kndV U f) m) m := ⟨_, rfl⟩
    rw [← hb] at i1 hl ⊢
    have w1 := wrongBy_ok (zt := zt) (g := g1) (ρ := ρ) hM hR hU (kd := kndV U f) (m := (m : Int)) hkb.1 hkb.2 (by omega) (by omega)
    have w2 := wrongBy_ok (zt := zt) (g := g1) (ρ := ρ) hM hR hU (kd := kndV U f) (m := (b : Int)) hkb.1 hkb.2 (by omega) (by omega)
    rw [Int.toNat_natCast] at w1 w2
    have wb1 := wrgU_b hU hkb.1 hkb.2 (m := m) (by omega)
    have wb2 := wrgU_b hU hkb.1 hkb.2 (m := b) (by omega)
    have hlm : ¬ U 0 0 ≤ (m : Int) := by omega
    generalize wrgV U (kndV U f) m = v1 at *
    generalize wrgV U (kndV U f) b = v2 at *
    by_cases c : v1 < v2
    · rw [if_pos c] at i1
      have c' : ¬ v2 ≤ v1 := by omega
      rw [P_M_why_38]
      simp only [m_M_why, b_M_why_0, P_M_why_10, b_M_why_10, P_M_why_33, b_M_why_33, P_M_why_80, b_M_why_80, P_M_why_81, b_M_why_81, P_M_why_120, b_M_why_120, P_M_why_134, b_M_why_134, P_M_why_157, b_M_why_157, P_M_why_188, b_M_why_188, P_M_why_189, b_M_why_189, wp_aln0, wp_bipush, wp_cv1, wp_cv2, wp_cv3, wp_cv4, wp_cv5, wp_cv6, wp_cv7, wp_goto, wp_iadd, wp_iald, wp_icge, wp_icle, wp_icne, wp_iconst, wp_il4, wp_iln1, wp_iln2, wp_iln3, wp_inc4, wp_iret, wp_is4, wp_isn2, wp_isn3, wp_isub, wp_izle, wp_izlt, wp_izne, wp_nop, wp_zret, qmd_kd, qmd_k1, qmd_l1, qmd_gf0, qmd_k2, qmd_l2, qmd_gf1, qmd_k3, qmd_l3, qmd_gf2, qmd_k4, qmd_l4, qmd_gf4, qmd_k5, qmd_l5, qmd_gf6, qmd_k6, qmd_l6, qmd_gf7, qmd_k7, qmd_l7, qmd_gf10, qmd_k8, qmd_l8, qmd_gf11, qmd_k9, qmd_l9, qmd_gf12, qmd_gf3, qmd_pf3, qmd_gf5, qmd_pf5, qmd_gf8, qmd_pf8, qmd_gf9, qmd_pf9, wrI_row, cpI_row, row_s, row_n, row_ss, row_sw, upd_s, upd_n, ad_inj, ad_z, ad_z2, Nat.reduceEqDiff, reduceCtorEq, List.cons_append, List.nil_append, Option.toList_some, Option.toList_none, Int.toNat_natCast, List.length_cons, List.length_nil, Int.cast_ofNat_Int, Nat.reduceAdd, Nat.reduceLeDiff, Nat.reduceLT, Nat.reduceMul, Int.reduceAdd, Int.reduceSub, Int.reduceMul, Int.reduceNeg, Int.reduceLT, Int.reduceLE, Int.reduceEq, Int.reduceToNat, eq_self, true_and, and_true, true_or, or_true, false_or, or_false, if_true, if_false, not_true_eq_false, not_false_eq_true, and_self, ne_eq, b_M_why_38, hM, e0, hlm, hk, w1, w2, c']
      (repeat' (first | apply And.intro | split)) <;> first | omega | exact i1
    · rw [if_neg c] at i1
      have c' : v2 ≤ v1 := by omega
      rw [P_M_why_38]
      simp only [m_M_why, b_M_why_0, P_M_why_10, b_M_why_10, P_M_why_33, b_M_why_33, P_M_why_80, b_M_why_80, P_M_why_81, b_M_why_81, P_M_why_120, b_M_why_120, P_M_why_134, b_M_why_134, P_M_why_157, b_M_why_157, P_M_why_188, b_M_why_188, P_M_why_189, b_M_why_189, wp_aln0, wp_bipush, wp_cv1, wp_cv2, wp_cv3, wp_cv4, wp_cv5, wp_cv6, wp_cv7, wp_goto, wp_iadd, wp_iald, wp_icge, wp_icle, wp_icne, wp_iconst, wp_il4, wp_iln1, wp_iln2, wp_iln3, wp_inc4, wp_iret, wp_is4, wp_isn2, wp_isn3, wp_isub, wp_izle, wp_izlt, wp_izne, wp_nop, wp_zret, qmd_kd, qmd_k1, qmd_l1, qmd_gf0, qmd_k2, qmd_l2, qmd_gf1, qmd_k3, qmd_l3, qmd_gf2, qmd_k4, qmd_l4, qmd_gf4, qmd_k5, qmd_l5, qmd_gf6, qmd_k6, qmd_l6, qmd_gf7, qmd_k7, qmd_l7, qmd_gf10, qmd_k8, qmd_l8, qmd_gf11, qmd_k9, qmd_l9, qmd_gf12, qmd_gf3, qmd_pf3, qmd_gf5, qmd_pf5, qmd_gf8, qmd_pf8, qmd_gf9, qmd_pf9, wrI_row, cpI_row, row_s, row_n, row_ss, row_sw, upd_s, upd_n, ad_inj, ad_z, ad_z2, Nat.reduceEqDiff, reduceCtorEq, List.cons_append, List.nil_append, Option.toList_some, Option.toList_none, Int.toNat_natCast, List.length_cons, List.length_nil, Int.cast_ofNat_Int, Nat.reduceAdd, Nat.reduceLeDiff, Nat.reduceLT, Nat.reduceMul, Int.reduceAdd, Int.reduceSub, Int.reduceMul, Int.reduceNeg, Int.reduceLT, Int.reduceLE, Int.reduceEq, Int.reduceToNat, eq_self, true_and, and_true, true_or, or_true, false_or, or_false, if_true, if_false, not_true_eq_false, not_false_eq_true, and_self, ne_eq, b_M_why_38, hM, e0, hlm, hk, w1, w2, c']
      (repeat' (first | apply And.intro | split)) <;> first | omega | exact i1
theorem d_why (hX : RepM g ρ M X) (hW : WFX X) {f : Int} (hf : i32 f) (hQ : MdQ g ρ M (sWhy f X, X) Q) : WpM zt 157 [AR M, AI f] (g, ρ) Q := by
  obtain ⟨hM, hS, -⟩ := id hX
  have hR := hS.1
  have hU := hW.1.1
  have e0 := m_0 hR
  have e5 := m_5 hR
  have b0 := hU.1
  have b5 := hU.2.2.2.2.1
  have b8 := hU.2.2.2.2.2.2.1
  have b4 := hU.2.2.2.1
  unfold sWhy at hQ
  have h1 := isFrame_ok (zt := zt) hM hR hU hf
  by_cases c1' : ¬ (0 ≤ f ∧ f < X.1.1 8 0)
  · rw [b2_f c1'] at h1
    rw [if_neg c1'] at hQ
    have q := hQ.ro hX
    simp only [m_M_why, b_M_why_0, P_M_why_10, b_M_why_10, P_M_why_33, b_M_why_33, P_M_why_38, b_M_why_38, P_M_why_80, b_M_why_80, P_M_why_81, b_M_why_81, P_M_why_88, b_M_why_88, P_M_why_120, b_M_why_120, P_M_why_134, b_M_why_134, P_M_why_157, b_M_why_157, P_M_why_188, b_M_why_188, P_M_why_189, b_M_why_189, wp_aln0, wp_bipush, wp_cv1, wp_cv2, wp_cv3, wp_cv4, wp_cv5, wp_cv6, wp_cv7, wp_goto, wp_iadd, wp_iald, wp_icge, wp_icle, wp_icne, wp_iconst, wp_il4, wp_iln1, wp_iln2, wp_iln3, wp_inc4, wp_iret, wp_is4, wp_isn2, wp_isn3, wp_isub, wp_izle, wp_izlt, wp_izne, wp_nop, wp_zret, qmd_kd, qmd_k1, qmd_l1, qmd_gf0, qmd_k2, qmd_l2, qmd_gf1, qmd_k3, qmd_l3, qmd_gf2, qmd_k4, qmd_l4, qmd_gf4, qmd_k5, qmd_l5, qmd_gf6, qmd_k6, qmd_l6, qmd_gf7, qmd_k7, qmd_l7, qmd_gf10, qmd_k8, qmd_l8, qmd_gf11, qmd_k9, qmd_l9, qmd_gf12, qmd_gf3, qmd_pf3, qmd_gf5, qmd_pf5, qmd_gf8, qmd_pf8, qmd_gf9, qmd_pf9, wrI_row, cpI_row, row_s, row_n, row_ss, row_sw, upd_s, upd_n, ad_inj, ad_z, ad_z2, Nat.reduceEqDiff, reduceCtorEq, List.cons_append, List.nil_append, Option.toList_some, Option.toList_none, Int.toNat_natCast, List.length_cons, List.length_nil, Int.cast_ofNat_Int, Nat.reduceAdd, Nat.reduceLeDiff, Nat.reduceLT, Nat.reduceMul, Int.reduceAdd, Int.reduceSub, Int.reduceMul, Int.reduceNeg, Int.reduceLT, Int.reduceLE, Int.reduceEq, Int.reduceToNat, eq_self, true_and, and_true, true_or, or_true, false_or, or_false, if_true, if_false, not_true_eq_false, not_false_eq_true, and_self, ne_eq, hM, h1]
    (repeat' (first | apply And.intro | split)) <;> first | omega | exact q
  have c1 := Classical.not_not.1 c1'
  rw [b2_t c1] at h1
  rw [if_pos c1] at hQ
  obtain ⟨F, rfl⟩ := Int.eq_ofNat_of_zero_le c1.1
  rw [Int.toNat_natCast] at hQ
  have s0 := setting_ok (zt := zt) hM hR (w := 0) (by omega) (by omega)
  have es0 : X.1.1 4 (0 : Int).toNat = X.1.1 4 0 := rfl
  rw [es0] at s0
  simp only [m_M_why, b_M_why_0, P_M_why_10, b_M_why_10, P_M_why_80, b_M_why_80, P_M_why_81, b_M_why_81, P_M_why_188, b_M_why_188, P_M_why_189, b_M_why_189, wp_aln0, wp_bipush, wp_cv1, wp_cv2, wp_cv3, wp_cv4, wp_cv5, wp_cv6, wp_cv7, wp_goto, wp_iadd, wp_iald, wp_icge, wp_icle, wp_icne, wp_iconst, wp_il4, wp_iln1, wp_iln2, wp_iln3, wp_inc4, wp_iret, wp_is4, wp_isn2, wp_isn3, wp_isub, wp_izle, wp_izlt, wp_izne, wp_nop, wp_zret, qmd_kd, qmd_k1, qmd_l1, qmd_gf0, qmd_k2, qmd_l2, qmd_gf1, qmd_k3, qmd_l3, qmd_gf2, qmd_k4, qmd_l4, qmd_gf4, qmd_k5, qmd_l5, qmd_gf6, qmd_k6, qmd_l6, qmd_gf7, qmd_k7, qmd_l7, qmd_gf10, qmd_k8, qmd_l8, qmd_gf11, qmd_k9, qmd_l9, qmd_gf12, qmd_gf3, qmd_pf3, qmd_gf5, qmd_pf5, qmd_gf8, qmd_pf8, qmd_gf9, qmd_pf9, wrI_row, cpI_row, row_s, row_n, row_ss, row_sw, upd_s, upd_n, ad_inj, ad_z, ad_z2, Nat.reduceEqDiff, reduceCtorEq, List.cons_append, List.nil_append, Option.toList_some, Option.toList_none, Int.toNat_natCast, List.length_cons, List.length_nil, Int.cast_ofNat_Int, Nat.reduceAdd, Nat.reduceLeDiff, Nat.reduceLT, Nat.reduceMul, Int.reduceAdd, Int.reduceSub, Int.reduceMul, Int.reduceNeg, Int.reduceLT, Int.reduceLE, Int.reduceEq, Int.reduceToNat, eq_self, true_and, and_true, true_or, or_true, false_or, or_false, if_true, if_false, not_true_eq_false, not_false_eq_true, and_self, ne_eq, hM, h1, s0]
  (repeat' (first | apply And.intro | split)) <;> first | omega | skip
  refine find_u hX hW (by omega) (fun g1 y1 y2 y3 => ?_)
  have lb := lsU_b hU (X.1.1 4 0)
  have q := hQ g1 (y1.rep hX) (fun x z => y1.fr x z)
  have hR1 : LR (-1) (vwM (g1 (ad M 1))) X.1.1 := (y1.rep hX).2.1.1
  have hk1 := y2 F c1.2
  by_cases c9 : lsU X.1.1 (X.1.1 4 0) = -99
  · rw [if_pos c9] at q
    rw [c9]
    simp only [m_M_why, b_M_why_0, P_M_why_10, b_M_why_10, P_M_why_80, b_M_why_80, P_M_why_81, b_M_why_81, P_M_why_188, b_M_why_188, P_M_why_189, b_M_why_189, wp_aln0, wp_bipush, wp_cv1, wp_cv2, wp_cv3, wp_cv4, wp_cv5, wp_cv6, wp_cv7, wp_goto, wp_iadd, wp_iald, wp_icge, wp_icle, wp_icne, wp_iconst, wp_il4, wp_iln1, wp_iln2, wp_iln3, wp_inc4, wp_iret, wp_is4, wp_isn2, wp_isn3, wp_isub, wp_izle, wp_izlt, wp_izne, wp_nop, wp_zret, qmd_kd, qmd_k1, qmd_l1, qmd_gf0, qmd_k2, qmd_l2, qmd_gf1, qmd_k3, qmd_l3, qmd_gf2, qmd_k4, qmd_l4, qmd_gf4, qmd_k5, qmd_l5, qmd_gf6, qmd_k6, qmd_l6, qmd_gf7, qmd_k7, qmd_l7, qmd_gf10, qmd_k8, qmd_l8, qmd_gf11, qmd_k9, qmd_l9, qmd_gf12, qmd_gf3, qmd_pf3, qmd_gf5, qmd_pf5, qmd_gf8, qmd_pf8, qmd_gf9, qmd_pf9, wrI_row, cpI_row, row_s, row_n, row_ss, row_sw, upd_s, upd_n, ad_inj, ad_z, ad_z2, Nat.reduceEqDiff, reduceCtorEq, List.cons_append, List.nil_append, Option.toList_some, Option.toList_none, Int.toNat_natCast, List.length_cons, List.length_nil, Int.cast_ofNat_Int, Nat.reduceAdd, Nat.reduceLeDiff, Nat.reduceLT, Nat.reduceMul, Int.reduceAdd, Int.reduceSub, Int.reduceMul, Int.reduceNeg, Int.reduceLT, Int.reduceLE, Int.reduceEq, Int.reduceToNat, eq_self, true_and, and_true, true_or, or_true, false_or, or_false, if_true, if_false, not_true_eq_false, not_false_eq_true, and_self, ne_eq, hM]
    (repeat' (first | apply And.intro | split)) <;> first | omega | exact q
  · rw [if_neg c9] at q
    have hpl := fun y hy => y3 rfl c9 y hy
    have hpb := plU_b hU
    have hFp : F < pF X.1.1 := by unfold pF; omega
    have hkb := kndV_lt hU (f := F) c1.2
    have hrl := rivU_lt hU F
    have fo := frames_ok (zt := zt) (g := g1) (ρ := ρ) hM hR1 hU
    have r9 := (p_9 hR1 hU (j := F) c1.2).1
    have b9 := (hU.2.2.2.2.2.2.2.2 F c1.2).1
    have i9 : (119 + (F : Int)).toNat = 119 + F := by omega
    have pF0 := hpl F hFp
    have pb0 := hpb F
    have w1 := wrongBy_ok (zt := zt) (g := g1) (ρ := ρ) hM hR1 hU (kd := kndV X.1.1 F) (m := plU X.1.1 F) hkb.1 hkb.2 pb0.1 pb0.2
    have w2 := wrongBy_ok (zt := zt) (g := g1) (ρ := ρ) hM hR1 hU (kd := kndV X.1.1 F) (m := (rivU X.1.1 F : Nat)) hkb.1 hkb.2 (by omega) hrl
    rw [Int.toNat_natCast] at w2
    have wb1 := wrgU_b hU hkb.1 hkb.2 (m := (plU X.1.1 F).toNat) (by omega)
    have wb2 := wrgU_b hU hkb.1 hkb.2 (m := rivU X.1.1 F) hrl
    have k88 : ∀ o4 : Option AV, Wp zt 157 (P 157 88) [some (AR M), some (AI F), some (AI (X.1.1 4 0)), some (AI (rivU X.1.1 F : Nat)), o4] [] (g1, ρ) Q := by
      intro o4
      generalize wrgV X.1.1 (kndV X.1.1 F) (plU X.1.1 F).toNat = v1 at *
      generalize wrgV X.1.1 (kndV X.1.1 F) (rivU X.1.1 F) = v2 at *
      generalize rivU X.1.1 F = rv at *
      have k157 : Q (some (AI (if (F : Int) + 1 < X.1.1 8 0 ∧ X.1.1 4 0 < jmpV X.1.1 rv (plU X.1.1 (F + 1)).toNat then 3 else 4))) (g1, ρ) → Wp zt 157 (P 157 157) [some (AR M), some (AI F), some (AI (X.1.1 4 0)), some (AI rv), o4] [] (g1, ρ) Q := by
        intro z
        by_cases cF : (F : Int) + 1 < X.1.1 8 0
        · have hp1 := hpl (F + 1) (by unfold pF; omega)
          have pb1 := hpb (F + 1)
          have ei : ((F : Int) + 1).toNat = F + 1 := by omega
          have hj := farBetween_ok (zt := zt) (g := g1) (ρ := ρ) hM hR1 hU (x := (rv : Int)) (y := plU X.1.1 (F + 1)) (by omega) hrl pb1.1 pb1.2
          rw [Int.toNat_natCast] at hj
          have jb := jmpV_b hU (x := rv) (y := (plU X.1.1 (F + 1)).toNat) hrl (by omega)
          generalize jmpV X.1.1 rv (plU X.1.1 (F + 1)).toNat = jj at *
          have cF' : ¬ X.1.1 8 0 - 1 ≤ (F : Int) := by omega
          by_cases c : X.1.1 4 0 < jj
          · rw [if_pos ⟨cF, c⟩] at z
            rw [P_M_why_157]
            simp only [m_M_why, b_M_why_0, P_M_why_10, b_M_why_10, P_M_why_33, b_M_why_33, P_M_why_80, b_M_why_80, P_M_why_81, b_M_why_81, P_M_why_188, b_M_why_188, P_M_why_189, b_M_why_189, wp_aln0, wp_bipush, wp_cv1, wp_cv2, wp_cv3, wp_cv4, wp_cv5, wp_cv6, wp_cv7, wp_goto, wp_iadd, wp_iald, wp_icge, wp_icle, wp_icne, wp_iconst, wp_il4, wp_iln1, wp_iln2, wp_iln3, wp_inc4, wp_iret, wp_is4, wp_isn2, wp_isn3, wp_isub, wp_izle, wp_izlt, wp_izne, wp_nop, wp_zret, qmd_kd, qmd_k1, qmd_l1, qmd_gf0, qmd_k2, qmd_l2, qmd_gf1, qmd_k3, qmd_l3, qmd_gf2, qmd_k4, qmd_l4, qmd_gf4, qmd_k5, qmd_l5, qmd_gf6, qmd_k6, qmd_l6, qmd_gf7, qmd_k7, qmd_l7, qmd_gf10, qmd_k8, qmd_l8, qmd_gf11, qmd_k9, qmd_l9, qmd_gf12, qmd_gf3, qmd_pf3, qmd_gf5, qmd_pf5, qmd_gf8, qmd_pf8, qmd_gf9, qmd_pf9, wrI_row, cpI_row, row_s, row_n, row_ss, row_sw, upd_s, upd_n, ad_inj, ad_z, ad_z2, Nat.reduceEqDiff, reduceCtorEq, List.cons_append, List.nil_append, Option.toList_some, Option.toList_none, Int.toNat_natCast, List.length_cons, List.length_nil, Int.cast_ofNat_Int, Nat.reduceAdd, Nat.reduceLeDiff, Nat.reduceLT, Nat.reduceMul, Int.reduceAdd, Int.reduceSub, Int.reduceMul, Int.reduceNeg, Int.reduceLT, Int.reduceLE, Int.reduceEq, Int.reduceToNat, eq_self, true_and, and_true, true_or, or_true, false_or, or_false, if_true, if_false, not_true_eq_false, not_false_eq_true, and_self, ne_eq, b_M_why_157, hM, fo, cF', ei, hp1, hj]
            (repeat' (first | apply And.intro | split)) <;> first | omega | exact z
          · rw [if_neg (fun w => c w.2)] at z
            rw [P_M_why_157]
            simp only [m_M_why, b_M_why_0, P_M_why_10, b_M_why_10, P_M_why_33, b_M_why_33, P_M_why_80, b_M_why_80, P_M_why_81, b_M_why_81, P_M_why_188, b_M_why_188, P_M_why_189, b_M_why_189, wp_aln0, wp_bipush, wp_cv1, wp_cv2, wp_cv3, wp_cv4, wp_cv5, wp_cv6, wp_cv7, wp_goto, wp_iadd, wp_iald, wp_icge, wp_icle, wp_icne, wp_iconst, wp_il4, wp_iln1, wp_iln2, wp_iln3, wp_inc4, wp_iret, wp_is4, wp_isn2, wp_isn3, wp_isub, wp_izle, wp_izlt, wp_izne, wp_nop, wp_zret, qmd_kd, qmd_k1, qmd_l1, qmd_gf0, qmd_k2, qmd_l2, qmd_gf1, qmd_k3, qmd_l3, qmd_gf2, qmd_k4, qmd_l4, qmd_gf4, qmd_k5, qmd_l5, qmd_gf6, qmd_k6, qmd_l6, qmd_gf7, qmd_k7, qmd_l7, qmd_gf10, qmd_k8, qmd_l8, qmd_gf11, qmd_k9, qmd_l9, qmd_gf12, qmd_gf3, qmd_pf3, qmd_gf5, qmd_pf5, qmd_gf8, qmd_pf8, qmd_gf9, qmd_pf9, wrI_row, cpI_row, row_s, row_n, row_ss, row_sw, upd_s, upd_n, ad_inj, ad_z, ad_z2, Nat.reduceEqDiff, reduceCtorEq, List.cons_append, List.nil_append, Option.toList_some, Option.toList_none, Int.toNat_natCast, List.length_cons, List.length_nil, Int.cast_ofNat_Int, Nat.reduceAdd, Nat.reduceLeDiff, Nat.reduceLT, Nat.reduceMul, Int.reduceAdd, Int.reduceSub, Int.reduceMul, Int.reduceNeg, Int.reduceLT, Int.reduceLE, Int.reduceEq, Int.reduceToNat, eq_self, true_and, and_true, true_or, or_true, false_or, or_false, if_true, if_false, not_true_eq_false, not_false_eq_true, and_self, ne_eq, b_M_why_157, hM, fo, cF', ei, hp1, hj]
            (repeat' (first | apply And.intro | split)) <;> first | omega | exact z
        · rw [if_neg (fun w => cF w.1)] at z
          have cF' : X.1.1 8 0 - 1 ≤ (F : Int) := by omega
          rw [P_M_why_157]
          simp only [m_M_why, b_M_why_0, P_M_why_10, b_M_why_10, P_M_why_33, b_M_why_33, P_M_why_80, b_M_why_80, P_M_why_81, b_M_why_81, P_M_why_188, b_M_why_188, P_M_why_189, b_M_why_189, wp_aln0, wp_bipush, wp_cv1, wp_cv2, wp_cv3, wp_cv4, wp_cv5, wp_cv6, wp_cv7, wp_goto, wp_iadd, wp_iald, wp_icge, wp_icle, wp_icne, wp_iconst, wp_il4, wp_iln1, wp_iln2, wp_iln3, wp_inc4, wp_iret, wp_is4, wp_isn2, wp_isn3, wp_isub, wp_izle, wp_izlt, wp_izne, wp_nop, wp_zret, qmd_kd, qmd_k1, qmd_l1, qmd_gf0, qmd_k2, qmd_l2, qmd_gf1, qmd_k3, qmd_l3, qmd_gf2, qmd_k4, qmd_l4, qmd_gf4, qmd_k5, qmd_l5, qmd_gf6, qmd_k6, qmd_l6, qmd_gf7, qmd_k7, qmd_l7, qmd_gf10, qmd_k8, qmd_l8, qmd_gf11, qmd_k9, qmd_l9, qmd_gf12, qmd_gf3, qmd_pf3, qmd_gf5, qmd_pf5, qmd_gf8, qmd_pf8, qmd_gf9, qmd_pf9, wrI_row, cpI_row, row_s, row_n, row_ss, row_sw, upd_s, upd_n, ad_inj, ad_z, ad_z2, Nat.reduceEqDiff, reduceCtorEq, List.cons_append, List.nil_append, Option.toList_some, Option.toList_none, Int.toNat_natCast, List.length_cons, List.length_nil, Int.cast_ofNat_Int, Nat.reduceAdd, Nat.reduceLeDiff, Nat.reduceLT, Nat.reduceMul, Int.reduceAdd, Int.reduceSub, Int.reduceMul, Int.reduceNeg, Int.reduceLT, Int.reduceLE, Int.reduceEq, Int.reduceToNat, eq_self, true_and, and_true, true_or, or_true, false_or, or_false, if_true, if_false, not_true_eq_false, not_false_eq_true, and_self, ne_eq, b_M_why_157, hM, fo, cF']
          (repeat' (first | apply And.intro | split)) <;> first | omega | exact z
      have k134 : Q (some (AI (if 0 < (F : Int) ∧ X.1.1 4 0 < jmpV X.1.1 (plU X.1.1 (F - 1)).toNat rv then 2 else if (F : Int) + 1 < X.1.1 8 0 ∧ X.1.1 4 0 < jmpV X.1.1 rv (plU X.1.1 (F + 1)).toNat then 3 else 4))) (g1, ρ) → Wp zt 157 (P 157 134) [some (AR M), some (AI F), some (AI (X.1.1 4 0)), some (AI rv), o4] [] (g1, ρ) Q := by
        intro z
        by_cases cF : 0 < (F : Int)
        · have hp1 := hpl (F - 1) (by omega)
          have pb1 := hpb (F - 1)
          have ei : ((F : Int) - 1).toNat = F - 1 := by omega
          have hj := farBetween_ok (zt := zt) (g := g1) (ρ := ρ) hM hR1 hU (x := plU X.1.1 (F - 1)) (y := (rv : Int)) pb1.1 pb1.2 (by omega) hrl
          rw [Int.toNat_natCast] at hj
          have jb := jmpV_b hU (x := (plU X.1.1 (F - 1)).toNat) (y := rv) (by omega) hrl
          generalize jmpV X.1.1 (plU X.1.1 (F - 1)).toNat rv = jj at *
          have cF' : ¬ (F : Int) ≤ 0 := by omega
          by_cases c : X.1.1 4 0 < jj
          · rw [if_pos ⟨cF, c⟩] at z
            rw [P_M_why_134]
            simp only [m_M_why, b_M_why_0, P_M_why_10, b_M_why_10, P_M_why_33, b_M_why_33, P_M_why_80, b_M_why_80, P_M_why_81, b_M_why_81, P_M_why_188, b_M_why_188, P_M_why_189, b_M_why_189, wp_aln0, wp_bipush, wp_cv1, wp_cv2, wp_cv3, wp_cv4, wp_cv5, wp_cv6, wp_cv7, wp_goto, wp_iadd, wp_iald, wp_icge, wp_icle, wp_icne, wp_iconst, wp_il4, wp_iln1, wp_iln2, wp_iln3, wp_inc4, wp_iret, wp_is4, wp_isn2, wp_isn3, wp_isub, wp_izle, wp_izlt, wp_izne, wp_nop, wp_zret, qmd_kd, qmd_k1, qmd_l1, qmd_gf0, qmd_k2, qmd_l2, qmd_gf1, qmd_k3, qmd_l3, qmd_gf2, qmd_k4, qmd_l4, qmd_gf4, qmd_k5, qmd_l5, qmd_gf6, qmd_k6, qmd_l6, qmd_gf7, qmd_k7, qmd_l7, qmd_gf10, qmd_k8, qmd_l8, qmd_gf11, qmd_k9, qmd_l9, qmd_gf12, qmd_gf3, qmd_pf3, qmd_gf5, qmd_pf5, qmd_gf8, qmd_pf8, qmd_gf9, qmd_pf9, wrI_row, cpI_row, row_s, row_n, row_ss, row_sw, upd_s, upd_n, ad_inj, ad_z, ad_z2, Nat.reduceEqDiff, reduceCtorEq, List.cons_append, List.nil_append, Option.toList_some, Option.toList_none, Int.toNat_natCast, List.length_cons, List.length_nil, Int.cast_ofNat_Int, Nat.reduceAdd, Nat.reduceLeDiff, Nat.reduceLT, Nat.reduceMul, Int.reduceAdd, Int.reduceSub, Int.reduceMul, Int.reduceNeg, Int.reduceLT, Int.reduceLE, Int.reduceEq, Int.reduceToNat, eq_self, true_and, and_true, true_or, or_true, false_or, or_false, if_true, if_false, not_true_eq_false, not_false_eq_true, and_self, ne_eq, b_M_why_134, hM, cF', ei, hp1, hj]
            (repeat' (first | apply And.intro | split)) <;> first | omega | exact z
          · rw [if_neg (fun w => c w.2)] at z
            have z2 := k157 z
            rw [P_M_why_134]
            simp only [m_M_why, b_M_why_0, P_M_why_10, b_M_why_10, P_M_why_33, b_M_why_33, P_M_why_80, b_M_why_80, P_M_why_81, b_M_why_81, P_M_why_188, b_M_why_188, P_M_why_189, b_M_why_189, wp_aln0, wp_bipush, wp_cv1, wp_cv2, wp_cv3, wp_cv4, wp_cv5, wp_cv6, wp_cv7, wp_goto, wp_iadd, wp_iald, wp_icge, wp_icle, wp_icne, wp_iconst, wp_il4, wp_iln1, wp_iln2, wp_iln3, wp_inc4, wp_iret, wp_is4, wp_isn2, wp_isn3, wp_isub, wp_izle, wp_izlt, wp_izne, wp_nop, wp_zret, qmd_kd, qmd_k1, qmd_l1, qmd_gf0, qmd_k2, qmd_l2, qmd_gf1, qmd_k3, qmd_l3, qmd_gf2, qmd_k4, qmd_l4, qmd_gf4, qmd_k5, qmd_l5, qmd_gf6, qmd_k6, qmd_l6, qmd_gf7, qmd_k7, qmd_l7, qmd_gf10, qmd_k8, qmd_l8, qmd_gf11, qmd_k9, qmd_l9, qmd_gf12, qmd_gf3, qmd_pf3, qmd_gf5, qmd_pf5, qmd_gf8, qmd_pf8, qmd_gf9, qmd_pf9, wrI_row, cpI_row, row_s, row_n, row_ss, row_sw, upd_s, upd_n, ad_inj, ad_z, ad_z2, Nat.reduceEqDiff, reduceCtorEq, List.cons_append, List.nil_append, Option.toList_some, Option.toList_none, Int.toNat_natCast, List.length_cons, List.length_nil, Int.cast_ofNat_Int, Nat.reduceAdd, Nat.reduceLeDiff, Nat.reduceLT, Nat.reduceMul, Int.reduceAdd, Int.reduceSub, Int.reduceMul, Int.reduceNeg, Int.reduceLT, Int.reduceLE, Int.reduceEq, Int.reduceToNat, eq_self, true_and, and_true, true_or, or_true, false_or, or_false, if_true, if_false, not_true_eq_false, not_false_eq_true, and_self, ne_eq, b_M_why_134, hM, cF', ei, hp1, hj]
            (repeat' (first | apply And.intro | split)) <;> first | omega | exact z2
        · rw [if_neg (fun w => cF w.1)] at z
          have z2 := k157 z
          have cF' : (F : Int) ≤ 0 := by omega
          rw [P_M_why_134]
          simp only [m_M_why, b_M_why_0, P_M_why_10, b_M_why_10, P_M_why_33, b_M_why_33, P_M_why_80, b_M_why_80, P_M_why_81, b_M_why_81, P_M_why_188, b_M_why_188, P_M_why_189, b_M_why_189, wp_aln0, wp_bipush, wp_cv1, wp_cv2, wp_cv3, wp_cv4, wp_cv5, wp_cv6, wp_cv7, wp_goto, wp_iadd, wp_iald, wp_icge, wp_icle, wp_icne, wp_iconst, wp_il4, wp_iln1, wp_iln2, wp_iln3, wp_inc4, wp_iret, wp_is4, wp_isn2, wp_isn3, wp_isub, wp_izle, wp_izlt, wp_izne, wp_nop, wp_zret, qmd_kd, qmd_k1, qmd_l1, qmd_gf0, qmd_k2, qmd_l2, qmd_gf1, qmd_k3, qmd_l3, qmd_gf2, qmd_k4, qmd_l4, qmd_gf4, qmd_k5, qmd_l5, qmd_gf6, qmd_k6, qmd_l6, qmd_gf7, qmd_k7, qmd_l7, qmd_gf10, qmd_k8, qmd_l8, qmd_gf11, qmd_k9, qmd_l9, qmd_gf12, qmd_gf3, qmd_pf3, qmd_gf5, qmd_pf5, qmd_gf8, qmd_pf8, qmd_gf9, qmd_pf9, wrI_row, cpI_row, row_s, row_n, row_ss, row_sw, upd_s, upd_n, ad_inj, ad_z, ad_z2, Nat.reduceEqDiff, reduceCtorEq, List.cons_append, List.nil_append, Option.toList_some, Option.toList_none, Int.toNat_natCast, List.length_cons, List.length_nil, Int.cast_ofNat_Int, Nat.reduceAdd, Nat.reduceLeDiff, Nat.reduceLT, Nat.reduceMul, Int.reduceAdd, Int.reduceSub, Int.reduceMul, Int.reduceNeg, Int.reduceLT, Int.reduceLE, Int.reduceEq, Int.reduceToNat, eq_self, true_and, and_true, true_or, or_true, false_or, or_false, if_true, if_false, not_true_eq_false, not_false_eq_true, and_self, ne_eq, b_M_why_134, hM, cF']
          (repeat' (first | apply And.intro | split)) <;> first | omega | exact z2
      by_cases cw : v1 = v2
      · rw [if_pos cw] at q
        rw [P_M_why_88]
        simp only [m_M_why, b_M_why_0, P_M_why_10, b_M_why_10, P_M_why_33, b_M_why_33, P_M_why_80, b_M_why_80, P_M_why_81, b_M_why_81, P_M_why_188, b_M_why_188, P_M_why_189, b_M_why_189, wp_aln0, wp_bipush, wp_cv1, wp_cv2, wp_cv3, wp_cv4, wp_cv5, wp_cv6, wp_cv7, wp_goto, wp_iadd, wp_iald, wp_icge, wp_icle, wp_icne, wp_iconst, wp_il4, wp_iln1, wp_iln2, wp_iln3, wp_inc4, wp_iret, wp_is4, wp_isn2, wp_isn3, wp_isub, wp_izle, wp_izlt, wp_izne, wp_nop, wp_zret, qmd_kd, qmd_k1, qmd_l1, qmd_gf0, qmd_k2, qmd_l2, qmd_gf1, qmd_k3, qmd_l3, qmd_gf2, qmd_k4, qmd_l4, qmd_gf4, qmd_k5, qmd_l5, qmd_gf6, qmd_k6, qmd_l6, qmd_gf7, qmd_k7, qmd_l7, qmd_gf10, qmd_k8, qmd_l8, qmd_gf11, qmd_k9, qmd_l9, qmd_gf12, qmd_gf3, qmd_pf3, qmd_gf5, qmd_pf5, qmd_gf8, qmd_pf8, qmd_gf9, qmd_pf9, wrI_row, cpI_row, row_s, row_n, row_ss, row_sw, upd_s, upd_n, ad_inj, ad_z, ad_z2, Nat.reduceEqDiff, reduceCtorEq, List.cons_append, List.nil_append, Option.toList_some, Option.toList_none, Int.toNat_natCast, List.length_cons, List.length_nil, Int.cast_ofNat_Int, Nat.reduceAdd, Nat.reduceLeDiff, Nat.reduceLT, Nat.reduceMul, Int.reduceAdd, Int.reduceSub, Int.reduceMul, Int.reduceNeg, Int.reduceLT, Int.reduceLE, Int.reduceEq, Int.reduceToNat, eq_self, true_and, and_true, true_or, or_true, false_or, or_false, if_true, if_false, not_true_eq_false, not_false_eq_true, and_self, ne_eq, b_M_why_88, hM, hk1, pF0, w1, w2, cw]
        (repeat' (first | apply And.intro | split)) <;> first | omega | exact q
      · rw [if_neg cw] at q
        have k120 : Wp zt 157 (P 157 120) [some (AR M), some (AI F), some (AI (X.1.1 4 0)), some (AI rv), o4] [] (g1, ρ) Q := by
          by_cases c9' : X.1.1 9 F = -1
          · rw [if_neg (fun w => w c9')] at q
            have z2 := k134 q
            rw [P_M_why_120]
            simp only [m_M_why, b_M_why_0, P_M_why_10, b_M_why_10, P_M_why_33, b_M_why_33, P_M_why_80, b_M_why_80, P_M_why_81, b_M_why_81, P_M_why_188, b_M_why_188, P_M_why_189, b_M_why_189, wp_aln0, wp_bipush, wp_cv1, wp_cv2, wp_cv3, wp_cv4, wp_cv5, wp_cv6, wp_cv7, wp_goto, wp_iadd, wp_iald, wp_icge, wp_icle, wp_icne, wp_iconst, wp_il4, wp_iln1, wp_iln2, wp_iln3, wp_inc4, wp_iret, wp_is4, wp_isn2, wp_isn3, wp_isub, wp_izle, wp_izlt, wp_izne, wp_nop, wp_zret, qmd_kd, qmd_k1, qmd_l1, qmd_gf0, qmd_k2, qmd_l2, qmd_gf1, qmd_k3, qmd_l3, qmd_gf2, qmd_k4, qmd_l4, qmd_gf4, qmd_k5, qmd_l5, qmd_gf6, qmd_k6, qmd_l6, qmd_gf7, qmd_k7, qmd_l7, qmd_gf10, qmd_k8, qmd_l8, qmd_gf11, qmd_k9, qmd_l9, qmd_gf12, qmd_gf3, qmd_pf3, qmd_gf5, qmd_pf5, qmd_gf8, qmd_pf8, qmd_gf9, qmd_pf9, wrI_row, cpI_row, row_s, row_n, row_ss, row_sw, upd_s, upd_n, ad_inj, ad_z, ad_z2, Nat.reduceEqDiff, reduceCtorEq, List.cons_append, List.nil_append, Option.toList_some, Option.toList_none, Int.toNat_natCast, List.length_cons, List.length_nil, Int.cast_ofNat_Int, Nat.reduceAdd, Nat.reduceLeDiff, Nat.reduceLT, Nat.reduceMul, Int.reduceAdd, Int.reduceSub, Int.reduceMul, Int.reduceNeg, Int.reduceLT, Int.reduceLE, Int.reduceEq, Int.reduceToNat, eq_self, true_and, and_true, true_or, or_true, false_or, or_false, if_true, if_false, not_true_eq_false, not_false_eq_true, and_self, ne_eq, b_M_why_120, hM, i9, r9, c9']
            (repeat' (first | apply And.intro | split)) <;> first | omega | exact z2
          · rw [if_pos c9'] at q
            rw [P_M_why_120]
            simp only [m_M_why, b_M_why_0, P_M_why_10, b_M_why_10, P_M_why_33, b_M_why_33, P_M_why_80, b_M_why_80, P_M_why_81, b_M_why_81, P_M_why_188, b_M_why_188, P_M_why_189, b_M_why_189, wp_aln0, wp_bipush, wp_cv1, wp_cv2, wp_cv3, wp_cv4, wp_cv5, wp_cv6, wp_cv7, wp_goto, wp_iadd, wp_iald, wp_icge, wp_icle, wp_icne, wp_iconst, wp_il4, wp_iln1, wp_iln2, wp_iln3, wp_inc4, wp_iret, wp_is4, wp_isn2, wp_isn3, wp_isub, wp_izle, wp_izlt, wp_izne, wp_nop, wp_zret, qmd_kd, qmd_k1, qmd_l1, qmd_gf0, qmd_k2, qmd_l2, qmd_gf1, qmd_k3, qmd_l3, qmd_gf2, qmd_k4, qmd_l4, qmd_gf4, qmd_k5, qmd_l5, qmd_gf6, qmd_k6, qmd_l6, qmd_gf7, qmd_k7, qmd_l7, qmd_gf10, qmd_k8, qmd_l8, qmd_gf11, qmd_k9, qmd_l9, qmd_gf12, qmd_gf3, qmd_pf3, qmd_gf5, qmd_pf5, qmd_gf8, qmd_pf8, qmd_gf9, qmd_pf9, wrI_row, cpI_row, row_s, row_n, row_ss, row_sw, upd_s, upd_n, ad_inj, ad_z, ad_z2, Nat.reduceEqDiff, reduceCtorEq, List.cons_append, List.nil_append, Option.toList_some, Option.toList_none, Int.toNat_natCast, List.length_cons, List.length_nil, Int.cast_ofNat_Int, Nat.reduceAdd, Nat.reduceLeDiff, Nat.reduceLT, Nat.reduceMul, Int.reduceAdd, Int.reduceSub, Int.reduceMul, Int.reduceNeg, Int.reduceLT, Int.reduceLE, Int.reduceEq, Int.reduceToNat, eq_self, true_and, and_true, true_or, or_true, false_or, or_false, if_true, if_false, not_true_eq_false, not_false_eq_true, and_self, ne_eq, b_M_why_120, hM, i9, r9]
            (repeat' (first | apply And.intro | split)) <;> first | omega | exact q
        rw [P_M_why_88]
        simp only [m_M_why, b_M_why_0, P_M_why_10, b_M_why_10, P_M_why_33, b_M_why_33, P_M_why_80, b_M_why_80, P_M_why_81, b_M_why_81, P_M_why_188, b_M_why_188, P_M_why_189, b_M_why_189, wp_aln0, wp_bipush, wp_cv1, wp_cv2, wp_cv3, wp_cv4, wp_cv5, wp_cv6, wp_cv7, wp_goto, wp_iadd, wp_iald, wp_icge, wp_icle, wp_icne, wp_iconst, wp_il4, wp_iln1, wp_iln2, wp_iln3, wp_inc4, wp_iret, wp_is4, wp_isn2, wp_isn3, wp_isub, wp_izle, wp_izlt, wp_izne, wp_nop, wp_zret, qmd_kd, qmd_k1, qmd_l1, qmd_gf0, qmd_k2, qmd_l2, qmd_gf1, qmd_k3, qmd_l3, qmd_gf2, qmd_k4, qmd_l4, qmd_gf4, qmd_k5, qmd_l5, qmd_gf6, qmd_k6, qmd_l6, qmd_gf7, qmd_k7, qmd_l7, qmd_gf10, qmd_k8, qmd_l8, qmd_gf11, qmd_k9, qmd_l9, qmd_gf12, qmd_gf3, qmd_pf3, qmd_gf5, qmd_pf5, qmd_gf8, qmd_pf8, qmd_gf9, qmd_pf9, wrI_row, cpI_row, row_s, row_n, row_ss, row_sw, upd_s, upd_n, ad_inj, ad_z, ad_z2, Nat.reduceEqDiff, reduceCtorEq, List.cons_append, List.nil_append, Option.toList_some, Option.toList_none, Int.toNat_natCast, List.length_cons, List.length_nil, Int.cast_ofNat_Int, Nat.reduceAdd, Nat.reduceLeDiff, Nat.reduceLT, Nat.reduceMul, Int.reduceAdd, Int.reduceSub, Int.reduceMul, Int.reduceNeg, Int.reduceLT, Int.reduceLE, Int.reduceEq, Int.reduceToNat, eq_self, true_and, and_true, true_or, or_true, false_or, or_false, if_true, if_false, not_true_eq_false, not_false_eq_true, and_self, ne_eq, b_M_why_88, hM, hk1, pF0, w1, w2, cw]
        (repeat' (first | apply And.intro | split)) <;> first | omega | exact k120
    have k38 := rival_loop (zt := zt) hM hR1 hU c1.2 hk1 k88 ((X.1.1 0 0).toNat - 1) 1 (by omega) (Nat.le_refl _)
    rw [amin_1] at k38
    have k33 : Wp zt 157 (P 157 33) [some (AR M), some (AI F), some (AI (X.1.1 4 0)), none, none] [] (g1, ρ) Q := by
      rw [P_M_why_33]
      simp only [m_M_why, b_M_why_0, P_M_why_10, b_M_why_10, P_M_why_80, b_M_why_80, P_M_why_81, b_M_why_81, P_M_why_188, b_M_why_188, P_M_why_189, b_M_why_189, wp_aln0, wp_bipush, wp_cv1, wp_cv2, wp_cv3, wp_cv4, wp_cv5, wp_cv6, wp_cv7, wp_goto, wp_iadd, wp_iald, wp_icge, wp_icle, wp_icne, wp_iconst, wp_il4, wp_iln1, wp_iln2, wp_iln3, wp_inc4, wp_iret, wp_is4, wp_isn2, wp_isn3, wp_isub, wp_izle, wp_izlt, wp_izne, wp_nop, wp_zret, qmd_kd, qmd_k1, qmd_l1, qmd_gf0, qmd_k2, qmd_l2, qmd_gf1, qmd_k3, qmd_l3, qmd_gf2, qmd_k4, qmd_l4, qmd_gf4, qmd_k5, qmd_l5, qmd_gf6, qmd_k6, qmd_l6, qmd_gf7, qmd_k7, qmd_l7, qmd_gf10, qmd_k8, qmd_l8, qmd_gf11, qmd_k9, qmd_l9, qmd_gf12, qmd_gf3, qmd_pf3, qmd_gf5, qmd_pf5, qmd_gf8, qmd_pf8, qmd_gf9, qmd_pf9, wrI_row, cpI_row, row_s, row_n, row_ss, row_sw, upd_s, upd_n, ad_inj, ad_z, ad_z2, Nat.reduceEqDiff, reduceCtorEq, List.cons_append, List.nil_append, Option.toList_some, Option.toList_none, Int.toNat_natCast, List.length_cons, List.length_nil, Int.cast_ofNat_Int, Nat.reduceAdd, Nat.reduceLeDiff, Nat.reduceLT, Nat.reduceMul, Int.reduceAdd, Int.reduceSub, Int.reduceMul, Int.reduceNeg, Int.reduceLT, Int.reduceLE, Int.reduceEq, Int.reduceToNat, eq_self, true_and, and_true, true_or, or_true, false_or, or_false, if_true, if_false, not_true_eq_false, not_false_eq_true, and_self, ne_eq, b_M_why_33, hM]
      exact k38
    simp only [m_M_why, b_M_why_0, P_M_why_10, b_M_why_10, P_M_why_80, b_M_why_80, P_M_why_81, b_M_why_81, P_M_why_188, b_M_why_188, P_M_why_189, b_M_why_189, wp_aln0, wp_bipush, wp_cv1, wp_cv2, wp_cv3, wp_cv4, wp_cv5, wp_cv6, wp_cv7, wp_goto, wp_iadd, wp_iald, wp_icge, wp_icle, wp_icne, wp_iconst, wp_il4, wp_iln1, wp_iln2, wp_iln3, wp_inc4, wp_iret, wp_is4, wp_isn2, wp_isn3, wp_isub, wp_izle, wp_izlt, wp_izne, wp_nop, wp_zret, qmd_kd, qmd_k1, qmd_l1, qmd_gf0, qmd_k2, qmd_l2, qmd_gf1, qmd_k3, qmd_l3, qmd_gf2, qmd_k4, qmd_l4, qmd_gf4, qmd_k5, qmd_l5, qmd_gf6, qmd_k6, qmd_l6, qmd_gf7, qmd_k7, qmd_l7, qmd_gf10, qmd_k8, qmd_l8, qmd_gf11, qmd_k9, qmd_l9, qmd_gf12, qmd_gf3, qmd_pf3, qmd_gf5, qmd_pf5, qmd_gf8, qmd_pf8, qmd_gf9, qmd_pf9, wrI_row, cpI_row, row_s, row_n, row_ss, row_sw, upd_s, upd_n, ad_inj, ad_z, ad_z2, Nat.reduceEqDiff, reduceCtorEq, List.cons_append, List.nil_append, Option.toList_some, Option.toList_none, Int.toNat_natCast, List.length_cons, List.length_nil, Int.cast_ofNat_Int, Nat.reduceAdd, Nat.reduceLeDiff, Nat.reduceLT, Nat.reduceMul, Int.reduceAdd, Int.reduceSub, Int.reduceMul, Int.reduceNeg, Int.reduceLT, Int.reduceLE, Int.reduceEq, Int.reduceToNat, eq_self, true_and, and_true, true_or, or_true, false_or, or_false, if_true, if_false, not_true_eq_false, not_false_eq_true, and_self, ne_eq, hM]
    (repeat' (first | apply And.intro | split)) <;> first | omega | exact k33
theorem d_finish (hX : RepM g ρ M X) (hW : WFX X) (hQ : MdQ g ρ M (sFinish X) Q) : WpM zt 123 [AR M] (g, ρ) Q := by
  obtain ⟨hM, hS, -⟩ := id hX
  have hR := hS.1
  have hU := hW.1.1
  have e0 := m_0 hR
  have e5 := m_5 hR
  have b0 := hU.1
  have b5 := hU.2.2.2.2.1
  have b8 := hU.2.2.2.2.2.2.1
  have b4 := hU.2.2.2.1
  unfold sFinish at hQ
  have s0 := setting_ok (zt := zt) hM hR (w := 0) (by omega) (by omega)
  have es0 : X.1.1 4 (0 : Int).toNat = X.1.1 4 0 := rfl
  rw [es0] at s0
  simp only [m_M_finish, b_M_finish_0, wp_abs, wp_aln0, wp_bipush, wp_copy, wp_cs1, wp_cs2, wp_cs3, wp_cs4, wp_cs5, wp_cs6, wp_cs7, wp_cv1, wp_cv2, wp_cv3, wp_cv4, wp_cv5, wp_cv6, wp_cv7, wp_icne, wp_iconst, wp_iln1, wp_iret, wp_isn1, wp_max, wp_min, wp_sipush, wp_zret, qmd_kd, qmd_k1, qmd_l1, qmd_gf0, qmd_k2, qmd_l2, qmd_gf1, qmd_k3, qmd_l3, qmd_gf2, qmd_k4, qmd_l4, qmd_gf4, qmd_k5, qmd_l5, qmd_gf6, qmd_k6, qmd_l6, qmd_gf7, qmd_k7, qmd_l7, qmd_gf10, qmd_k8, qmd_l8, qmd_gf11, qmd_k9, qmd_l9, qmd_gf12, qmd_gf3, qmd_pf3, qmd_gf5, qmd_pf5, qmd_gf8, qmd_pf8, qmd_gf9, qmd_pf9, wrI_row, cpI_row, row_s, row_n, row_ss, row_sw, upd_s, upd_n, ad_inj, ad_z, ad_z2, Nat.reduceEqDiff, reduceCtorEq, List.cons_append, List.nil_append, Option.toList_some, Option.toList_none, Int.toNat_natCast, List.length_cons, List.length_nil, Int.cast_ofNat_Int, Nat.reduceAdd, Nat.reduceLeDiff, Nat.reduceLT, Nat.reduceMul, Int.reduceAdd, Int.reduceSub, Int.reduceMul, Int.reduceNeg, Int.reduceLT, Int.reduceLE, Int.reduceEq, Int.reduceToNat, eq_self, true_and, and_true, true_or, or_true, false_or, or_false, if_true, if_false, not_true_eq_false, not_false_eq_true, and_self, ne_eq, hM, s0]
  (repeat' (first | apply And.intro | split)) <;> first | omega | skip
  refine find_u hX hW (by omega) (fun g1 y1 y2 y3 => ?_)
  have lb := lsU_b hU (X.1.1 4 0)
  have hX1 := y1.rep hX
  by_cases c9 : lsU X.1.1 (X.1.1 4 0) = -99
  · rw [if_pos c9] at hQ
    have q := hQ g1 hX1 (fun x z => y1.fr x z)
    rw [c9]
    simp only [m_M_finish, b_M_finish_0, wp_abs, wp_aln0, wp_bipush, wp_copy, wp_cs1, wp_cs2, wp_cs3, wp_cs4, wp_cs5, wp_cs6, wp_cs7, wp_cv1, wp_cv2, wp_cv3, wp_cv4, wp_cv5, wp_cv6, wp_cv7, wp_icne, wp_iconst, wp_iln1, wp_iret, wp_isn1, wp_max, wp_min, wp_sipush, wp_zret, qmd_kd, qmd_k1, qmd_l1, qmd_gf0, qmd_k2, qmd_l2, qmd_gf1, qmd_k3, qmd_l3, qmd_gf2, qmd_k4, qmd_l4, qmd_gf4, qmd_k5, qmd_l5, qmd_gf6, qmd_k6, qmd_l6, qmd_gf7, qmd_k7, qmd_l7, qmd_gf10, qmd_k8, qmd_l8, qmd_gf11, qmd_k9, qmd_l9, qmd_gf12, qmd_gf3, qmd_pf3, qmd_gf5, qmd_pf5, qmd_gf8, qmd_pf8, qmd_gf9, qmd_pf9, wrI_row, cpI_row, row_s, row_n, row_ss, row_sw, upd_s, upd_n, ad_inj, ad_z, ad_z2, Nat.reduceEqDiff, reduceCtorEq, List.cons_append, List.nil_append, Option.toList_some, Option.toList_none, Int.toNat_natCast, List.length_cons, List.length_nil, Int.cast_ofNat_Int, Nat.reduceAdd, Nat.reduceLeDiff, Nat.reduceLT, Nat.reduceMul, Int.reduceAdd, Int.reduceSub, Int.reduceMul, Int.reduceNeg, Int.reduceLT, Int.reduceLE, Int.reduceEq, Int.reduceToNat, eq_self, true_and, and_true, true_or, or_true, false_or, or_false, if_true, if_false, not_true_eq_false, not_false_eq_true, and_self, ne_eq, hM]
    (repeat' (first | apply And.intro | split)) <;> first | omega | exact q
  · rw [if_neg c9] at hQ
    have hpl := fun y hy => y3 rfl c9 y hy
    have k23 : Wp zt 123 (P 123 23) [some (AR M), some (AI (lsU X.1.1 (X.1.1 4 0)))] [] (g1, ρ) Q := by
      rw [P_M_finish_23]
      simp only [m_M_finish, b_M_finish_0, wp_abs, wp_aln0, wp_bipush, wp_copy, wp_cs1, wp_cs2, wp_cs3, wp_cs4, wp_cs5, wp_cs6, wp_cs7, wp_cv1, wp_cv2, wp_cv3, wp_cv4, wp_cv5, wp_cv6, wp_cv7, wp_icne, wp_iconst, wp_iln1, wp_iret, wp_isn1, wp_max, wp_min, wp_sipush, wp_zret, qmd_kd, qmd_k1, qmd_l1, qmd_gf0, qmd_k2, qmd_l2, qmd_gf1, qmd_k3, qmd_l3, qmd_gf2, qmd_k4, qmd_l4, qmd_gf4, qmd_k5, qmd_l5, qmd_gf6, qmd_k6, qmd_l6, qmd_gf7, qmd_k7, qmd_l7, qmd_gf10, qmd_k8, qmd_l8, qmd_gf11, qmd_k9, qmd_l9, qmd_gf12, qmd_gf3, qmd_pf3, qmd_gf5, qmd_pf5, qmd_gf8, qmd_pf8, qmd_gf9, qmd_pf9, wrI_row, cpI_row, row_s, row_n, row_ss, row_sw, upd_s, upd_n, ad_inj, ad_z, ad_z2, Nat.reduceEqDiff, reduceCtorEq, List.cons_append, List.nil_append, Option.toList_some, Option.toList_none, Int.toNat_natCast, List.length_cons, List.length_nil, Int.cast_ofNat_Int, Nat.reduceAdd, Nat.reduceLeDiff, Nat.reduceLT, Nat.reduceMul, Int.reduceAdd, Int.reduceSub, Int.reduceMul, Int.reduceNeg, Int.reduceLT, Int.reduceLE, Int.reduceEq, Int.reduceToNat, eq_self, true_and, and_true, true_or, or_true, false_or, or_false, if_true, if_false, not_true_eq_false, not_false_eq_true, and_self, ne_eq, b_M_finish_23, hM]
      refine keep_ok hX1 hW (fun g' j1 j2 j3 => ?_)
      have hR' : LR (-1) (vwM (g' (ad M 1))) X.1.1 := j1.2.1.1
      have fo := frames_ok (zt := zt) (g := g') (ρ := ρ) hM hR' hU
      have f1 := fun Q => bring_ok (zt := zt) (g := g') (ρ := ρ) (b := ad M 8) (c := ad M 1) (sp := 0) (dp := 218) (n := pF X.1.1) (sp' := 0) (dp' := 218) (n' := X.1.1 8 0) (qmd_k8 hM) (qmd_k1 hM) (qmd_l8 hM) (qmd_l1 hM) (by unfold pF; omega) (by unfold pF; omega) (by omega) (by omega) (Or.inl (by unfold ad; omega)) rfl rfl (by unfold pF; omega) Q
      have hp8 : ∀ j, j < pF X.1.1 → g' (ad M 8) j = plU X.1.1 j := fun j hj => by
        rw [j2 _ (by unfold ad; omega) (by unfold ad; omega)]
        exact hpl j hj
      have hWF := finU_wf hU
      have hFz : ∀ k j, k ≠ 10 → finU X.1.1 k j = X.1.1 k j := fun k j z => finU_n z
      have hpF9 : pF X.1.1 ≤ 99 := by unfold pF; omega
      have hl : LR (-1) (vwM (cpR (g' (ad M 8)) (g' (ad M 1)) 0 218 (pF X.1.1))) (finU X.1.1) := by
        refine lrm_mk hWF ?_ ?_ (fun j hj => ?_) (fun j hj => ?_) (fun j hj => ?_) (fun j hj => ?_) (fun j hj => ?_)
        · rw [cpR_out (by omega), hFz 0 0 (by decide)]
          exact m_0 hR'
        · rw [cpR_out (by omega), hFz 5 0 (by decide)]
          exact m_5 hR'
        · rw [hFz 0 0 (by decide)] at hj
          rw [cpR_out (by omega), cpR_out (by omega), hFz 1 j (by decide), hFz 2 j (by decide)]
          exact p_1 hR' hU hj
        · rw [cpR_out (by omega), hFz 3 j (by decide)]
          exact m_sn hR' hj
        · rw [cpR_out (by omega), hFz 4 j (by decide)]
          exact m_nm hR' hj
        · rw [hFz 5 0 (by decide)] at hj
          rw [cpR_out (by omega), cpR_out (by omega), hFz 6 j (by decide), hFz 7 j (by decide)]
          exact p_6 hR' hU hj
        · rw [hFz 8 0 (by decide)] at hj
          have hj2 : j < pF X.1.1 := by unfold pF; omega
          have e10 : finU X.1.1 10 j = plU X.1.1 j := if_pos ⟨rfl, hj2⟩
          rw [cpR_out (y := 119 + j) (by omega), cpR_in (y := 218 + j) (by omega) (by omega), hFz 9 j (by decide), e10, show 0 + (218 + j - 218) = j by omega]
          exact ⟨(p_9 hR' hU hj).1, hp8 j hj2⟩
      have q := hQ _ (j1.pg hW hl (fun y z1 z2 => cpR_out (by omega))) (fun x z => (pg_fr j2 x z).trans (y1.fr x z))
      simp only [m_M_finish, b_M_finish_0, wp_abs, wp_aln0, wp_bipush, wp_copy, wp_cs1, wp_cs2, wp_cs3, wp_cs4, wp_cs5, wp_cs6, wp_cs7, wp_cv1, wp_cv2, wp_cv3, wp_cv4, wp_cv5, wp_cv6, wp_cv7, wp_icne, wp_iconst, wp_iln1, wp_iret, wp_isn1, wp_max, wp_min, wp_sipush, wp_zret, qmd_kd, qmd_k1, qmd_l1, qmd_gf0, qmd_k2, qmd_l2, qmd_gf1, qmd_k3, qmd_l3, qmd_gf2, qmd_k4, qmd_l4, qmd_gf4, qmd_k5, qmd_l5, qmd_gf6, qmd_k6, qmd_l6, qmd_gf7, qmd_k7, qmd_l7, qmd_gf10, qmd_k8, qmd_l8, qmd_gf11, qmd_k9, qmd_l9, qmd_gf12, qmd_gf3, qmd_pf3, qmd_gf5, qmd_pf5, qmd_gf8, qmd_pf8, qmd_gf9, qmd_pf9, wrI_row, cpI_row, row_s, row_n, row_ss, row_sw, upd_s, upd_n, ad_inj, ad_z, ad_z2, Nat.reduceEqDiff, reduceCtorEq, List.cons_append, List.nil_append, Option.toList_some, Option.toList_none, Int.toNat_natCast, List.length_cons, List.length_nil, Int.cast_ofNat_Int, Nat.reduceAdd, Nat.reduceLeDiff, Nat.reduceLT, Nat.reduceMul, Int.reduceAdd, Int.reduceSub, Int.reduceMul, Int.reduceNeg, Int.reduceLT, Int.reduceLE, Int.reduceEq, Int.reduceToNat, eq_self, true_and, and_true, true_or, or_true, false_or, or_false, if_true, if_false, not_true_eq_false, not_false_eq_true, and_self, ne_eq, hM, fo, f1]
      (repeat' (first | apply And.intro | split)) <;> first | omega | exact q
    simp only [m_M_finish, b_M_finish_0, wp_abs, wp_aln0, wp_bipush, wp_copy, wp_cs1, wp_cs2, wp_cs3, wp_cs4, wp_cs5, wp_cs6, wp_cs7, wp_cv1, wp_cv2, wp_cv3, wp_cv4, wp_cv5, wp_cv6, wp_cv7, wp_icne, wp_iconst, wp_iln1, wp_iret, wp_isn1, wp_max, wp_min, wp_sipush, wp_zret, qmd_kd, qmd_k1, qmd_l1, qmd_gf0, qmd_k2, qmd_l2, qmd_gf1, qmd_k3, qmd_l3, qmd_gf2, qmd_k4, qmd_l4, qmd_gf4, qmd_k5, qmd_l5, qmd_gf6, qmd_k6, qmd_l6, qmd_gf7, qmd_k7, qmd_l7, qmd_gf10, qmd_k8, qmd_l8, qmd_gf11, qmd_k9, qmd_l9, qmd_gf12, qmd_gf3, qmd_pf3, qmd_gf5, qmd_pf5, qmd_gf8, qmd_pf8, qmd_gf9, qmd_pf9, wrI_row, cpI_row, row_s, row_n, row_ss, row_sw, upd_s, upd_n, ad_inj, ad_z, ad_z2, Nat.reduceEqDiff, reduceCtorEq, List.cons_append, List.nil_append, Option.toList_some, Option.toList_none, Int.toNat_natCast, List.length_cons, List.length_nil, Int.cast_ofNat_Int, Nat.reduceAdd, Nat.reduceLeDiff, Nat.reduceLT, Nat.reduceMul, Int.reduceAdd, Int.reduceSub, Int.reduceMul, Int.reduceNeg, Int.reduceLT, Int.reduceLE, Int.reduceEq, Int.reduceToNat, eq_self, true_and, and_true, true_or, or_true, false_or, or_false, if_true, if_false, not_true_eq_false, not_false_eq_true, and_self, ne_eq, hM]
    (repeat' (first | apply And.intro | split)) <;> first | omega | exact k23
end MLL
