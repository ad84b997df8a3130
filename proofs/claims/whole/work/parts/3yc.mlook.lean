/-! THE REFERENCE'S CALLS: looking, text, undo -/
section MLK
variable {zt : Nat → Nat} {g : Nat → Nat → Int} {ρ : Ri} {M : Nat} {X : XV} {Q : Option AV → Sto → Prop}
theorem d_mouth (hX : RepM g ρ M X) (hW : WFX X) {m w : Int} (hm : i32 m) (hw : i32 w) (hQ : MdQ g ρ M (sMouth m w X, X) Q) : WpM zt 146 [AR M, AI m, AI w] (g, ρ) Q := by
  obtain ⟨hM, hS, -⟩ := id hX
  have hR := hS.1
  have hU := hW.1.1
  have e0 := m_0 hR
  have e5 := m_5 hR
  have b0 := hU.1
  have b5 := hU.2.2.2.2.1
  have b8 := hU.2.2.2.2.2.2.1
  have q := hQ.ro hX
  unfold sMouth at q
  have h1 := isMouth_ok (zt := zt) hM hR hU hm
  by_cases c1 : 0 ≤ m ∧ m < X.1.1 0 0
  · rw [b2_t c1] at h1
    by_cases c2 : 0 ≤ w ∧ w ≤ 1
    · have ho := fun Q => in_t (zt := zt) (g := g) (ρ := ρ) (lo := 0) (hi := 1) (by omega) (by omega) c2 Q
      rw [if_pos ⟨c1.1, c1.2, c2⟩] at q
      have r1 : g (ad M 1) (1 + 2 * m + w).toNat = if w = 0 then X.1.1 1 m.toNat else X.1.1 2 m.toNat := by
        by_cases c3 : w = 0
        · rw [if_pos c3, c3, Int.add_zero]
          exact m_op hR hU c1.1 c1.2
        · rw [if_neg c3, show w = 1 by omega]
          exact m_wd hR hU c1.1 c1.2
      simp only [m_M_mouth, b_M_mouth_0, P_M_mouth_32, b_M_mouth_32, P_M_mouth_33, b_M_mouth_33, wp_abs, wp_aln0, wp_copy, wp_cs1, wp_cs2, wp_cs3, wp_cs4, wp_cs5, wp_cs6, wp_cs7, wp_cv1, wp_cv2, wp_cv3, wp_cv4, wp_cv5, wp_cv6, wp_cv7, wp_goto, wp_iadd, wp_iald, wp_iconst, wp_iln1, wp_iln2, wp_imul, wp_iret, wp_izeq, wp_max, wp_min, wp_nop, wp_zret, qmd_kd, qmd_k1, qmd_l1, qmd_gf0, qmd_k2, qmd_l2, qmd_gf1, qmd_k3, qmd_l3, qmd_gf2, qmd_k4, qmd_l4, qmd_gf4, qmd_k5, qmd_l5, qmd_gf6, qmd_k6, qmd_l6, qmd_gf7, qmd_k7, qmd_l7, qmd_gf10, qmd_k8, qmd_l8, qmd_gf11, qmd_k9, qmd_l9, qmd_gf12, qmd_gf3, qmd_pf3, qmd_gf5, qmd_pf5, qmd_gf8, qmd_pf8, qmd_gf9, qmd_pf9, wrI_row, cpI_row, row_s, row_n, row_ss, row_sw, upd_s, upd_n, ad_inj, ad_z, ad_z2, Nat.reduceEqDiff, reduceCtorEq, List.cons_append, List.nil_append, Option.toList_some, Option.toList_none, Int.toNat_natCast, List.length_cons, List.length_nil, Int.cast_ofNat_Int, Nat.reduceAdd, Nat.reduceLeDiff, Nat.reduceLT, Nat.reduceMul, Int.reduceAdd, Int.reduceSub, Int.reduceMul, Int.reduceNeg, Int.reduceLT, Int.reduceLE, Int.reduceEq, Int.reduceToNat, eq_self, true_and, and_true, true_or, or_true, false_or, or_false, if_true, if_false, not_true_eq_false, not_false_eq_true, and_self, ne_eq, hM, h1, ho, r1]
      (repeat' (first | apply And.intro)) <;> first | omega | exact q
    · have ho := fun Q => in_f (zt := zt) (g := g) (ρ := ρ) (lo := 0) (hi := 1) hw (by omega) (by omega) c2 Q
      rw [if_neg (by omega)] at q
      simp only [m_M_mouth, b_M_mouth_0, P_M_mouth_32, b_M_mouth_32, P_M_mouth_33, b_M_mouth_33, wp_abs, wp_aln0, wp_copy, wp_cs1, wp_cs2, wp_cs3, wp_cs4, wp_cs5, wp_cs6, wp_cs7, wp_cv1, wp_cv2, wp_cv3, wp_cv4, wp_cv5, wp_cv6, wp_cv7, wp_goto, wp_iadd, wp_iald, wp_iconst, wp_iln1, wp_iln2, wp_imul, wp_iret, wp_izeq, wp_max, wp_min, wp_nop, wp_zret, qmd_kd, qmd_k1, qmd_l1, qmd_gf0, qmd_k2, qmd_l2, qmd_gf1, qmd_k3, qmd_l3, qmd_gf2, qmd_k4, qmd_l4, qmd_gf4, qmd_k5, qmd_l5, qmd_gf6, qmd_k6, qmd_l6, qmd_gf7, qmd_k7, qmd_l7, qmd_gf10, qmd_k8, qmd_l8, qmd_gf11, qmd_k9, qmd_l9, qmd_gf12, qmd_gf3, qmd_pf3, qmd_gf5, qmd_pf5, qmd_gf8, qmd_pf8, qmd_gf9, qmd_pf9, wrI_row, cpI_row, row_s, row_n, row_ss, row_sw, upd_s, upd_n, ad_inj, ad_z, ad_z2, Nat.reduceEqDiff, reduceCtorEq, List.cons_append, List.nil_append, Option.toList_some, Option.toList_none, Int.toNat_natCast, List.length_cons, List.length_nil, Int.cast_ofNat_Int, Nat.reduceAdd, Nat.reduceLeDiff, Nat.reduceLT, Nat.reduceMul, Int.reduceAdd, Int.reduceSub, Int.reduceMul, Int.reduceNeg, Int.reduceLT, Int.reduceLE, Int.reduceEq, Int.reduceToNat, eq_self, true_and, and_true, true_or, or_true, false_or, or_false, if_true, if_false, not_true_eq_false, not_false_eq_true, and_self, ne_eq, hM, h1, ho]
      (repeat' (first | apply And.intro | split)) <;> first | omega | exact q
  · rw [b2_f c1] at h1
    rw [if_neg (by omega)] at q
    simp only [m_M_mouth, b_M_mouth_0, P_M_mouth_32, b_M_mouth_32, P_M_mouth_33, b_M_mouth_33, wp_abs, wp_aln0, wp_copy, wp_cs1, wp_cs2, wp_cs3, wp_cs4, wp_cs5, wp_cs6, wp_cs7, wp_cv1, wp_cv2, wp_cv3, wp_cv4, wp_cv5, wp_cv6, wp_cv7, wp_goto, wp_iadd, wp_iald, wp_iconst, wp_iln1, wp_iln2, wp_imul, wp_iret, wp_izeq, wp_max, wp_min, wp_nop, wp_zret, qmd_kd, qmd_k1, qmd_l1, qmd_gf0, qmd_k2, qmd_l2, qmd_gf1, qmd_k3, qmd_l3, qmd_gf2, qmd_k4, qmd_l4, qmd_gf4, qmd_k5, qmd_l5, qmd_gf6, qmd_k6, qmd_l6, qmd_gf7, qmd_k7, qmd_l7, qmd_gf10, qmd_k8, qmd_l8, qmd_gf11, qmd_k9, qmd_l9, qmd_gf12, qmd_gf3, qmd_pf3, qmd_gf5, qmd_pf5, qmd_gf8, qmd_pf8, qmd_gf9, qmd_pf9, wrI_row, cpI_row, row_s, row_n, row_ss, row_sw, upd_s, upd_n, ad_inj, ad_z, ad_z2, Nat.reduceEqDiff, reduceCtorEq, List.cons_append, List.nil_append, Option.toList_some, Option.toList_none, Int.toNat_natCast, List.length_cons, List.length_nil, Int.cast_ofNat_Int, Nat.reduceAdd, Nat.reduceLeDiff, Nat.reduceLT, Nat.reduceMul, Int.reduceAdd, Int.reduceSub, Int.reduceMul, Int.reduceNeg, Int.reduceLT, Int.reduceLE, Int.reduceEq, Int.reduceToNat, eq_self, true_and, and_true, true_or, or_true, false_or, or_false, if_true, if_false, not_true_eq_false, not_false_eq_true, and_self, ne_eq, hM, h1]
    (repeat' (first | apply And.intro | split)) <;> first | omega | exact q
theorem d_jump (hX : RepM g ρ M X) (hW : WFX X) {x y : Int} (hx : i32 x) (hy : i32 y) (hQ : MdQ g ρ M (sJump x y X, X) Q) : WpM zt 147 [AR M, AI x, AI y] (g, ρ) Q := by
  obtain ⟨hM, hS, -⟩ := id hX
  have hR := hS.1
  have hU := hW.1.1
  have e0 := m_0 hR
  have e5 := m_5 hR
  have b0 := hU.1
  have b5 := hU.2.2.2.2.1
  have b8 := hU.2.2.2.2.2.2.1
  have q := hQ.ro hX
  unfold sJump at q
  have h1 := isMouth_ok (zt := zt) hM hR hU hx
  have h2 := isMouth_ok (zt := zt) hM hR hU hy
  by_cases c1 : 0 ≤ x ∧ x < X.1.1 0 0
  · rw [b2_t c1] at h1
    by_cases c2 : 0 ≤ y ∧ y < X.1.1 0 0
    · rw [b2_t c2] at h2
      rw [if_pos ⟨c1, c2⟩] at q
      have hj := farBetween_ok (zt := zt) hM hR hU c1.1 c1.2 c2.1 c2.2
      simp only [m_M_jump, b_M_jump_0, P_M_jump_25, b_M_jump_25, P_M_jump_26, b_M_jump_26, wp_aln0, wp_cv1, wp_cv2, wp_cv3, wp_cv4, wp_cv5, wp_cv6, wp_cv7, wp_goto, wp_iconst, wp_iln1, wp_iln2, wp_iret, wp_izeq, wp_nop, wp_zret, qmd_kd, qmd_k1, qmd_l1, qmd_gf0, qmd_k2, qmd_l2, qmd_gf1, qmd_k3, qmd_l3, qmd_gf2, qmd_k4, qmd_l4, qmd_gf4, qmd_k5, qmd_l5, qmd_gf6, qmd_k6, qmd_l6, qmd_gf7, qmd_k7, qmd_l7, qmd_gf10, qmd_k8, qmd_l8, qmd_gf11, qmd_k9, qmd_l9, qmd_gf12, qmd_gf3, qmd_pf3, qmd_gf5, qmd_pf5, qmd_gf8, qmd_pf8, qmd_gf9, qmd_pf9, wrI_row, cpI_row, row_s, row_n, row_ss, row_sw, upd_s, upd_n, ad_inj, ad_z, ad_z2, Nat.reduceEqDiff, reduceCtorEq, List.cons_append, List.nil_append, Option.toList_some, Option.toList_none, Int.toNat_natCast, List.length_cons, List.length_nil, Int.cast_ofNat_Int, Nat.reduceAdd, Nat.reduceLeDiff, Nat.reduceLT, Nat.reduceMul, Int.reduceAdd, Int.reduceSub, Int.reduceMul, Int.reduceNeg, Int.reduceLT, Int.reduceLE, Int.reduceEq, Int.reduceToNat, eq_self, true_and, and_true, true_or, or_true, false_or, or_false, if_true, if_false, not_true_eq_false, not_false_eq_true, and_self, ne_eq, hM, h1, h2, hj]
      (repeat' (first | apply And.intro | split)) <;> first | omega | exact q
    · rw [b2_f c2] at h2
      rw [if_neg (fun z => c2 z.2)] at q
      simp only [m_M_jump, b_M_jump_0, P_M_jump_25, b_M_jump_25, P_M_jump_26, b_M_jump_26, wp_aln0, wp_cv1, wp_cv2, wp_cv3, wp_cv4, wp_cv5, wp_cv6, wp_cv7, wp_goto, wp_iconst, wp_iln1, wp_iln2, wp_iret, wp_izeq, wp_nop, wp_zret, qmd_kd, qmd_k1, qmd_l1, qmd_gf0, qmd_k2, qmd_l2, qmd_gf1, qmd_k3, qmd_l3, qmd_gf2, qmd_k4, qmd_l4, qmd_gf4, qmd_k5, qmd_l5, qmd_gf6, qmd_k6, qmd_l6, qmd_gf7, qmd_k7, qmd_l7, qmd_gf10, qmd_k8, qmd_l8, qmd_gf11, qmd_k9, qmd_l9, qmd_gf12, qmd_gf3, qmd_pf3, qmd_gf5, qmd_pf5, qmd_gf8, qmd_pf8, qmd_gf9, qmd_pf9, wrI_row, cpI_row, row_s, row_n, row_ss, row_sw, upd_s, upd_n, ad_inj, ad_z, ad_z2, Nat.reduceEqDiff, reduceCtorEq, List.cons_append, List.nil_append, Option.toList_some, Option.toList_none, Int.toNat_natCast, List.length_cons, List.length_nil, Int.cast_ofNat_Int, Nat.reduceAdd, Nat.reduceLeDiff, Nat.reduceLT, Nat.reduceMul, Int.reduceAdd, Int.reduceSub, Int.reduceMul, Int.reduceNeg, Int.reduceLT, Int.reduceLE, Int.reduceEq, Int.reduceToNat, eq_self, true_and, and_true, true_or, or_true, false_or, or_false, if_true, if_false, not_true_eq_false, not_false_eq_true, and_self, ne_eq, hM, h1, h2]
      (repeat' (first | apply And.intro | split)) <;> first | omega | exact q
  · rw [b2_f c1] at h1
    rw [if_neg (fun z => c1 z.1)] at q
    simp only [m_M_jump, b_M_jump_0, P_M_jump_25, b_M_jump_25, P_M_jump_26, b_M_jump_26, wp_aln0, wp_cv1, wp_cv2, wp_cv3, wp_cv4, wp_cv5, wp_cv6, wp_cv7, wp_goto, wp_iconst, wp_iln1, wp_iln2, wp_iret, wp_izeq, wp_nop, wp_zret, qmd_kd, qmd_k1, qmd_l1, qmd_gf0, qmd_k2, qmd_l2, qmd_gf1, qmd_k3, qmd_l3, qmd_gf2, qmd_k4, qmd_l4, qmd_gf4, qmd_k5, qmd_l5, qmd_gf6, qmd_k6, qmd_l6, qmd_gf7, qmd_k7, qmd_l7, qmd_gf10, qmd_k8, qmd_l8, qmd_gf11, qmd_k9, qmd_l9, qmd_gf12, qmd_gf3, qmd_pf3, qmd_gf5, qmd_pf5, qmd_gf8, qmd_pf8, qmd_gf9, qmd_pf9, wrI_row, cpI_row, row_s, row_n, row_ss, row_sw, upd_s, upd_n, ad_inj, ad_z, ad_z2, Nat.reduceEqDiff, reduceCtorEq, List.cons_append, List.nil_append, Option.toList_some, Option.toList_none, Int.toNat_natCast, List.length_cons, List.length_nil, Int.cast_ofNat_Int, Nat.reduceAdd, Nat.reduceLeDiff, Nat.reduceLT, Nat.reduceMul, Int.reduceAdd, Int.reduceSub, Int.reduceMul, Int.reduceNeg, Int.reduceLT, Int.reduceLE, Int.reduceEq, Int.reduceToNat, eq_self, true_and, and_true, true_or, or_true, false_or, or_false, if_true, if_false, not_true_eq_false, not_false_eq_true, and_self, ne_eq, hM, h1]
    (repeat' (first | apply And.intro | split)) <;> first | omega | exact q
theorem d_number (hX : RepM g ρ M X) (hW : WFX X) {w : Int} (hw : i32 w) (hQ : MdQ g ρ M (sNumber w X, X) Q) : WpM zt 149 [AR M, AI w] (g, ρ) Q := by
  obtain ⟨hM, hS, -⟩ := id hX
  have hR := hS.1
  have hU := hW.1.1
  have e0 := m_0 hR
  have e5 := m_5 hR
  have b0 := hU.1
  have b5 := hU.2.2.2.2.1
  have b8 := hU.2.2.2.2.2.2.1
  have q := hQ.ro hX
  unfold sNumber at q
  by_cases c : 0 ≤ w ∧ w ≤ 4
  · rw [if_pos c] at q
    have ho := fun Q => in_t (zt := zt) (g := g) (ρ := ρ) (lo := 0) (hi := 4) (by omega) (by omega) c Q
    have s1 := setting_ok (zt := zt) hM hR c.1 c.2
    simp only [m_M_number, b_M_number_0, P_M_number_17, b_M_number_17, P_M_number_18, b_M_number_18, wp_abs, wp_aln0, wp_copy, wp_cs1, wp_cs2, wp_cs3, wp_cs4, wp_cs5, wp_cs6, wp_cs7, wp_cv1, wp_cv2, wp_cv3, wp_cv4, wp_cv5, wp_cv6, wp_cv7, wp_goto, wp_iconst, wp_iln1, wp_iret, wp_izeq, wp_max, wp_min, wp_nop, wp_zret, qmd_kd, qmd_k1, qmd_l1, qmd_gf0, qmd_k2, qmd_l2, qmd_gf1, qmd_k3, qmd_l3, qmd_gf2, qmd_k4, qmd_l4, qmd_gf4, qmd_k5, qmd_l5, qmd_gf6, qmd_k6, qmd_l6, qmd_gf7, qmd_k7, qmd_l7, qmd_gf10, qmd_k8, qmd_l8, qmd_gf11, qmd_k9, qmd_l9, qmd_gf12, qmd_gf3, qmd_pf3, qmd_gf5, qmd_pf5, qmd_gf8, qmd_pf8, qmd_gf9, qmd_pf9, wrI_row, cpI_row, row_s, row_n, row_ss, row_sw, upd_s, upd_n, ad_inj, ad_z, ad_z2, Nat.reduceEqDiff, reduceCtorEq, List.cons_append, List.nil_append, Option.toList_some, Option.toList_none, Int.toNat_natCast, List.length_cons, List.length_nil, Int.cast_ofNat_Int, Nat.reduceAdd, Nat.reduceLeDiff, Nat.reduceLT, Nat.reduceMul, Int.reduceAdd, Int.reduceSub, Int.reduceMul, Int.reduceNeg, Int.reduceLT, Int.reduceLE, Int.reduceEq, Int.reduceToNat, eq_self, true_and, and_true, true_or, or_true, false_or, or_false, if_true, if_false, not_true_eq_false, not_false_eq_true, and_self, ne_eq, hM, ho, s1]
    (repeat' (first | apply And.intro | split)) <;> first | omega | exact q
  · rw [if_neg c] at q
    have ho := fun Q => in_f (zt := zt) (g := g) (ρ := ρ) (lo := 0) (hi := 4) hw (by omega) (by omega) c Q
    simp only [m_M_number, b_M_number_0, P_M_number_17, b_M_number_17, P_M_number_18, b_M_number_18, wp_abs, wp_aln0, wp_copy, wp_cs1, wp_cs2, wp_cs3, wp_cs4, wp_cs5, wp_cs6, wp_cs7, wp_cv1, wp_cv2, wp_cv3, wp_cv4, wp_cv5, wp_cv6, wp_cv7, wp_goto, wp_iconst, wp_iln1, wp_iret, wp_izeq, wp_max, wp_min, wp_nop, wp_zret, qmd_kd, qmd_k1, qmd_l1, qmd_gf0, qmd_k2, qmd_l2, qmd_gf1, qmd_k3, qmd_l3, qmd_gf2, qmd_k4, qmd_l4, qmd_gf4, qmd_k5, qmd_l5, qmd_gf6, qmd_k6, qmd_l6, qmd_gf7, qmd_k7, qmd_l7, qmd_gf10, qmd_k8, qmd_l8, qmd_gf11, qmd_k9, qmd_l9, qmd_gf12, qmd_gf3, qmd_pf3, qmd_gf5, qmd_pf5, qmd_gf8, qmd_pf8, qmd_gf9, qmd_pf9, wrI_row, cpI_row, row_s, row_n, row_ss, row_sw, upd_s, upd_n, ad_inj, ad_z, ad_z2, Nat.reduceEqDiff, reduceCtorEq, List.cons_append, List.nil_append, Option.toList_some, Option.toList_none, Int.toNat_natCast, List.length_cons, List.length_nil, Int.cast_ofNat_Int, Nat.reduceAdd, Nat.reduceLeDiff, Nat.reduceLT, Nat.reduceMul, Int.reduceAdd, Int.reduceSub, Int.reduceMul, Int.reduceNeg, Int.reduceLT, Int.reduceLE, Int.reduceEq, Int.reduceToNat, eq_self, true_and, and_true, true_or, or_true, false_or, or_false, if_true, if_false, not_true_eq_false, not_false_eq_true, and_self, ne_eq, hM, ho]
    (repeat' (first | apply And.intro | split)) <;> first | omega | exact q
theorem d_sound (hX : RepM g ρ M X) (hW : WFX X) {kd w : Int} (hk : i32 kd) (hw : i32 w) (hQ : MdQ g ρ M (sSound kd w X, X) Q) : WpM zt 148 [AR M, AI kd, AI w] (g, ρ) Q := by
  obtain ⟨hM, hS, -⟩ := id hX
  have hR := hS.1
  have hU := hW.1.1
  have e0 := m_0 hR
  have e5 := m_5 hR
  have b0 := hU.1
  have b5 := hU.2.2.2.2.1
  have b8 := hU.2.2.2.2.2.2.1
  have q := hQ.ro hX
  unfold sSound at q
  by_cases c1 : 0 ≤ kd ∧ kd ≤ 8
  · have ho1 := fun Q => in_t (zt := zt) (g := g) (ρ := ρ) (lo := 0) (hi := 8) (by omega) (by omega) c1 Q
    by_cases c2 : 0 ≤ w ∧ w ≤ 3
    · have ho2 := fun Q => in_t (zt := zt) (g := g) (ρ := ρ) (lo := 0) (hi := 3) (by omega) (by omega) c2 Q
      rw [if_pos ⟨c1, c2⟩] at q
      have r1 := m_sn hR (j := (kd * 4 + w).toNat) (by omega)
      rw [show 17 + (kd * 4 + w).toNat = (17 + 4 * kd + w).toNat by omega] at r1
      simp only [m_M_sound, b_M_sound_0, P_M_sound_35, b_M_sound_35, P_M_sound_36, b_M_sound_36, wp_abs, wp_aln0, wp_bipush, wp_copy, wp_cs1, wp_cs2, wp_cs3, wp_cs4, wp_cs5, wp_cs6, wp_cs7, wp_goto, wp_iadd, wp_iald, wp_iconst, wp_iln1, wp_iln2, wp_imul, wp_iret, wp_izeq, wp_max, wp_min, wp_nop, wp_zret, qmd_kd, qmd_k1, qmd_l1, qmd_gf0, qmd_k2, qmd_l2, qmd_gf1, qmd_k3, qmd_l3, qmd_gf2, qmd_k4, qmd_l4, qmd_gf4, qmd_k5, qmd_l5, qmd_gf6, qmd_k6, qmd_l6, qmd_gf7, qmd_k7, qmd_l7, qmd_gf10, qmd_k8, qmd_l8, qmd_gf11, qmd_k9, qmd_l9, qmd_gf12, qmd_gf3, qmd_pf3, qmd_gf5, qmd_pf5, qmd_gf8, qmd_pf8, qmd_gf9, qmd_pf9, wrI_row, cpI_row, row_s, row_n, row_ss, row_sw, upd_s, upd_n, ad_inj, ad_z, ad_z2, Nat.reduceEqDiff, reduceCtorEq, List.cons_append, List.nil_append, Option.toList_some, Option.toList_none, Int.toNat_natCast, List.length_cons, List.length_nil, Int.cast_ofNat_Int, Nat.reduceAdd, Nat.reduceLeDiff, Nat.reduceLT, Nat.reduceMul, Int.reduceAdd, Int.reduceSub, Int.reduceMul, Int.reduceNeg, Int.reduceLT, Int.reduceLE, Int.reduceEq, Int.reduceToNat, eq_self, true_and, and_true, true_or, or_true, false_or, or_false, if_true, if_false, not_true_eq_false, not_false_eq_true, and_self, ne_eq, hM, ho1, ho2, r1]
      (repeat' (first | apply And.intro | split)) <;> first | omega | exact q
    · have ho2 := fun Q => in_f (zt := zt) (g := g) (ρ := ρ) (lo := 0) (hi := 3) hw (by omega) (by omega) c2 Q
      rw [if_neg (fun z => c2 z.2)] at q
      simp only [m_M_sound, b_M_sound_0, P_M_sound_35, b_M_sound_35, P_M_sound_36, b_M_sound_36, wp_abs, wp_aln0, wp_bipush, wp_copy, wp_cs1, wp_cs2, wp_cs3, wp_cs4, wp_cs5, wp_cs6, wp_cs7, wp_goto, wp_iadd, wp_iald, wp_iconst, wp_iln1, wp_iln2, wp_imul, wp_iret, wp_izeq, wp_max, wp_min, wp_nop, wp_zret, qmd_kd, qmd_k1, qmd_l1, qmd_gf0, qmd_k2, qmd_l2, qmd_gf1, qmd_k3, qmd_l3, qmd_gf2, qmd_k4, qmd_l4, qmd_gf4, qmd_k5, qmd_l5, qmd_gf6, qmd_k6, qmd_l6, qmd_gf7, qmd_k7, qmd_l7, qmd_gf10, qmd_k8, qmd_l8, qmd_gf11, qmd_k9, qmd_l9, qmd_gf12, qmd_gf3, qmd_pf3, qmd_gf5, qmd_pf5, qmd_gf8, qmd_pf8, qmd_gf9, qmd_pf9, wrI_row, cpI_row, row_s, row_n, row_ss, row_sw, upd_s, upd_n, ad_inj, ad_z, ad_z2, Nat.reduceEqDiff, reduceCtorEq, List.cons_append, List.nil_append, Option.toList_some, Option.toList_none, Int.toNat_natCast, List.length_cons, List.length_nil, Int.cast_ofNat_Int, Nat.reduceAdd, Nat.reduceLeDiff, Nat.reduceLT, Nat.reduceMul, Int.reduceAdd, Int.reduceSub, Int.reduceMul, Int.reduceNeg, Int.reduceLT, Int.reduceLE, Int.reduceEq, Int.reduceToNat, eq_self, true_and, and_true, true_or, or_true, false_or, or_false, if_true, if_false, not_true_eq_false, not_false_eq_true, and_self, ne_eq, hM, ho1, ho2]
      (repeat' (first | apply And.intro | split)) <;> first | omega | exact q
  · have ho1 := fun Q => in_f (zt := zt) (g := g) (ρ := ρ) (lo := 0) (hi := 8) hk (by omega) (by omega) c1 Q
    rw [if_neg (fun z => c1 z.1)] at q
    simp only [m_M_sound, b_M_sound_0, P_M_sound_35, b_M_sound_35, P_M_sound_36, b_M_sound_36, wp_abs, wp_aln0, wp_bipush, wp_copy, wp_cs1, wp_cs2, wp_cs3, wp_cs4, wp_cs5, wp_cs6, wp_cs7, wp_goto, wp_iadd, wp_iald, wp_iconst, wp_iln1, wp_iln2, wp_imul, wp_iret, wp_izeq, wp_max, wp_min, wp_nop, wp_zret, qmd_kd, qmd_k1, qmd_l1, qmd_gf0, qmd_k2, qmd_l2, qmd_gf1, qmd_k3, qmd_l3, qmd_gf2, qmd_k4, qmd_l4, qmd_gf4, qmd_k5, qmd_l5, qmd_gf6, qmd_k6, qmd_l6, qmd_gf7, qmd_k7, qmd_l7, qmd_gf10, qmd_k8, qmd_l8, qmd_gf11, qmd_k9, qmd_l9, qmd_gf12, qmd_gf3, qmd_pf3, qmd_gf5, qmd_pf5, qmd_gf8, qmd_pf8, qmd_gf9, qmd_pf9, wrI_row, cpI_row, row_s, row_n, row_ss, row_sw, upd_s, upd_n, ad_inj, ad_z, ad_z2, Nat.reduceEqDiff, reduceCtorEq, List.cons_append, List.nil_append, Option.toList_some, Option.toList_none, Int.toNat_natCast, List.length_cons, List.length_nil, Int.cast_ofNat_Int, Nat.reduceAdd, Nat.reduceLeDiff, Nat.reduceLT, Nat.reduceMul, Int.reduceAdd, Int.reduceSub, Int.reduceMul, Int.reduceNeg, Int.reduceLT, Int.reduceLE, Int.reduceEq, Int.reduceToNat, eq_self, true_and, and_true, true_or, or_true, false_or, or_false, if_true, if_false, not_true_eq_false, not_false_eq_true, and_self, ne_eq, hM, ho1]
    (repeat' (first | apply And.intro | split)) <;> first | omega | exact q
theorem d_segment (hX : RepM g ρ M X) (hW : WFX X) {s w : Int} (hs : i32 s) (hw : i32 w) (hQ : MdQ g ρ M (sSegment s w X, X) Q) : WpM zt 150 [AR M, AI s, AI w] (g, ρ) Q := by
  obtain ⟨hM, hS, -⟩ := id hX
  have hR := hS.1
  have hU := hW.1.1
  have e0 := m_0 hR
  have e5 := m_5 hR
  have b0 := hU.1
  have b5 := hU.2.2.2.2.1
  have b8 := hU.2.2.2.2.2.2.1
  have q := hQ.ro hX
  unfold sSegment at q
  have h1 := isSegment_ok (zt := zt) hM hR hU hs
  by_cases c1 : 0 ≤ s ∧ s < X.1.1 5 0
  · rw [b2_t c1] at h1
    rw [if_pos c1] at q
    have k1 := kindOf_okM (zt := zt) hM hR hU c1.1 c1.2
    have f1 := framesOf_ok (zt := zt) hM hR hU c1.1 c1.2
    have s1 := firstOf_ok (zt := zt) hM hR hU c1.1 (by omega)
    by_cases c2 : 0 ≤ w ∧ w ≤ 2
    · have ho := fun Q => in_t (zt := zt) (g := g) (ρ := ρ) (lo := 0) (hi := 2) (by omega) (by omega) c2 Q
      by_cases w0 : w = 0
      · rw [if_pos w0] at q
        subst w0
        simp only [m_M_segment, b_M_segment_0, P_M_segment_17, b_M_segment_17, P_M_segment_19, b_M_segment_19, P_M_segment_31, b_M_segment_31, P_M_segment_44, b_M_segment_44, P_M_segment_49, b_M_segment_49, wp_abs, wp_aln0, wp_copy, wp_cs1, wp_cs2, wp_cs3, wp_cs4, wp_cs5, wp_cs6, wp_cs7, wp_cv1, wp_cv2, wp_cv3, wp_cv4, wp_cv5, wp_cv6, wp_cv7, wp_goto, wp_icne, wp_iconst, wp_iln1, wp_iln2, wp_iret, wp_izeq, wp_izne, wp_max, wp_min, wp_nop, wp_zret, qmd_kd, qmd_k1, qmd_l1, qmd_gf0, qmd_k2, qmd_l2, qmd_gf1, qmd_k3, qmd_l3, qmd_gf2, qmd_k4, qmd_l4, qmd_gf4, qmd_k5, qmd_l5, qmd_gf6, qmd_k6, qmd_l6, qmd_gf7, qmd_k7, qmd_l7, qmd_gf10, qmd_k8, qmd_l8, qmd_gf11, qmd_k9, qmd_l9, qmd_gf12, qmd_gf3, qmd_pf3, qmd_gf5, qmd_pf5, qmd_gf8, qmd_pf8, qmd_gf9, qmd_pf9, wrI_row, cpI_row, row_s, row_n, row_ss, row_sw, upd_s, upd_n, ad_inj, ad_z, ad_z2, Nat.reduceEqDiff, reduceCtorEq, List.cons_append, List.nil_append, Option.toList_some, Option.toList_none, Int.toNat_natCast, List.length_cons, List.length_nil, Int.cast_ofNat_Int, Nat.reduceAdd, Nat.reduceLeDiff, Nat.reduceLT, Nat.reduceMul, Int.reduceAdd, Int.reduceSub, Int.reduceMul, Int.reduceNeg, Int.reduceLT, Int.reduceLE, Int.reduceEq, Int.reduceToNat, eq_self, true_and, and_true, true_or, or_true, false_or, or_false, if_true, if_false, not_true_eq_false, not_false_eq_true, and_self, ne_eq, hM, h1, ho, k1, f1, s1]
        (repeat' (first | apply And.intro | split)) <;> first | omega | exact q
      · by_cases w1 : w = 1
        · rw [if_neg w0, if_pos w1] at q
          subst w1
          simp only [m_M_segment, b_M_segment_0, P_M_segment_17, b_M_segment_17, P_M_segment_19, b_M_segment_19, P_M_segment_31, b_M_segment_31, P_M_segment_44, b_M_segment_44, P_M_segment_49, b_M_segment_49, wp_abs, wp_aln0, wp_copy, wp_cs1, wp_cs2, wp_cs3, wp_cs4, wp_cs5, wp_cs6, wp_cs7, wp_cv1, wp_cv2, wp_cv3, wp_cv4, wp_cv5, wp_cv6, wp_cv7, wp_goto, wp_icne, wp_iconst, wp_iln1, wp_iln2, wp_iret, wp_izeq, wp_izne, wp_max, wp_min, wp_nop, wp_zret, qmd_kd, qmd_k1, qmd_l1, qmd_gf0, qmd_k2, qmd_l2, qmd_gf1, qmd_k3, qmd_l3, qmd_gf2, qmd_k4, qmd_l4, qmd_gf4, qmd_k5, qmd_l5, qmd_gf6, qmd_k6, qmd_l6, qmd_gf7, qmd_k7, qmd_l7, qmd_gf10, qmd_k8, qmd_l8, qmd_gf11, qmd_k9, qmd_l9, qmd_gf12, qmd_gf3, qmd_pf3, qmd_gf5, qmd_pf5, qmd_gf8, qmd_pf8, qmd_gf9, qmd_pf9, wrI_row, cpI_row, row_s, row_n, row_ss, row_sw, upd_s, upd_n, ad_inj, ad_z, ad_z2, Nat.reduceEqDiff, reduceCtorEq, List.cons_append, List.nil_append, Option.toList_some, Option.toList_none, Int.toNat_natCast, List.length_cons, List.length_nil, Int.cast_ofNat_Int, Nat.reduceAdd, Nat.reduceLeDiff, Nat.reduceLT, Nat.reduceMul, Int.reduceAdd, Int.reduceSub, Int.reduceMul, Int.reduceNeg, Int.reduceLT, Int.reduceLE, Int.reduceEq, Int.reduceToNat, eq_self, true_and, and_true, true_or, or_true, false_or, or_false, if_true, if_false, not_true_eq_false, not_false_eq_true, and_self, ne_eq, hM, h1, ho, k1, f1, s1]
          (repeat' (first | apply And.intro | split)) <;> first | omega | exact q
        · rw [if_neg w0, if_neg w1, if_pos (by omega)] at q
          simp only [m_M_segment, b_M_segment_0, P_M_segment_17, b_M_segment_17, P_M_segment_19, b_M_segment_19, P_M_segment_31, b_M_segment_31, P_M_segment_44, b_M_segment_44, P_M_segment_49, b_M_segment_49, wp_abs, wp_aln0, wp_copy, wp_cs1, wp_cs2, wp_cs3, wp_cs4, wp_cs5, wp_cs6, wp_cs7, wp_cv1, wp_cv2, wp_cv3, wp_cv4, wp_cv5, wp_cv6, wp_cv7, wp_goto, wp_icne, wp_iconst, wp_iln1, wp_iln2, wp_iret, wp_izeq, wp_izne, wp_max, wp_min, wp_nop, wp_zret, qmd_kd, qmd_k1, qmd_l1, qmd_gf0, qmd_k2, qmd_l2, qmd_gf1, qmd_k3, qmd_l3, qmd_gf2, qmd_k4, qmd_l4, qmd_gf4, qmd_k5, qmd_l5, qmd_gf6, qmd_k6, qmd_l6, qmd_gf7, qmd_k7, qmd_l7, qmd_gf10, qmd_k8, qmd_l8, qmd_gf11, qmd_k9, qmd_l9, qmd_gf12, qmd_gf3, qmd_pf3, qmd_gf5, qmd_pf5, qmd_gf8, qmd_pf8, qmd_gf9, qmd_pf9, wrI_row, cpI_row, row_s, row_n, row_ss, row_sw, upd_s, upd_n, ad_inj, ad_z, ad_z2, Nat.reduceEqDiff, reduceCtorEq, List.cons_append, List.nil_append, Option.toList_some, Option.toList_none, Int.toNat_natCast, List.length_cons, List.length_nil, Int.cast_ofNat_Int, Nat.reduceAdd, Nat.reduceLeDiff, Nat.reduceLT, Nat.reduceMul, Int.reduceAdd, Int.reduceSub, Int.reduceMul, Int.reduceNeg, Int.reduceLT, Int.reduceLE, Int.reduceEq, Int.reduceToNat, eq_self, true_and, and_true, true_or, or_true, false_or, or_false, if_true, if_false, not_true_eq_false, not_false_eq_true, and_self, ne_eq, hM, h1, ho, k1, f1, s1, w0, w1]
          (repeat' (first | apply And.intro | split)) <;> first | omega | exact q
    · have ho := fun Q => in_f (zt := zt) (g := g) (ρ := ρ) (lo := 0) (hi := 2) hw (by omega) (by omega) c2 Q
      rw [if_neg (by omega), if_neg (by omega), if_neg (by omega)] at q
      simp only [m_M_segment, b_M_segment_0, P_M_segment_17, b_M_segment_17, P_M_segment_19, b_M_segment_19, P_M_segment_31, b_M_segment_31, P_M_segment_44, b_M_segment_44, P_M_segment_49, b_M_segment_49, wp_abs, wp_aln0, wp_copy, wp_cs1, wp_cs2, wp_cs3, wp_cs4, wp_cs5, wp_cs6, wp_cs7, wp_cv1, wp_cv2, wp_cv3, wp_cv4, wp_cv5, wp_cv6, wp_cv7, wp_goto, wp_icne, wp_iconst, wp_iln1, wp_iln2, wp_iret, wp_izeq, wp_izne, wp_max, wp_min, wp_nop, wp_zret, qmd_kd, qmd_k1, qmd_l1, qmd_gf0, qmd_k2, qmd_l2, qmd_gf1, qmd_k3, qmd_l3, qmd_gf2, qmd_k4, qmd_l4, qmd_gf4, qmd_k5, qmd_l5, qmd_gf6, qmd_k6, qmd_l6, qmd_gf7, qmd_k7, qmd_l7, qmd_gf10, qmd_k8, qmd_l8, qmd_gf11, qmd_k9, qmd_l9, qmd_gf12, qmd_gf3, qmd_pf3, qmd_gf5, qmd_pf5, qmd_gf8, qmd_pf8, qmd_gf9, qmd_pf9, wrI_row, cpI_row, row_s, row_n, row_ss, row_sw, upd_s, upd_n, ad_inj, ad_z, ad_z2, Nat.reduceEqDiff, reduceCtorEq, List.cons_append, List.nil_append, Option.toList_some, Option.toList_none, Int.toNat_natCast, List.length_cons, List.length_nil, Int.cast_ofNat_Int, Nat.reduceAdd, Nat.reduceLeDiff, Nat.reduceLT, Nat.reduceMul, Int.reduceAdd, Int.reduceSub, Int.reduceMul, Int.reduceNeg, Int.reduceLT, Int.reduceLE, Int.reduceEq, Int.reduceToNat, eq_self, true_and, and_true, true_or, or_true, false_or, or_false, if_true, if_false, not_true_eq_false, not_false_eq_true, and_self, ne_eq, hM, h1, ho]
      (repeat' (first | apply And.intro | split)) <;> first | omega | exact q
  · rw [b2_f c1] at h1
    rw [if_neg c1] at q
    simp only [m_M_segment, b_M_segment_0, P_M_segment_17, b_M_segment_17, P_M_segment_19, b_M_segment_19, P_M_segment_31, b_M_segment_31, P_M_segment_44, b_M_segment_44, P_M_segment_49, b_M_segment_49, wp_abs, wp_aln0, wp_copy, wp_cs1, wp_cs2, wp_cs3, wp_cs4, wp_cs5, wp_cs6, wp_cs7, wp_cv1, wp_cv2, wp_cv3, wp_cv4, wp_cv5, wp_cv6, wp_cv7, wp_goto, wp_icne, wp_iconst, wp_iln1, wp_iln2, wp_iret, wp_izeq, wp_izne, wp_max, wp_min, wp_nop, wp_zret, qmd_kd, qmd_k1, qmd_l1, qmd_gf0, qmd_k2, qmd_l2, qmd_gf1, qmd_k3, qmd_l3, qmd_gf2, qmd_k4, qmd_l4, qmd_gf4, qmd_k5, qmd_l5, qmd_gf6, qmd_k6, qmd_l6, qmd_gf7, qmd_k7, qmd_l7, qmd_gf10, qmd_k8, qmd_l8, qmd_gf11, qmd_k9, qmd_l9, qmd_gf12, qmd_gf3, qmd_pf3, qmd_gf5, qmd_pf5, qmd_gf8, qmd_pf8, qmd_gf9, qmd_pf9, wrI_row, cpI_row, row_s, row_n, row_ss, row_sw, upd_s, upd_n, ad_inj, ad_z, ad_z2, Nat.reduceEqDiff, reduceCtorEq, List.cons_append, List.nil_append, Option.toList_some, Option.toList_none, Int.toNat_natCast, List.length_cons, List.length_nil, Int.cast_ofNat_Int, Nat.reduceAdd, Nat.reduceLeDiff, Nat.reduceLT, Nat.reduceMul, Int.reduceAdd, Int.reduceSub, Int.reduceMul, Int.reduceNeg, Int.reduceLT, Int.reduceLE, Int.reduceEq, Int.reduceToNat, eq_self, true_and, and_true, true_or, or_true, false_or, or_false, if_true, if_false, not_true_eq_false, not_false_eq_true, and_self, ne_eq, hM, h1]
    (repeat' (first | apply And.intro | split)) <;> first | omega | exact q
theorem d_wrongness (hX : RepM g ρ M X) (hW : WFX X) {f m : Int} (hf : i32 f) (hm : i32 m) (hQ : MdQ g ρ M (sWrong f m X, X) Q) : WpM zt 154 [AR M, AI f, AI m] (g, ρ) Q := by
  obtain ⟨hM, hS, -⟩ := id hX
  have hR := hS.1
  have hU := hW.1.1
  have e0 := m_0 hR
  have e5 := m_5 hR
  have b0 := hU.1
  have b5 := hU.2.2.2.2.1
  have b8 := hU.2.2.2.2.2.2.1
  have q := hQ.ro hX
  unfold sWrong at q
  have h1 := isFrame_ok (zt := zt) hM hR hU hf
  have h2 := isMouth_ok (zt := zt) hM hR hU hm
  by_cases c1 : 0 ≤ f ∧ f < X.1.1 8 0
  · rw [b2_t c1] at h1
    by_cases c2 : 0 ≤ m ∧ m < X.1.1 0 0
    · rw [b2_t c2] at h2
      rw [if_pos ⟨c1, c2⟩] at q
      have ef : ((f.toNat : Nat) : Int) = f := by omega
      have hs := segmentOf_ok (zt := zt) hM hR hU c1
      have hl := segV_lt hU (f := f.toNat) (by omega)
      have hkb := kndV_lt hU (f := f.toNat) (by omega)
      rw [ef] at hl hkb
      have hk := kindOf_okM (zt := zt) hM hR hU hl.1 hl.2
      change ∀ Q, WpM zt _ _ _ Q ↔ Q (some (AI (kndV X.1.1 f))) _ at hk
      have hwr := wrongBy_ok (zt := zt) hM hR hU hkb.1 hkb.2 c2.1 c2.2
      simp only [m_M_wrongness, b_M_wrongness_0, P_M_wrongness_33, b_M_wrongness_33, P_M_wrongness_34, b_M_wrongness_34, wp_aln0, wp_cv1, wp_cv2, wp_cv3, wp_cv4, wp_cv5, wp_cv6, wp_cv7, wp_goto, wp_iconst, wp_iln1, wp_iln2, wp_iret, wp_izeq, wp_nop, wp_zret, qmd_kd, qmd_k1, qmd_l1, qmd_gf0, qmd_k2, qmd_l2, qmd_gf1, qmd_k3, qmd_l3, qmd_gf2, qmd_k4, qmd_l4, qmd_gf4, qmd_k5, qmd_l5, qmd_gf6, qmd_k6, qmd_l6, qmd_gf7, qmd_k7, qmd_l7, qmd_gf10, qmd_k8, qmd_l8, qmd_gf11, qmd_k9, qmd_l9, qmd_gf12, qmd_gf3, qmd_pf3, qmd_gf5, qmd_pf5, qmd_gf8, qmd_pf8, qmd_gf9, qmd_pf9, wrI_row, cpI_row, row_s, row_n, row_ss, row_sw, upd_s, upd_n, ad_inj, ad_z, ad_z2, Nat.reduceEqDiff, reduceCtorEq, List.cons_append, List.nil_append, Option.toList_some, Option.toList_none, Int.toNat_natCast, List.length_cons, List.length_nil, Int.cast_ofNat_Int, Nat.reduceAdd, Nat.reduceLeDiff, Nat.reduceLT, Nat.reduceMul, Int.reduceAdd, Int.reduceSub, Int.reduceMul, Int.reduceNeg, Int.reduceLT, Int.reduceLE, Int.reduceEq, Int.reduceToNat, eq_self, true_and, and_true, true_or, or_true, false_or, or_false, if_true, if_false, not_true_eq_false, not_false_eq_true, and_self, ne_eq, hM, h1, h2, hs, hk, hwr]
      (repeat' (first | apply And.intro | split)) <;> first | omega | exact q
    · rw [b2_f c2] at h2
      rw [if_neg (fun z => c2 z.2)] at q
      simp only [m_M_wrongness, b_M_wrongness_0, P_M_wrongness_33, b_M_wrongness_33, P_M_wrongness_34, b_M_wrongness_34, wp_aln0, wp_cv1, wp_cv2, wp_cv3, wp_cv4, wp_cv5, wp_cv6, wp_cv7, wp_goto, wp_iconst, wp_iln1, wp_iln2, wp_iret, wp_izeq, wp_nop, wp_zret, qmd_kd, qmd_k1, qmd_l1, qmd_gf0, qmd_k2, qmd_l2, qmd_gf1, qmd_k3, qmd_l3, qmd_gf2, qmd_k4, qmd_l4, qmd_gf4, qmd_k5, qmd_l5, qmd_gf6, qmd_k6, qmd_l6, qmd_gf7, qmd_k7, qmd_l7, qmd_gf10, qmd_k8, qmd_l8, qmd_gf11, qmd_k9, qmd_l9, qmd_gf12, qmd_gf3, qmd_pf3, qmd_gf5, qmd_pf5, qmd_gf8, qmd_pf8, qmd_gf9, qmd_pf9, wrI_row, cpI_row, row_s, row_n, row_ss, row_sw, upd_s, upd_n, ad_inj, ad_z, ad_z2, Nat.reduceEqDiff, reduceCtorEq, List.cons_append, List.nil_append, Option.toList_some, Option.toList_none, Int.toNat_natCast, List.length_cons, List.length_nil, Int.cast_ofNat_Int, Nat.reduceAdd, Nat.reduceLeDiff, Nat.reduceLT, Nat.reduceMul, Int.reduceAdd, Int.reduceSub, Int.reduceMul, Int.reduceNeg, Int.reduceLT, Int.reduceLE, Int.reduceEq, Int.reduceToNat, eq_self, true_and, and_true, true_or, or_true, false_or, or_false, if_true, if_false, not_true_eq_false, not_false_eq_true, and_self, ne_eq, hM, h1, h2]
      (repeat' (first | apply And.intro | split)) <;> first | omega | exact q
  · rw [b2_f c1] at h1
    rw [if_neg (fun z => c1 z.1)] at q
    simp only [m_M_wrongness, b_M_wrongness_0, P_M_wrongness_33, b_M_wrongness_33, P_M_wrongness_34, b_M_wrongness_34, wp_aln0, wp_cv1, wp_cv2, wp_cv3, wp_cv4, wp_cv5, wp_cv6, wp_cv7, wp_goto, wp_iconst, wp_iln1, wp_iln2, wp_iret, wp_izeq, wp_nop, wp_zret, qmd_kd, qmd_k1, qmd_l1, qmd_gf0, qmd_k2, qmd_l2, qmd_gf1, qmd_k3, qmd_l3, qmd_gf2, qmd_k4, qmd_l4, qmd_gf4, qmd_k5, qmd_l5, qmd_gf6, qmd_k6, qmd_l6, qmd_gf7, qmd_k7, qmd_l7, qmd_gf10, qmd_k8, qmd_l8, qmd_gf11, qmd_k9, qmd_l9, qmd_gf12, qmd_gf3, qmd_pf3, qmd_gf5, qmd_pf5, qmd_gf8, qmd_pf8, qmd_gf9, qmd_pf9, wrI_row, cpI_row, row_s, row_n, row_ss, row_sw, upd_s, upd_n, ad_inj, ad_z, ad_z2, Nat.reduceEqDiff, reduceCtorEq, List.cons_append, List.nil_append, Option.toList_some, Option.toList_none, Int.toNat_natCast, List.length_cons, List.length_nil, Int.cast_ofNat_Int, Nat.reduceAdd, Nat.reduceLeDiff, Nat.reduceLT, Nat.reduceMul, Int.reduceAdd, Int.reduceSub, Int.reduceMul, Int.reduceNeg, Int.reduceLT, Int.reduceLE, Int.reduceEq, Int.reduceToNat, eq_self, true_and, and_true, true_or, or_true, false_or, or_false, if_true, if_false, not_true_eq_false, not_false_eq_true, and_self, ne_eq, hM, h1]
    (repeat' (first | apply And.intro | split)) <;> first | omega | exact q
theorem d_append (hX : RepM g ρ M X) (hW : WFX X) {c : Int} (hc : i32 c) (hQ : MdQ g ρ M (sAppend c X) Q) : WpM zt 130 [AR M, AI c] (g, ρ) Q := by
  obtain ⟨hM, hS, -⟩ := id hX
  have hR := hS.1
  have hU := hW.1.1
  have e0 := m_0 hR
  have e5 := m_5 hR
  have b0 := hU.1
  have b5 := hU.2.2.2.2.1
  have b8 := hU.2.2.2.2.2.2.1
  have x5 : g M 5 = X.2.2.2.1 := hX.2.2.2.2.1
  have wt := hW.2.2.2.1
  unfold sAppend at hQ
  by_cases c1 : 1 ≤ c ∧ c ≤ 255
  · have ho1 := fun Q => in_t (zt := zt) (g := g) (ρ := ρ) (lo := 1) (hi := 255) (by omega) (by omega) c1 Q
    rw [if_pos c1] at hQ
    by_cases c2 : X.2.2.2.1 < 120
    · rw [if_pos c2] at hQ
      have hlt : ¬ (X.2.2.2.1 : Int) = 120 := by omega
      have q := hQ (setRow (setRow g (ad M 4) (upd1 (g (ad M 4)) X.2.2.2.1 c)) M (upd1 (g M) 5 ((X.2.2.2.1 : Int) + 1))) (by
        obtain ⟨h1, h2, h3, h4, h5, h6⟩ := hX
        refine ⟨h1, ?_, ?_, ?_, ?_, fun j hj => ?_⟩
        · rw [row_n (by unfold ad; omega), row_n (by unfold ad; omega)]
          exact h2
        · rw [row_n (by unfold ad; omega), row_n (by unfold ad; omega)]
          exact h3
        · rw [row_s, upd_n (by omega)]
          exact h4
        · rw [row_s, upd_s]
          show (X.2.2.2.1 : Int) + 1 = ((X.2.2.2.1 + 1 : Nat) : Int)
          omega
        · replace hj : j < X.2.2.2.1 + 1 := hj
          rw [row_n (by unfold ad; omega), row_s]
          show _ = if j = X.2.2.2.1 then c else X.2.2.2.2 j
          by_cases e : j = X.2.2.2.1
          · subst e
            rw [upd_s, if_pos rfl]
          · rw [upd_n e, if_neg e]
            exact h6 j (by omega)) (fun x z => by rw [row_n (by unfold ad at z; omega), row_n (by unfold ad at *; omega)])
      simp only [m_M_append, b_M_append_0, P_M_append_13, b_M_append_13, P_M_append_25, b_M_append_25, wp_abs, wp_aln0, wp_bipush, wp_copy, wp_cs1, wp_cs2, wp_cs3, wp_cs4, wp_cs5, wp_cs6, wp_cs7, wp_dup, wp_iadd, wp_iast, wp_icne, wp_iconst, wp_iln1, wp_iret, wp_izne, wp_max, wp_min, wp_sipush, wp_zret, qmd_kd, qmd_k1, qmd_l1, qmd_gf0, qmd_k2, qmd_l2, qmd_gf1, qmd_k3, qmd_l3, qmd_gf2, qmd_k4, qmd_l4, qmd_gf4, qmd_k5, qmd_l5, qmd_gf6, qmd_k6, qmd_l6, qmd_gf7, qmd_k7, qmd_l7, qmd_gf10, qmd_k8, qmd_l8, qmd_gf11, qmd_k9, qmd_l9, qmd_gf12, qmd_gf3, qmd_pf3, qmd_gf5, qmd_pf5, qmd_gf8, qmd_pf8, qmd_gf9, qmd_pf9, wrI_row, cpI_row, row_s, row_n, row_ss, row_sw, upd_s, upd_n, ad_inj, ad_z, ad_z2, Nat.reduceEqDiff, reduceCtorEq, List.cons_append, List.nil_append, Option.toList_some, Option.toList_none, Int.toNat_natCast, List.length_cons, List.length_nil, Int.cast_ofNat_Int, Nat.reduceAdd, Nat.reduceLeDiff, Nat.reduceLT, Nat.reduceMul, Int.reduceAdd, Int.reduceSub, Int.reduceMul, Int.reduceNeg, Int.reduceLT, Int.reduceLE, Int.reduceEq, Int.reduceToNat, eq_self, true_and, and_true, true_or, or_true, false_or, or_false, if_true, if_false, not_true_eq_false, not_false_eq_true, and_self, ne_eq, hM, ho1, x5, hlt]
      (repeat' (first | apply And.intro | split)) <;> first | omega | exact q
    · rw [if_neg c2] at hQ
      have q := hQ.ro hX
      have hlt : (X.2.2.2.1 : Int) = 120 := by omega
      simp only [m_M_append, b_M_append_0, P_M_append_13, b_M_append_13, P_M_append_25, b_M_append_25, wp_abs, wp_aln0, wp_bipush, wp_copy, wp_cs1, wp_cs2, wp_cs3, wp_cs4, wp_cs5, wp_cs6, wp_cs7, wp_dup, wp_iadd, wp_iast, wp_icne, wp_iconst, wp_iln1, wp_iret, wp_izne, wp_max, wp_min, wp_sipush, wp_zret, qmd_kd, qmd_k1, qmd_l1, qmd_gf0, qmd_k2, qmd_l2, qmd_gf1, qmd_k3, qmd_l3, qmd_gf2, qmd_k4, qmd_l4, qmd_gf4, qmd_k5, qmd_l5, qmd_gf6, qmd_k6, qmd_l6, qmd_gf7, qmd_k7, qmd_l7, qmd_gf10, qmd_k8, qmd_l8, qmd_gf11, qmd_k9, qmd_l9, qmd_gf12, qmd_gf3, qmd_pf3, qmd_gf5, qmd_pf5, qmd_gf8, qmd_pf8, qmd_gf9, qmd_pf9, wrI_row, cpI_row, row_s, row_n, row_ss, row_sw, upd_s, upd_n, ad_inj, ad_z, ad_z2, Nat.reduceEqDiff, reduceCtorEq, List.cons_append, List.nil_append, Option.toList_some, Option.toList_none, Int.toNat_natCast, List.length_cons, List.length_nil, Int.cast_ofNat_Int, Nat.reduceAdd, Nat.reduceLeDiff, Nat.reduceLT, Nat.reduceMul, Int.reduceAdd, Int.reduceSub, Int.reduceMul, Int.reduceNeg, Int.reduceLT, Int.reduceLE, Int.reduceEq, Int.reduceToNat, eq_self, true_and, and_true, true_or, or_true, false_or, or_false, if_true, if_false, not_true_eq_false, not_false_eq_true, and_self, ne_eq, hM, ho1, x5, hlt]
      (repeat' (first | apply And.intro | split)) <;> first | omega | exact q
  · have ho1 := fun Q => in_f (zt := zt) (g := g) (ρ := ρ) (lo := 1) (hi := 255) hc (by omega) (by omega) c1 Q
    rw [if_neg c1] at hQ
    have q := hQ.ro hX
    simp only [m_M_append, b_M_append_0, P_M_append_13, b_M_append_13, P_M_append_25, b_M_append_25, wp_abs, wp_aln0, wp_bipush, wp_copy, wp_cs1, wp_cs2, wp_cs3, wp_cs4, wp_cs5, wp_cs6, wp_cs7, wp_dup, wp_iadd, wp_iast, wp_icne, wp_iconst, wp_iln1, wp_iret, wp_izne, wp_max, wp_min, wp_sipush, wp_zret, qmd_kd, qmd_k1, qmd_l1, qmd_gf0, qmd_k2, qmd_l2, qmd_gf1, qmd_k3, qmd_l3, qmd_gf2, qmd_k4, qmd_l4, qmd_gf4, qmd_k5, qmd_l5, qmd_gf6, qmd_k6, qmd_l6, qmd_gf7, qmd_k7, qmd_l7, qmd_gf10, qmd_k8, qmd_l8, qmd_gf11, qmd_k9, qmd_l9, qmd_gf12, qmd_gf3, qmd_pf3, qmd_gf5, qmd_pf5, qmd_gf8, qmd_pf8, qmd_gf9, qmd_pf9, wrI_row, cpI_row, row_s, row_n, row_ss, row_sw, upd_s, upd_n, ad_inj, ad_z, ad_z2, Nat.reduceEqDiff, reduceCtorEq, List.cons_append, List.nil_append, Option.toList_some, Option.toList_none, Int.toNat_natCast, List.length_cons, List.length_nil, Int.cast_ofNat_Int, Nat.reduceAdd, Nat.reduceLeDiff, Nat.reduceLT, Nat.reduceMul, Int.reduceAdd, Int.reduceSub, Int.reduceMul, Int.reduceNeg, Int.reduceLT, Int.reduceLE, Int.reduceEq, Int.reduceToNat, eq_self, true_and, and_true, true_or, or_true, false_or, or_false, if_true, if_false, not_true_eq_false, not_false_eq_true, and_self, ne_eq, hM, ho1]
    (repeat' (first | apply And.intro | split)) <;> first | omega | exact q
theorem clX_repM {g' : Nat → Nat → Int} (hX : RepM g ρ M X) (h1 : g' (ad M 1) = g (ad M 1)) (h3 : g' (ad M 3) = g (ad M 3)) (k3 : g' M 3 = g M 3) (k5 : g' M 5 = 0) : RepM g' ρ M (clX X) := by
  obtain ⟨x1, x2, x3, x4, x5, x6⟩ := hX
  refine ⟨x1, ?_, ?_, k3.trans x4, k5, fun j hj => absurd hj (Nat.not_lt_zero j)⟩
  · rw [h1]
    exact x2
  · rw [h3]
    exact x3
theorem d_clearText (hX : RepM g ρ M X) (hW : WFX X) (hQ : MdQ g ρ M ((X.2.2.2.1 : Int), clX X) Q) : WpM zt 131 [AR M] (g, ρ) Q := by
  obtain ⟨hM, hS, -⟩ := id hX
  have hR := hS.1
  have hU := hW.1.1
  have e0 := m_0 hR
  have e5 := m_5 hR
  have b0 := hU.1
  have b5 := hU.2.2.2.2.1
  have b8 := hU.2.2.2.2.2.2.1
  have x5 : g M 5 = X.2.2.2.1 := hX.2.2.2.2.1
  have q := hQ (setRow g M (upd1 (g M) 5 0)) (clX_repM hX (row_n (by unfold ad; omega)) (row_n (by unfold ad; omega)) (by rw [row_s, upd_n (by omega)]) (by rw [row_s, upd_s])) (fun x z => row_n (by unfold ad at z; omega))
  simp only [m_M_clearText, b_M_clearText_0, wp_aln0, wp_iconst, wp_iln1, wp_iret, wp_isn1, wp_zret, qmd_kd, qmd_k1, qmd_l1, qmd_gf0, qmd_k2, qmd_l2, qmd_gf1, qmd_k3, qmd_l3, qmd_gf2, qmd_k4, qmd_l4, qmd_gf4, qmd_k5, qmd_l5, qmd_gf6, qmd_k6, qmd_l6, qmd_gf7, qmd_k7, qmd_l7, qmd_gf10, qmd_k8, qmd_l8, qmd_gf11, qmd_k9, qmd_l9, qmd_gf12, qmd_gf3, qmd_pf3, qmd_gf5, qmd_pf5, qmd_gf8, qmd_pf8, qmd_gf9, qmd_pf9, wrI_row, cpI_row, row_s, row_n, row_ss, row_sw, upd_s, upd_n, ad_inj, ad_z, ad_z2, Nat.reduceEqDiff, reduceCtorEq, List.cons_append, List.nil_append, Option.toList_some, Option.toList_none, Int.toNat_natCast, List.length_cons, List.length_nil, Int.cast_ofNat_Int, Nat.reduceAdd, Nat.reduceLeDiff, Nat.reduceLT, Nat.reduceMul, Int.reduceAdd, Int.reduceSub, Int.reduceMul, Int.reduceNeg, Int.reduceLT, Int.reduceLE, Int.reduceEq, Int.reduceToNat, eq_self, true_and, and_true, true_or, or_true, false_or, or_false, if_true, if_false, not_true_eq_false, not_false_eq_true, and_self, ne_eq, hM, x5]
  (repeat' (first | apply And.intro | split)) <;> first | omega | exact q
theorem d_undo (hX : RepM g ρ M X) (hW : WFX X) (hQ : MdQ g ρ M (sUndo X) Q) : WpM zt 129 [AR M] (g, ρ) Q := by
  obtain ⟨hM, hS, -⟩ := id hX
  have hR := hS.1
  have hU := hW.1.1
  have e0 := m_0 hR
  have e5 := m_5 hR
  have b0 := hU.1
  have b5 := hU.2.2.2.2.1
  have b8 := hU.2.2.2.2.2.2.1
  have x4 : g M 3 = X.2.1 := hX.2.2.2.1
  have wn := hW.2.1
  unfold sUndo at hQ
  by_cases c : X.2.1 = 0
  · rw [if_pos c] at hQ
    have q := hQ.ro hX
    have x4' : g M 3 = 0 := by rw [x4, c]; rfl
    simp only [m_M_undo, b_M_undo_0, P_M_undo_10, b_M_undo_10, wp_abs, wp_aln0, wp_bipush, wp_copy, wp_cs1, wp_cs2, wp_cs3, wp_cs4, wp_cs5, wp_cs6, wp_cs7, wp_dup, wp_iconst, wp_imul, wp_iret, wp_isub, wp_izne, wp_max, wp_min, wp_sipush, wp_zret, qmd_kd, qmd_k1, qmd_l1, qmd_gf0, qmd_k2, qmd_l2, qmd_gf1, qmd_k3, qmd_l3, qmd_gf2, qmd_k4, qmd_l4, qmd_gf4, qmd_k5, qmd_l5, qmd_gf6, qmd_k6, qmd_l6, qmd_gf7, qmd_k7, qmd_l7, qmd_gf10, qmd_k8, qmd_l8, qmd_gf11, qmd_k9, qmd_l9, qmd_gf12, qmd_gf3, qmd_pf3, qmd_gf5, qmd_pf5, qmd_gf8, qmd_pf8, qmd_gf9, qmd_pf9, wrI_row, cpI_row, row_s, row_n, row_ss, row_sw, upd_s, upd_n, ad_inj, ad_z, ad_z2, Nat.reduceEqDiff, reduceCtorEq, List.cons_append, List.nil_append, Option.toList_some, Option.toList_none, Int.toNat_natCast, List.length_cons, List.length_nil, Int.cast_ofNat_Int, Nat.reduceAdd, Nat.reduceLeDiff, Nat.reduceLT, Nat.reduceMul, Int.reduceAdd, Int.reduceSub, Int.reduceMul, Int.reduceNeg, Int.reduceLT, Int.reduceLE, Int.reduceEq, Int.reduceToNat, eq_self, true_and, and_true, true_or, or_true, false_or, or_false, if_true, if_false, not_true_eq_false, not_false_eq_true, and_self, ne_eq, hM, x4']
    (repeat' (first | apply And.intro | split)) <;> first | omega | exact q
  · rw [if_neg c] at hQ
    obtain ⟨k1, k2, k3, k4, k5, k6⟩ := id hX
    have x4' : ¬ (X.2.1 : Int) = 0 := by omega
    have z31 : (ad M 1 = M) ↔ False := iff_false_intro (by unfold ad; omega)
    have zM1 : (M = ad M 1) ↔ False := iff_false_intro (by unfold ad; omega)
    have zM3 : (ad M 3 = M) ↔ False := iff_false_intro (by unfold ad; omega)
    have f1 := fun Q => bring_ok (zt := zt) (g := setRow g M (upd1 (g M) 3 ((X.2.1 : Int) - 1))) (ρ := ρ) (b := ad M 3) (c := ad M 1) (sp := 953 * (X.2.1 - 1)) (dp := 0) (n := 953) (sp' := 953 * ((X.2.1 : Int) - 1)) (dp' := 0) (n' := 953) (qmd_k3 hM) (qmd_k1 hM) (qmd_l3 hM) (qmd_l1 hM) (by omega) (by omega) (by omega) (by omega) (Or.inl (by unfold ad; omega)) (by omega) rfl rfl Q
    rw [row_n (x := M) (y := ad M 3) (by unfold ad; omega), row_n (x := M) (y := ad M 1) (by unfold ad; omega)] at f1
    have q := hQ (setRow (setRow g M (upd1 (g M) 3 ((X.2.1 : Int) - 1))) (ad M 1) (cpR (g (ad M 3)) (g (ad M 1)) (953 * (X.2.1 - 1)) 0 953)) ⟨hM, ?_, fun i hi => ?_, ?_, ?_, fun j hj => ?_⟩ (fun x z => ?_)
    · simp only [m_M_undo, b_M_undo_0, P_M_undo_10, b_M_undo_10, wp_abs, wp_aln0, wp_bipush, wp_copy, wp_cs1, wp_cs2, wp_cs3, wp_cs4, wp_cs5, wp_cs6, wp_cs7, wp_dup, wp_iconst, wp_imul, wp_iret, wp_isub, wp_izne, wp_max, wp_min, wp_sipush, wp_zret, qmd_kd, qmd_k1, qmd_l1, qmd_gf0, qmd_k2, qmd_l2, qmd_gf1, qmd_k3, qmd_l3, qmd_gf2, qmd_k4, qmd_l4, qmd_gf4, qmd_k5, qmd_l5, qmd_gf6, qmd_k6, qmd_l6, qmd_gf7, qmd_k7, qmd_l7, qmd_gf10, qmd_k8, qmd_l8, qmd_gf11, qmd_k9, qmd_l9, qmd_gf12, qmd_gf3, qmd_pf3, qmd_gf5, qmd_pf5, qmd_gf8, qmd_pf8, qmd_gf9, qmd_pf9, wrI_row, cpI_row, row_s, row_n, row_ss, row_sw, upd_s, upd_n, ad_inj, ad_z, ad_z2, Nat.reduceEqDiff, reduceCtorEq, List.cons_append, List.nil_append, Option.toList_some, Option.toList_none, Int.toNat_natCast, List.length_cons, List.length_nil, Int.cast_ofNat_Int, Nat.reduceAdd, Nat.reduceLeDiff, Nat.reduceLT, Nat.reduceMul, Int.reduceAdd, Int.reduceSub, Int.reduceMul, Int.reduceNeg, Int.reduceLT, Int.reduceLE, Int.reduceEq, Int.reduceToNat, eq_self, true_and, and_true, true_or, or_true, false_or, or_false, if_true, if_false, not_true_eq_false, not_false_eq_true, and_self, ne_eq, hM, x4, x4', f1, zM1]
      (repeat' (first | apply And.intro | split)) <;> first | omega | exact q
    · rw [row_s]
      refine (k3 (X.2.1 - 1) (by omega)).eq (hW.2.2.1 _ (by omega)) (fun j hj => ?_)
      rw [cpR_in (by omega) (by omega), show j - 0 = j by omega]
    · replace hi : i < X.2.1 - 1 := hi
      rw [row_n (by unfold ad; omega), row_n (by unfold ad; omega)]
      exact k3 i (by omega)
    · rw [row_n (by unfold ad; omega), row_s, upd_s]
      show (X.2.1 : Int) - 1 = ((X.2.1 - 1 : Nat) : Int)
      omega
    · rw [row_n (by unfold ad; omega), row_s, upd_n (by omega)]
      exact k5
    · rw [row_n (by unfold ad; omega), row_n (by unfold ad; omega)]
      exact k6 j hj
    · rw [row_n (by unfold ad at *; omega), row_n (by unfold ad at z; omega)]
end MLK
