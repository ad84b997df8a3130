/-! fault, layKinds, drawnSum, manyOf of the reference -/
/-- what is left of a run that ends ahead of c with the mouth x -/
def rsV (U : Vw) (x : Int) (c : Nat) : Int := if 0 < c ∧ U 10 (c - 1) = x then runV U c else 0
theorem rsV_y {U : Vw} {x : Int} {c : Nat} (h : U 10 c = x) : rsV U x (c + 1) = rsV U x c + 1 := by
  unfold rsV
  rw [if_pos ⟨by omega, by rw [show c + 1 - 1 = c by omega]; exact h⟩]
  simp only [runV]
  by_cases e : 0 < c ∧ U 10 (c - 1) = x
  · rw [if_pos e, if_pos ⟨e.1, by rw [h, e.2]⟩]
  · rw [if_neg e, if_neg (fun q => e ⟨q.1, by rw [← q.2, h]⟩)]
    rfl
theorem rsV_n {U : Vw} {x : Int} {c : Nat} (h : ¬ (0 < c ∧ U 10 (c - 1) = x)) : rsV U x c = 0 := if_neg h
section MFL
variable {zt : Nat → Nat} {g : Nat → Nat → Int} {ρ : Ri} {a : Nat} {U : Vw}
theorem faultIn_run (hM : isMd ρ a) (hR : LR (-1) (vwM (g (ad a 1))) U) (hU : WFV (-1) U) {f : Nat} {its was : Int} (hf : (f : Int) < U 8 0) (hwas : -1 ≤ was ∧ was ≤ 1000) {Q : Option AV → Sto → Prop} (hQ : ∀ o5 : Option AV, Wp zt 158 (P 158 116) [some (AR a), some (AI f), some (AI its), some (AI was), some (AI (runV U f)), o5] [] (g, ρ) Q) :
    ∀ (c : Nat) (r : Int), c ≤ f → 0 ≤ r ∧ r ≤ 1000 → r + c ≤ 1000 → r + rsV U was c = runV U f → Wp zt 158 (P 158 87) [some (AR a), some (AI f), some (AI its), some (AI was), some (AI r), some (AI ((c : Int) - 1))] [] (g, ρ) Q := by
  have b8 := hU.2.2.2.2.2.2.1
  have b0 := hU.1
  intro c
  induction c with
  | zero =>
    intro r hc hr hrc hv
    rw [rsV_n (by omega)] at hv
    have q := hQ (some (AI (((0 : Nat) : Int) - 1)))
    rw [← hv, Int.add_zero] at q
    have e1 : ((0 : Nat) : Int) - 1 = -1 := by omega
    rw [e1] at q ⊢
    rw [P_M_faultIn_87]
    simp only [m_M_faultIn, b_M_faultIn_0, P_M_faultIn_50, b_M_faultIn_50, P_M_faultIn_79, b_M_faultIn_79, P_M_faultIn_135, b_M_faultIn_135, P_M_faultIn_136, b_M_faultIn_136, wp_aln0, wp_bipush, wp_cv1, wp_cv2, wp_cv3, wp_cv4, wp_cv5, wp_cv6, wp_cv7, wp_goto, wp_iadd, wp_iald, wp_iceq, wp_icge, wp_icle, wp_icne, wp_iconst, wp_il4, wp_il5, wp_iln1, wp_iln2, wp_iln3, wp_inc4, wp_inc5, wp_iret, wp_is4, wp_is5, wp_isn2, wp_isn3, wp_isub, wp_izge, wp_izlt, wp_izne, wp_nop, wp_sipush, wp_zret, wrI_row, cpI_row, row_s, row_n, row_ss, row_sw, upd_s, upd_n, ad_inj, ad_z, ad_z2, Nat.reduceEqDiff, reduceCtorEq, List.cons_append, List.nil_append, Option.toList_some, Option.toList_none, Int.toNat_natCast, List.length_cons, List.length_nil, Int.cast_ofNat_Int, Nat.reduceAdd, Nat.reduceLeDiff, Nat.reduceLT, Nat.reduceMul, Int.reduceAdd, Int.reduceSub, Int.reduceMul, Int.reduceNeg, Int.reduceLT, Int.reduceLE, Int.reduceEq, Int.reduceToNat, eq_self, true_and, and_true, true_or, or_true, false_or, or_false, if_true, if_false, not_true_eq_false, not_false_eq_true, and_self, ne_eq, b_M_faultIn_87]
    (repeat' (first | apply And.intro | split)) <;> first | omega | exact q
  | succ c ih =>
    intro r hc hr hrc hv
    have e1 : ((c + 1 : Nat) : Int) - 1 = (c : Int) := by omega
    have rd := (p_9 hR hU (j := c) (by omega)).2
    have bd := (hU.2.2.2.2.2.2.2.2 c (by omega)).2
    have ei : (218 + (c : Int)).toNat = 218 + c := by omega
    have en : (c : Int) + -1 = (c : Int) - 1 := by omega
    by_cases h : U 10 c = was
    · have i1 := ih (r + 1) (by omega) (by omega) (by omega) (by rw [← hv, rsV_y h]; omega)
      rw [P_M_faultIn_87, e1]
      simp only [m_M_faultIn, b_M_faultIn_0, P_M_faultIn_50, b_M_faultIn_50, P_M_faultIn_79, b_M_faultIn_79, P_M_faultIn_135, b_M_faultIn_135, P_M_faultIn_136, b_M_faultIn_136, wp_aln0, wp_bipush, wp_cv1, wp_cv2, wp_cv3, wp_cv4, wp_cv5, wp_cv6, wp_cv7, wp_goto, wp_iadd, wp_iald, wp_iceq, wp_icge, wp_icle, wp_icne, wp_iconst, wp_il4, wp_il5, wp_iln1, wp_iln2, wp_iln3, wp_inc4, wp_inc5, wp_iret, wp_is4, wp_is5, wp_isn2, wp_isn3, wp_isub, wp_izge, wp_izlt, wp_izne, wp_nop, wp_sipush, wp_zret, qmd_kd, qmd_k1, qmd_l1, qmd_gf0, qmd_k2, qmd_l2, qmd_gf1, qmd_k3, qmd_l3, qmd_gf2, qmd_k4, qmd_l4, qmd_gf4, qmd_k5, qmd_l5, qmd_gf6, qmd_k6, qmd_l6, qmd_gf7, qmd_k7, qmd_l7, qmd_gf10, qmd_k8, qmd_l8, qmd_gf11, qmd_k9, qmd_l9, qmd_gf12, qmd_gf3, qmd_pf3, qmd_gf5, qmd_pf5, qmd_gf8, qmd_pf8, qmd_gf9, qmd_pf9, wrI_row, cpI_row, row_s, row_n, row_ss, row_sw, upd_s, upd_n, ad_inj, ad_z, ad_z2, Nat.reduceEqDiff, reduceCtorEq, List.cons_append, List.nil_append, Option.toList_some, Option.toList_none, Int.toNat_natCast, List.length_cons, List.length_nil, Int.cast_ofNat_Int, Nat.reduceAdd, Nat.reduceLeDiff, Nat.reduceLT, Nat.reduceMul, Int.reduceAdd, Int.reduceSub, Int.reduceMul, Int.reduceNeg, Int.reduceLT, Int.reduceLE, Int.reduceEq, Int.reduceToNat, eq_self, true_and, and_true, true_or, or_true, false_or, or_false, if_true, if_false, not_true_eq_false, not_false_eq_true, and_self, ne_eq, b_M_faultIn_87, hM, ei, rd, en]
      (repeat' (first | apply And.intro | split)) <;> first | omega | exact i1
    · rw [rsV_n (fun q => h q.2)] at hv
      have q := hQ (some (AI (c : Int)))
      rw [← hv, Int.add_zero] at q
      rw [P_M_faultIn_87, e1]
      simp only [m_M_faultIn, b_M_faultIn_0, P_M_faultIn_50, b_M_faultIn_50, P_M_faultIn_79, b_M_faultIn_79, P_M_faultIn_135, b_M_faultIn_135, P_M_faultIn_136, b_M_faultIn_136, wp_aln0, wp_bipush, wp_cv1, wp_cv2, wp_cv3, wp_cv4, wp_cv5, wp_cv6, wp_cv7, wp_goto, wp_iadd, wp_iald, wp_iceq, wp_icge, wp_icle, wp_icne, wp_iconst, wp_il4, wp_il5, wp_iln1, wp_iln2, wp_iln3, wp_inc4, wp_inc5, wp_iret, wp_is4, wp_is5, wp_isn2, wp_isn3, wp_isub, wp_izge, wp_izlt, wp_izne, wp_nop, wp_sipush, wp_zret, qmd_kd, qmd_k1, qmd_l1, qmd_gf0, qmd_k2, qmd_l2, qmd_gf1, qmd_k3, qmd_l3, qmd_gf2, qmd_k4, qmd_l4, qmd_gf4, qmd_k5, qmd_l5, qmd_gf6, qmd_k6, qmd_l6, qmd_gf7, qmd_k7, qmd_l7, qmd_gf10, qmd_k8, qmd_l8, qmd_gf11, qmd_k9, qmd_l9, qmd_gf12, qmd_gf3, qmd_pf3, qmd_gf5, qmd_pf5, qmd_gf8, qmd_pf8, qmd_gf9, qmd_pf9, wrI_row, cpI_row, row_s, row_n, row_ss, row_sw, upd_s, upd_n, ad_inj, ad_z, ad_z2, Nat.reduceEqDiff, reduceCtorEq, List.cons_append, List.nil_append, Option.toList_some, Option.toList_none, Int.toNat_natCast, List.length_cons, List.length_nil, Int.cast_ofNat_Int, Nat.reduceAdd, Nat.reduceLeDiff, Nat.reduceLT, Nat.reduceMul, Int.reduceAdd, Int.reduceSub, Int.reduceMul, Int.reduceNeg, Int.reduceLT, Int.reduceLE, Int.reduceEq, Int.reduceToNat, eq_self, true_and, and_true, true_or, or_true, false_or, or_false, if_true, if_false, not_true_eq_false, not_false_eq_true, and_self, ne_eq, b_M_faultIn_87, hM, ei, rd]
      (repeat' (first | apply And.intro | split)) <;> first | omega | exact q
theorem faultIn_ok (hM : isMd ρ a) (hR : LR (-1) (vwM (g (ad a 1))) U) (hU : WFV (-1) U) {f : Nat} (hf : (f : Int) < U 8 0) (hp : 0 < f → U 10 (f - 1) ≠ -1) (Q : Option AV → Sto → Prop) : WpM zt 158 [AR a, AI f] (g, ρ) Q ↔ Q (some (AI (fltV U f (runV U f)))) (g, ρ) := by
  refine wpm_iff (fun Q hQ => ?_) Q
  have b0 := hU.1
  have b4 := hU.2.2.2.1
  have b8 := hU.2.2.2.2.2.2.1
  have b9 := hU.2.2.2.2.2.2.2.2 f hf
  have rr := runV_b U f
  have r9 := (p_9 hR hU (j := f) hf).1
  have r10 := (p_9 hR hU (j := f) hf).2
  have i9 : (119 + (f : Int)).toNat = 119 + f := by omega
  have i10 : (218 + (f : Int)).toNat = 218 + f := by omega
  unfold fltV at hQ
  by_cases c1 : U 10 f = -1
  · rw [if_pos c1] at hQ
    simp only [m_M_faultIn, b_M_faultIn_0, P_M_faultIn_50, b_M_faultIn_50, P_M_faultIn_79, b_M_faultIn_79, P_M_faultIn_135, b_M_faultIn_135, P_M_faultIn_136, b_M_faultIn_136, wp_aln0, wp_bipush, wp_cv1, wp_cv2, wp_cv3, wp_cv4, wp_cv5, wp_cv6, wp_cv7, wp_goto, wp_iadd, wp_iald, wp_iceq, wp_icge, wp_icle, wp_icne, wp_iconst, wp_il4, wp_il5, wp_iln1, wp_iln2, wp_iln3, wp_inc4, wp_inc5, wp_iret, wp_is4, wp_is5, wp_isn2, wp_isn3, wp_isub, wp_izge, wp_izlt, wp_izne, wp_nop, wp_sipush, wp_zret, qmd_kd, qmd_k1, qmd_l1, qmd_gf0, qmd_k2, qmd_l2, qmd_gf1, qmd_k3, qmd_l3, qmd_gf2, qmd_k4, qmd_l4, qmd_gf4, qmd_k5, qmd_l5, qmd_gf6, qmd_k6, qmd_l6, qmd_gf7, qmd_k7, qmd_l7, qmd_gf10, qmd_k8, qmd_l8, qmd_gf11, qmd_k9, qmd_l9, qmd_gf12, qmd_gf3, qmd_pf3, qmd_gf5, qmd_pf5, qmd_gf8, qmd_pf8, qmd_gf9, qmd_pf9, wrI_row, cpI_row, row_s, row_n, row_ss, row_sw, upd_s, upd_n, ad_inj, ad_z, ad_z2, Nat.reduceEqDiff, reduceCtorEq, List.cons_append, List.nil_append, Option.toList_some, Option.toList_none, Int.toNat_natCast, List.length_cons, List.length_nil, Int.cast_ofNat_Int, Nat.reduceAdd, Nat.reduceLeDiff, Nat.reduceLT, Nat.reduceMul, Int.reduceAdd, Int.reduceSub, Int.reduceMul, Int.reduceNeg, Int.reduceLT, Int.reduceLE, Int.reduceEq, Int.reduceToNat, eq_self, true_and, and_true, true_or, or_true, false_or, or_false, if_true, if_false, not_true_eq_false, not_false_eq_true, and_self, ne_eq, hM, i10, r10, c1]
    (repeat' (first | apply And.intro | split)) <;> first | omega | exact hQ
  · rw [if_neg c1] at hQ
    have tail : (if f = 0 then Q (some (AI 0)) (g, ρ) else Q (some (AI (if U 4 0 < jmpV U (U 10 (f - 1)).toNat (U 10 f).toNat then 3 else if U 10 (f - 1) ≠ U 10 f ∧ runV U f < U 4 1 then 4 else 0))) (g, ρ)) → Wp zt 158 (P 158 44) [some (AR a), some (AI f), some (AI (U 10 f)), none, none, none] [] (g, ρ) Q := by
      intro hQ'
      by_cases c3 : f = 0
      · rw [if_pos c3] at hQ'
        have c3' : (f : Int) = 0 := by omega
        rw [P_M_faultIn_44]
        simp only [m_M_faultIn, b_M_faultIn_0, P_M_faultIn_50, b_M_faultIn_50, P_M_faultIn_79, b_M_faultIn_79, P_M_faultIn_135, b_M_faultIn_135, P_M_faultIn_136, b_M_faultIn_136, wp_aln0, wp_bipush, wp_cv1, wp_cv2, wp_cv3, wp_cv4, wp_cv5, wp_cv6, wp_cv7, wp_goto, wp_iadd, wp_iald, wp_iceq, wp_icge, wp_icle, wp_icne, wp_iconst, wp_il4, wp_il5, wp_iln1, wp_iln2, wp_iln3, wp_inc4, wp_inc5, wp_iret, wp_is4, wp_is5, wp_isn2, wp_isn3, wp_isub, wp_izge, wp_izlt, wp_izne, wp_nop, wp_sipush, wp_zret, qmd_kd, qmd_k1, qmd_l1, qmd_gf0, qmd_k2, qmd_l2, qmd_gf1, qmd_k3, qmd_l3, qmd_gf2, qmd_k4, qmd_l4, qmd_gf4, qmd_k5, qmd_l5, qmd_gf6, qmd_k6, qmd_l6, qmd_gf7, qmd_k7, qmd_l7, qmd_gf10, qmd_k8, qmd_l8, qmd_gf11, qmd_k9, qmd_l9, qmd_gf12, qmd_gf3, qmd_pf3, qmd_gf5, qmd_pf5, qmd_gf8, qmd_pf8, qmd_gf9, qmd_pf9, wrI_row, cpI_row, row_s, row_n, row_ss, row_sw, upd_s, upd_n, ad_inj, ad_z, ad_z2, Nat.reduceEqDiff, reduceCtorEq, List.cons_append, List.nil_append, Option.toList_some, Option.toList_none, Int.toNat_natCast, List.length_cons, List.length_nil, Int.cast_ofNat_Int, Nat.reduceAdd, Nat.reduceLeDiff, Nat.reduceLT, Nat.reduceMul, Int.reduceAdd, Int.reduceSub, Int.reduceMul, Int.reduceNeg, Int.reduceLT, Int.reduceLE, Int.reduceEq, Int.reduceToNat, eq_self, true_and, and_true, true_or, or_true, false_or, or_false, if_true, if_false, not_true_eq_false, not_false_eq_true, and_self, ne_eq, b_M_faultIn_44, hM, c3']
        (repeat' (first | apply And.intro | split)) <;> first | omega | exact hQ'
      · rw [if_neg c3] at hQ'
        have c3' : ¬ (f : Int) = 0 := by omega
        have c4 := hp (by omega)
        have b10 := (hU.2.2.2.2.2.2.2.2 (f - 1) (by omega)).2
        have r11 := (p_9 hR hU (j := f - 1) (by omega)).2
        have i11 : (218 + (f : Int) - 1).toNat = 218 + (f - 1) := by omega
        have fb := farBetween_ok (zt := zt) hM hR hU (x := U 10 (f - 1)) (y := U 10 f) (by omega) (by omega) (by omega) (by omega)
        have jb := jmpV_b hU (x := (U 10 (f - 1)).toNat) (y := (U 10 f).toNat) (by omega) (by omega)
        have s0 := setting_ok (zt := zt) hM hR (w := 0) (by omega) (by omega)
        have es0 : U 4 (0 : Int).toNat = U 4 0 := rfl
        have s1 := setting_ok (zt := zt) hM hR (w := 1) (by omega) (by omega)
        have es1 : U 4 (1 : Int).toNat = U 4 1 := rfl
        rw [es0] at s0
        rw [es1] at s1
        generalize jmpV U (U 10 (f - 1)).toNat (U 10 f).toNat = jj at *
        by_cases c5 : U 4 0 < jj
        · rw [if_pos c5] at hQ'
          rw [P_M_faultIn_44]
          simp only [m_M_faultIn, b_M_faultIn_0, P_M_faultIn_50, b_M_faultIn_50, P_M_faultIn_79, b_M_faultIn_79, P_M_faultIn_135, b_M_faultIn_135, P_M_faultIn_136, b_M_faultIn_136, wp_aln0, wp_bipush, wp_cv1, wp_cv2, wp_cv3, wp_cv4, wp_cv5, wp_cv6, wp_cv7, wp_goto, wp_iadd, wp_iald, wp_iceq, wp_icge, wp_icle, wp_icne, wp_iconst, wp_il4, wp_il5, wp_iln1, wp_iln2, wp_iln3, wp_inc4, wp_inc5, wp_iret, wp_is4, wp_is5, wp_isn2, wp_isn3, wp_isub, wp_izge, wp_izlt, wp_izne, wp_nop, wp_sipush, wp_zret, qmd_kd, qmd_k1, qmd_l1, qmd_gf0, qmd_k2, qmd_l2, qmd_gf1, qmd_k3, qmd_l3, qmd_gf2, qmd_k4, qmd_l4, qmd_gf4, qmd_k5, qmd_l5, qmd_gf6, qmd_k6, qmd_l6, qmd_gf7, qmd_k7, qmd_l7, qmd_gf10, qmd_k8, qmd_l8, qmd_gf11, qmd_k9, qmd_l9, qmd_gf12, qmd_gf3, qmd_pf3, qmd_gf5, qmd_pf5, qmd_gf8, qmd_pf8, qmd_gf9, qmd_pf9, wrI_row, cpI_row, row_s, row_n, row_ss, row_sw, upd_s, upd_n, ad_inj, ad_z, ad_z2, Nat.reduceEqDiff, reduceCtorEq, List.cons_append, List.nil_append, Option.toList_some, Option.toList_none, Int.toNat_natCast, List.length_cons, List.length_nil, Int.cast_ofNat_Int, Nat.reduceAdd, Nat.reduceLeDiff, Nat.reduceLT, Nat.reduceMul, Int.reduceAdd, Int.reduceSub, Int.reduceMul, Int.reduceNeg, Int.reduceLT, Int.reduceLE, Int.reduceEq, Int.reduceToNat, eq_self, true_and, and_true, true_or, or_true, false_or, or_false, if_true, if_false, not_true_eq_false, not_false_eq_true, and_self, ne_eq, b_M_faultIn_44, hM, c3', i11, r11, fb, s0]
          (repeat' (first | apply And.intro | split)) <;> first | omega | exact hQ'
        · rw [if_neg c5] at hQ'
          have k87 := faultIn_run (zt := zt) hM hR hU (its := U 10 f) (was := U 10 (f - 1)) hf (by omega) (Q := Q) (fun o5 => by
            by_cases c6 : U 10 (f - 1) = U 10 f
            · rw [if_neg (fun z => z.1 c6)] at hQ'
              have c6' : U 10 f = U 10 (f - 1) := c6.symm
              rw [P_M_faultIn_116]
              simp only [m_M_faultIn, b_M_faultIn_0, P_M_faultIn_50, b_M_faultIn_50, P_M_faultIn_79, b_M_faultIn_79, P_M_faultIn_135, b_M_faultIn_135, P_M_faultIn_136, b_M_faultIn_136, wp_aln0, wp_bipush, wp_cv1, wp_cv2, wp_cv3, wp_cv4, wp_cv5, wp_cv6, wp_cv7, wp_goto, wp_iadd, wp_iald, wp_iceq, wp_icge, wp_icle, wp_icne, wp_iconst, wp_il4, wp_il5, wp_iln1, wp_iln2, wp_iln3, wp_inc4, wp_inc5, wp_iret, wp_is4, wp_is5, wp_isn2, wp_isn3, wp_isub, wp_izge, wp_izlt, wp_izne, wp_nop, wp_sipush, wp_zret, qmd_kd, qmd_k1, qmd_l1, qmd_gf0, qmd_k2, qmd_l2, qmd_gf1, qmd_k3, qmd_l3, qmd_gf2, qmd_k4, qmd_l4, qmd_gf4, qmd_k5, qmd_l5, qmd_gf6, qmd_k6, qmd_l6, qmd_gf7, qmd_k7, qmd_l7, qmd_gf10, qmd_k8, qmd_l8, qmd_gf11, qmd_k9, qmd_l9, qmd_gf12, qmd_gf3, qmd_pf3, qmd_gf5, qmd_pf5, qmd_gf8, qmd_pf8, qmd_gf9, qmd_pf9, wrI_row, cpI_row, row_s, row_n, row_ss, row_sw, upd_s, upd_n, ad_inj, ad_z, ad_z2, Nat.reduceEqDiff, reduceCtorEq, List.cons_append, List.nil_append, Option.toList_some, Option.toList_none, Int.toNat_natCast, List.length_cons, List.length_nil, Int.cast_ofNat_Int, Nat.reduceAdd, Nat.reduceLeDiff, Nat.reduceLT, Nat.reduceMul, Int.reduceAdd, Int.reduceSub, Int.reduceMul, Int.reduceNeg, Int.reduceLT, Int.reduceLE, Int.reduceEq, Int.reduceToNat, eq_self, true_and, and_true, true_or, or_true, false_or, or_false, if_true, if_false, not_true_eq_false, not_false_eq_true, and_self, ne_eq, b_M_faultIn_116, hM, s1]
              (repeat' (first | apply And.intro | split)) <;> first | omega | exact hQ'
            · by_cases c7 : runV U f < U 4 1
              · rw [if_pos ⟨c6, c7⟩] at hQ'
                rw [P_M_faultIn_116]
                simp only [m_M_faultIn, b_M_faultIn_0, P_M_faultIn_50, b_M_faultIn_50, P_M_faultIn_79, b_M_faultIn_79, P_M_faultIn_135, b_M_faultIn_135, P_M_faultIn_136, b_M_faultIn_136, wp_aln0, wp_bipush, wp_cv1, wp_cv2, wp_cv3, wp_cv4, wp_cv5, wp_cv6, wp_cv7, wp_goto, wp_iadd, wp_iald, wp_iceq, wp_icge, wp_icle, wp_icne, wp_iconst, wp_il4, wp_il5, wp_iln1, wp_iln2, wp_iln3, wp_inc4, wp_inc5, wp_iret, wp_is4, wp_is5, wp_isn2, wp_isn3, wp_isub, wp_izge, wp_izlt, wp_izne, wp_nop, wp_sipush, wp_zret, qmd_kd, qmd_k1, qmd_l1, qmd_gf0, qmd_k2, qmd_l2, qmd_gf1, qmd_k3, qmd_l3, qmd_gf2, qmd_k4, qmd_l4, qmd_gf4, qmd_k5, qmd_l5, qmd_gf6, qmd_k6, qmd_l6, qmd_gf7, qmd_k7, qmd_l7, qmd_gf10, qmd_k8, qmd_l8, qmd_gf11, qmd_k9, qmd_l9, qmd_gf12, qmd_gf3, qmd_pf3, qmd_gf5, qmd_pf5, qmd_gf8, qmd_pf8, qmd_gf9, qmd_pf9, wrI_row, cpI_row, row_s, row_n, row_ss, row_sw, upd_s, upd_n, ad_inj, ad_z, ad_z2, Nat.reduceEqDiff, reduceCtorEq, List.cons_append, List.nil_append, Option.toList_some, Option.toList_none, Int.toNat_natCast, List.length_cons, List.length_nil, Int.cast_ofNat_Int, Nat.reduceAdd, Nat.reduceLeDiff, Nat.reduceLT, Nat.reduceMul, Int.reduceAdd, Int.reduceSub, Int.reduceMul, Int.reduceNeg, Int.reduceLT, Int.reduceLE, Int.reduceEq, Int.reduceToNat, eq_self, true_and, and_true, true_or, or_true, false_or, or_false, if_true, if_false, not_true_eq_false, not_false_eq_true, and_self, ne_eq, b_M_faultIn_116, hM, s1]
                (repeat' (first | apply And.intro | split)) <;> first | omega | exact hQ'
              · rw [if_neg (fun z => c7 z.2)] at hQ'
                rw [P_M_faultIn_116]
                simp only [m_M_faultIn, b_M_faultIn_0, P_M_faultIn_50, b_M_faultIn_50, P_M_faultIn_79, b_M_faultIn_79, P_M_faultIn_135, b_M_faultIn_135, P_M_faultIn_136, b_M_faultIn_136, wp_aln0, wp_bipush, wp_cv1, wp_cv2, wp_cv3, wp_cv4, wp_cv5, wp_cv6, wp_cv7, wp_goto, wp_iadd, wp_iald, wp_iceq, wp_icge, wp_icle, wp_icne, wp_iconst, wp_il4, wp_il5, wp_iln1, wp_iln2, wp_iln3, wp_inc4, wp_inc5, wp_iret, wp_is4, wp_is5, wp_isn2, wp_isn3, wp_isub, wp_izge, wp_izlt, wp_izne, wp_nop, wp_sipush, wp_zret, qmd_kd, qmd_k1, qmd_l1, qmd_gf0, qmd_k2, qmd_l2, qmd_gf1, qmd_k3, qmd_l3, qmd_gf2, qmd_k4, qmd_l4, qmd_gf4, qmd_k5, qmd_l5, qmd_gf6, qmd_k6, qmd_l6, qmd_gf7, qmd_k7, qmd_l7, qmd_gf10, qmd_k8, qmd_l8, qmd_gf11, qmd_k9, qmd_l9, qmd_gf12, qmd_gf3, qmd_pf3, qmd_gf5, qmd_pf5, qmd_gf8, qmd_pf8, qmd_gf9, qmd_pf9, wrI_row, cpI_row, row_s, row_n, row_ss, row_sw, upd_s, upd_n, ad_inj, ad_z, ad_z2, Nat.reduceEqDiff, reduceCtorEq, List.cons_append, List.nil_append, Option.toList_some, Option.toList_none, Int.toNat_natCast, List.length_cons, List.length_nil, Int.cast_ofNat_Int, Nat.reduceAdd, Nat.reduceLeDiff, Nat.reduceLT, Nat.reduceMul, Int.reduceAdd, Int.reduceSub, Int.reduceMul, Int.reduceNeg, Int.reduceLT, Int.reduceLE, Int.reduceEq, Int.reduceToNat, eq_self, true_and, and_true, true_or, or_true, false_or, or_false, if_true, if_false, not_true_eq_false, not_false_eq_true, and_self, ne_eq, b_M_faultIn_116, hM, s1]
                (repeat' (first | apply And.intro | split)) <;> first | omega | exact hQ') f 0 (Nat.le_refl _) (by omega) (by omega) (by
              unfold rsV
              rw [if_pos ⟨by omega, rfl⟩]
              omega)
          rw [P_M_faultIn_44]
          simp only [m_M_faultIn, b_M_faultIn_0, P_M_faultIn_50, b_M_faultIn_50, P_M_faultIn_79, b_M_faultIn_79, P_M_faultIn_135, b_M_faultIn_135, P_M_faultIn_136, b_M_faultIn_136, wp_aln0, wp_bipush, wp_cv1, wp_cv2, wp_cv3, wp_cv4, wp_cv5, wp_cv6, wp_cv7, wp_goto, wp_iadd, wp_iald, wp_iceq, wp_icge, wp_icle, wp_icne, wp_iconst, wp_il4, wp_il5, wp_iln1, wp_iln2, wp_iln3, wp_inc4, wp_inc5, wp_iret, wp_is4, wp_is5, wp_isn2, wp_isn3, wp_isub, wp_izge, wp_izlt, wp_izne, wp_nop, wp_sipush, wp_zret, qmd_kd, qmd_k1, qmd_l1, qmd_gf0, qmd_k2, qmd_l2, qmd_gf1, qmd_k3, qmd_l3, qmd_gf2, qmd_k4, qmd_l4, qmd_gf4, qmd_k5, qmd_l5, qmd_gf6, qmd_k6, qmd_l6, qmd_gf7, qmd_k7, qmd_l7, qmd_gf10, qmd_k8, qmd_l8, qmd_gf11, qmd_k9, qmd_l9, qmd_gf12, qmd_gf3, qmd_pf3, qmd_gf5, qmd_pf5, qmd_gf8, qmd_pf8, qmd_gf9, qmd_pf9, wrI_row, cpI_row, row_s, row_n, row_ss, row_sw, upd_s, upd_n, ad_inj, ad_z, ad_z2, Nat.reduceEqDiff, reduceCtorEq, List.cons_append, List.nil_append, Option.toList_some, Option.toList_none, Int.toNat_natCast, List.length_cons, List.length_nil, Int.cast_ofNat_Int, Nat.reduceAdd, Nat.reduceLeDiff, Nat.reduceLT, Nat.reduceMul, Int.reduceAdd, Int.reduceSub, Int.reduceMul, Int.reduceNeg, Int.reduceLT, Int.reduceLE, Int.reduceEq, Int.reduceToNat, eq_self, true_and, and_true, true_or, or_true, false_or, or_false, if_true, if_false, not_true_eq_false, not_false_eq_true, and_self, ne_eq, b_M_faultIn_44, hM, c3', i11, r11, fb, s0]
          (repeat' (first | apply And.intro | split)) <;> first | omega | exact k87
    by_cases c2 : U 9 f = -1
    · rw [if_neg (fun z => z.1 c2)] at hQ
      have k1 := tail (by
        by_cases c3 : f = 0
        · rw [if_pos c3] at hQ ⊢
          exact hQ
        · rw [if_neg c3] at hQ ⊢
          exact hQ)
      have k17 : Wp zt 158 (P 158 17) [some (AR a), some (AI f), some (AI (U 10 f)), none, none, none] [] (g, ρ) Q := by
        rw [P_M_faultIn_17]
        simp only [m_M_faultIn, b_M_faultIn_0, P_M_faultIn_50, b_M_faultIn_50, P_M_faultIn_79, b_M_faultIn_79, P_M_faultIn_135, b_M_faultIn_135, P_M_faultIn_136, b_M_faultIn_136, wp_aln0, wp_bipush, wp_cv1, wp_cv2, wp_cv3, wp_cv4, wp_cv5, wp_cv6, wp_cv7, wp_goto, wp_iadd, wp_iald, wp_iceq, wp_icge, wp_icle, wp_icne, wp_iconst, wp_il4, wp_il5, wp_iln1, wp_iln2, wp_iln3, wp_inc4, wp_inc5, wp_iret, wp_is4, wp_is5, wp_isn2, wp_isn3, wp_isub, wp_izge, wp_izlt, wp_izne, wp_nop, wp_sipush, wp_zret, qmd_kd, qmd_k1, qmd_l1, qmd_gf0, qmd_k2, qmd_l2, qmd_gf1, qmd_k3, qmd_l3, qmd_gf2, qmd_k4, qmd_l4, qmd_gf4, qmd_k5, qmd_l5, qmd_gf6, qmd_k6, qmd_l6, qmd_gf7, qmd_k7, qmd_l7, qmd_gf10, qmd_k8, qmd_l8, qmd_gf11, qmd_k9, qmd_l9, qmd_gf12, qmd_gf3, qmd_pf3, qmd_gf5, qmd_pf5, qmd_gf8, qmd_pf8, qmd_gf9, qmd_pf9, wrI_row, cpI_row, row_s, row_n, row_ss, row_sw, upd_s, upd_n, ad_inj, ad_z, ad_z2, Nat.reduceEqDiff, reduceCtorEq, List.cons_append, List.nil_append, Option.toList_some, Option.toList_none, Int.toNat_natCast, List.length_cons, List.length_nil, Int.cast_ofNat_Int, Nat.reduceAdd, Nat.reduceLeDiff, Nat.reduceLT, Nat.reduceMul, Int.reduceAdd, Int.reduceSub, Int.reduceMul, Int.reduceNeg, Int.reduceLT, Int.reduceLE, Int.reduceEq, Int.reduceToNat, eq_self, true_and, and_true, true_or, or_true, false_or, or_false, if_true, if_false, not_true_eq_false, not_false_eq_true, and_self, ne_eq, b_M_faultIn_17, hM, i9, r9, c2]
        (repeat' (first | apply And.intro | split)) <;> first | omega | exact k1
      simp only [m_M_faultIn, b_M_faultIn_0, P_M_faultIn_50, b_M_faultIn_50, P_M_faultIn_79, b_M_faultIn_79, P_M_faultIn_135, b_M_faultIn_135, P_M_faultIn_136, b_M_faultIn_136, wp_aln0, wp_bipush, wp_cv1, wp_cv2, wp_cv3, wp_cv4, wp_cv5, wp_cv6, wp_cv7, wp_goto, wp_iadd, wp_iald, wp_iceq, wp_icge, wp_icle, wp_icne, wp_iconst, wp_il4, wp_il5, wp_iln1, wp_iln2, wp_iln3, wp_inc4, wp_inc5, wp_iret, wp_is4, wp_is5, wp_isn2, wp_isn3, wp_isub, wp_izge, wp_izlt, wp_izne, wp_nop, wp_sipush, wp_zret, qmd_kd, qmd_k1, qmd_l1, qmd_gf0, qmd_k2, qmd_l2, qmd_gf1, qmd_k3, qmd_l3, qmd_gf2, qmd_k4, qmd_l4, qmd_gf4, qmd_k5, qmd_l5, qmd_gf6, qmd_k6, qmd_l6, qmd_gf7, qmd_k7, qmd_l7, qmd_gf10, qmd_k8, qmd_l8, qmd_gf11, qmd_k9, qmd_l9, qmd_gf12, qmd_gf3, qmd_pf3, qmd_gf5, qmd_pf5, qmd_gf8, qmd_pf8, qmd_gf9, qmd_pf9, wrI_row, cpI_row, row_s, row_n, row_ss, row_sw, upd_s, upd_n, ad_inj, ad_z, ad_z2, Nat.reduceEqDiff, reduceCtorEq, List.cons_append, List.nil_append, Option.toList_some, Option.toList_none, Int.toNat_natCast, List.length_cons, List.length_nil, Int.cast_ofNat_Int, Nat.reduceAdd, Nat.reduceLeDiff, Nat.reduceLT, Nat.reduceMul, Int.reduceAdd, Int.reduceSub, Int.reduceMul, Int.reduceNeg, Int.reduceLT, Int.reduceLE, Int.reduceEq, Int.reduceToNat, eq_self, true_and, and_true, true_or, or_true, false_or, or_false, if_true, if_false, not_true_eq_false, not_false_eq_true, and_self, ne_eq, hM, i10, r10]
      (repeat' (first | apply And.intro | split)) <;> first | omega | exact k17
    · by_cases c3 : U 9 f = U 10 f
      · rw [if_neg (fun z => z.2 c3)] at hQ
        have k1 := tail (by
          by_cases c3 : f = 0
          · rw [if_pos c3] at hQ ⊢
            exact hQ
          · rw [if_neg c3] at hQ ⊢
            exact hQ)
        have k17 : Wp zt 158 (P 158 17) [some (AR a), some (AI f), some (AI (U 10 f)), none, none, none] [] (g, ρ) Q := by
          rw [P_M_faultIn_17]
          simp only [m_M_faultIn, b_M_faultIn_0, P_M_faultIn_50, b_M_faultIn_50, P_M_faultIn_79, b_M_faultIn_79, P_M_faultIn_135, b_M_faultIn_135, P_M_faultIn_136, b_M_faultIn_136, wp_aln0, wp_bipush, wp_cv1, wp_cv2, wp_cv3, wp_cv4, wp_cv5, wp_cv6, wp_cv7, wp_goto, wp_iadd, wp_iald, wp_iceq, wp_icge, wp_icle, wp_icne, wp_iconst, wp_il4, wp_il5, wp_iln1, wp_iln2, wp_iln3, wp_inc4, wp_inc5, wp_iret, wp_is4, wp_is5, wp_isn2, wp_isn3, wp_isub, wp_izge, wp_izlt, wp_izne, wp_nop, wp_sipush, wp_zret, qmd_kd, qmd_k1, qmd_l1, qmd_gf0, qmd_k2, qmd_l2, qmd_gf1, qmd_k3, qmd_l3, qmd_gf2, qmd_k4, qmd_l4, qmd_gf4, qmd_k5, qmd_l5, qmd_gf6, qmd_k6, qmd_l6, qmd_gf7, qmd_k7, qmd_l7, qmd_gf10, qmd_k8, qmd_l8, qmd_gf11, qmd_k9, qmd_l9, qmd_gf12, qmd_gf3, qmd_pf3, qmd_gf5, qmd_pf5, qmd_gf8, qmd_pf8, qmd_gf9, qmd_pf9, wrI_row, cpI_row, row_s, row_n, row_ss, row_sw, upd_s, upd_n, ad_inj, ad_z, ad_z2, Nat.reduceEqDiff, reduceCtorEq, List.cons_append, List.nil_append, Option.toList_some, Option.toList_none, Int.toNat_natCast, List.length_cons, List.length_nil, Int.cast_ofNat_Int, Nat.reduceAdd, Nat.reduceLeDiff, Nat.reduceLT, Nat.reduceMul, Int.reduceAdd, Int.reduceSub, Int.reduceMul, Int.reduceNeg, Int.reduceLT, Int.reduceLE, Int.reduceEq, Int.reduceToNat, eq_self, true_and, and_true, true_or, or_true, false_or, or_false, if_true, if_false, not_true_eq_false, not_false_eq_true, and_self, ne_eq, b_M_faultIn_17, hM, i9, r9]
          (repeat' (first | apply And.intro | split)) <;> first | omega | exact k1
        simp only [m_M_faultIn, b_M_faultIn_0, P_M_faultIn_50, b_M_faultIn_50, P_M_faultIn_79, b_M_faultIn_79, P_M_faultIn_135, b_M_faultIn_135, P_M_faultIn_136, b_M_faultIn_136, wp_aln0, wp_bipush, wp_cv1, wp_cv2, wp_cv3, wp_cv4, wp_cv5, wp_cv6, wp_cv7, wp_goto, wp_iadd, wp_iald, wp_iceq, wp_icge, wp_icle, wp_icne, wp_iconst, wp_il4, wp_il5, wp_iln1, wp_iln2, wp_iln3, wp_inc4, wp_inc5, wp_iret, wp_is4, wp_is5, wp_isn2, wp_isn3, wp_isub, wp_izge, wp_izlt, wp_izne, wp_nop, wp_sipush, wp_zret, qmd_kd, qmd_k1, qmd_l1, qmd_gf0, qmd_k2, qmd_l2, qmd_gf1, qmd_k3, qmd_l3, qmd_gf2, qmd_k4, qmd_l4, qmd_gf4, qmd_k5, qmd_l5, qmd_gf6, qmd_k6, qmd_l6, qmd_gf7, qmd_k7, qmd_l7, qmd_gf10, qmd_k8, qmd_l8, qmd_gf11, qmd_k9, qmd_l9, qmd_gf12, qmd_gf3, qmd_pf3, qmd_gf5, qmd_pf5, qmd_gf8, qmd_pf8, qmd_gf9, qmd_pf9, wrI_row, cpI_row, row_s, row_n, row_ss, row_sw, upd_s, upd_n, ad_inj, ad_z, ad_z2, Nat.reduceEqDiff, reduceCtorEq, List.cons_append, List.nil_append, Option.toList_some, Option.toList_none, Int.toNat_natCast, List.length_cons, List.length_nil, Int.cast_ofNat_Int, Nat.reduceAdd, Nat.reduceLeDiff, Nat.reduceLT, Nat.reduceMul, Int.reduceAdd, Int.reduceSub, Int.reduceMul, Int.reduceNeg, Int.reduceLT, Int.reduceLE, Int.reduceEq, Int.reduceToNat, eq_self, true_and, and_true, true_or, or_true, false_or, or_false, if_true, if_false, not_true_eq_false, not_false_eq_true, and_self, ne_eq, hM, i10, r10]
        (repeat' (first | apply And.intro | split)) <;> first | omega | exact k17
      · rw [if_pos ⟨c2, c3⟩] at hQ
        have k17 : Wp zt 158 (P 158 17) [some (AR a), some (AI f), some (AI (U 10 f)), none, none, none] [] (g, ρ) Q := by
          rw [P_M_faultIn_17]
          simp only [m_M_faultIn, b_M_faultIn_0, P_M_faultIn_50, b_M_faultIn_50, P_M_faultIn_79, b_M_faultIn_79, P_M_faultIn_135, b_M_faultIn_135, P_M_faultIn_136, b_M_faultIn_136, wp_aln0, wp_bipush, wp_cv1, wp_cv2, wp_cv3, wp_cv4, wp_cv5, wp_cv6, wp_cv7, wp_goto, wp_iadd, wp_iald, wp_iceq, wp_icge, wp_icle, wp_icne, wp_iconst, wp_il4, wp_il5, wp_iln1, wp_iln2, wp_iln3, wp_inc4, wp_inc5, wp_iret, wp_is4, wp_is5, wp_isn2, wp_isn3, wp_isub, wp_izge, wp_izlt, wp_izne, wp_nop, wp_sipush, wp_zret, qmd_kd, qmd_k1, qmd_l1, qmd_gf0, qmd_k2, qmd_l2, qmd_gf1, qmd_k3, qmd_l3, qmd_gf2, qmd_k4, qmd_l4, qmd_gf4, qmd_k5, qmd_l5, qmd_gf6, qmd_k6, qmd_l6, qmd_gf7, qmd_k7, qmd_l7, qmd_gf10, qmd_k8, qmd_l8, qmd_gf11, qmd_k9, qmd_l9, qmd_gf12, qmd_gf3, qmd_pf3, qmd_gf5, qmd_pf5, qmd_gf8, qmd_pf8, qmd_gf9, qmd_pf9, wrI_row, cpI_row, row_s, row_n, row_ss, row_sw, upd_s, upd_n, ad_inj, ad_z, ad_z2, Nat.reduceEqDiff, reduceCtorEq, List.cons_append, List.nil_append, Option.toList_some, Option.toList_none, Int.toNat_natCast, List.length_cons, List.length_nil, Int.cast_ofNat_Int, Nat.reduceAdd, Nat.reduceLeDiff, Nat.reduceLT, Nat.reduceMul, Int.reduceAdd, Int.reduceSub, Int.reduceMul, Int.reduceNeg, Int.reduceLT, Int.reduceLE, Int.reduceEq, Int.reduceToNat, eq_self, true_and, and_true, true_or, or_true, false_or, or_false, if_true, if_false, not_true_eq_false, not_false_eq_true, and_self, ne_eq, b_M_faultIn_17, hM, i9, r9]
          (repeat' (first | apply And.intro | split)) <;> first | omega | exact hQ
        simp only [m_M_faultIn, b_M_faultIn_0, P_M_faultIn_50, b_M_faultIn_50, P_M_faultIn_79, b_M_faultIn_79, P_M_faultIn_135, b_M_faultIn_135, P_M_faultIn_136, b_M_faultIn_136, wp_aln0, wp_bipush, wp_cv1, wp_cv2, wp_cv3, wp_cv4, wp_cv5, wp_cv6, wp_cv7, wp_goto, wp_iadd, wp_iald, wp_iceq, wp_icge, wp_icle, wp_icne, wp_iconst, wp_il4, wp_il5, wp_iln1, wp_iln2, wp_iln3, wp_inc4, wp_inc5, wp_iret, wp_is4, wp_is5, wp_isn2, wp_isn3, wp_isub, wp_izge, wp_izlt, wp_izne, wp_nop, wp_sipush, wp_zret, qmd_kd, qmd_k1, qmd_l1, qmd_gf0, qmd_k2, qmd_l2, qmd_gf1, qmd_k3, qmd_l3, qmd_gf2, qmd_k4, qmd_l4, qmd_gf4, qmd_k5, qmd_l5, qmd_gf6, qmd_k6, qmd_l6, qmd_gf7, qmd_k7, qmd_l7, qmd_gf10, qmd_k8, qmd_l8, qmd_gf11, qmd_k9, qmd_l9, qmd_gf12, qmd_gf3, qmd_pf3, qmd_gf5, qmd_pf5, qmd_gf8, qmd_pf8, qmd_gf9, qmd_pf9, wrI_row, cpI_row, row_s, row_n, row_ss, row_sw, upd_s, upd_n, ad_inj, ad_z, ad_z2, Nat.reduceEqDiff, reduceCtorEq, List.cons_append, List.nil_append, Option.toList_some, Option.toList_none, Int.toNat_natCast, List.length_cons, List.length_nil, Int.cast_ofNat_Int, Nat.reduceAdd, Nat.reduceLeDiff, Nat.reduceLT, Nat.reduceMul, Int.reduceAdd, Int.reduceSub, Int.reduceMul, Int.reduceNeg, Int.reduceLT, Int.reduceLE, Int.reduceEq, Int.reduceToNat, eq_self, true_and, and_true, true_or, or_true, false_or, or_false, if_true, if_false, not_true_eq_false, not_false_eq_true, and_self, ne_eq, hM, i10, r10]
        (repeat' (first | apply And.intro | split)) <;> first | omega | exact k17
theorem fault_loopM (hM : isMd ρ a) (hR : LR (-1) (vwM (g (ad a 1))) U) (hU : WFV (-1) U) {w : Int} (hw : 0 ≤ w ∧ w ≤ 1) {Q : Option AV → Sto → Prop} (hQ : Q (some (AI (flF U w (U 8 0).toNat 0))) (g, ρ)) :
    ∀ (d f : Nat) (o3 : Option AV), (f : Int) + d = U 8 0 → (0 < f → U 10 (f - 1) ≠ -1) → flF U w d f = flF U w (U 8 0).toNat 0 → Wp zt 159 (P 159 13) [some (AR a), some (AI w), some (AI f), o3] [] (g, ρ) Q := by
  have b8 := hU.2.2.2.2.2.2.1
  have fr := frames_ok (zt := zt) hM hR hU
  intro d
  induction d with
  | zero =>
    intro f o3 hf hp hs
    rw [← hs] at hQ
    have hfe : ¬ (f : Int) < U 8 0 := by omega
    rw [P_M_fault_13]
    simp only [m_M_fault, b_M_fault_0, P_M_fault_11, b_M_fault_11, P_M_fault_39, b_M_fault_39, P_M_fault_40, b_M_fault_40, P_M_fault_41, b_M_fault_41, P_M_fault_47, b_M_fault_47, wp_abs, wp_aln0, wp_bipush, wp_copy, wp_cs1, wp_cs2, wp_cs3, wp_cs4, wp_cs5, wp_cs6, wp_cs7, wp_cv1, wp_cv2, wp_cv3, wp_cv4, wp_cv5, wp_cv6, wp_cv7, wp_goto, wp_icge, wp_iconst, wp_iln1, wp_iln2, wp_iln3, wp_inc2, wp_iret, wp_isn2, wp_isn3, wp_izle, wp_izne, wp_max, wp_min, wp_nop, wp_zret, qmd_kd, qmd_k1, qmd_l1, qmd_gf0, qmd_k2, qmd_l2, qmd_gf1, qmd_k3, qmd_l3, qmd_gf2, qmd_k4, qmd_l4, qmd_gf4, qmd_k5, qmd_l5, qmd_gf6, qmd_k6, qmd_l6, qmd_gf7, qmd_k7, qmd_l7, qmd_gf10, qmd_k8, qmd_l8, qmd_gf11, qmd_k9, qmd_l9, qmd_gf12, qmd_gf3, qmd_pf3, qmd_gf5, qmd_pf5, qmd_gf8, qmd_pf8, qmd_gf9, qmd_pf9, wrI_row, cpI_row, row_s, row_n, row_ss, row_sw, upd_s, upd_n, ad_inj, ad_z, ad_z2, Nat.reduceEqDiff, reduceCtorEq, List.cons_append, List.nil_append, Option.toList_some, Option.toList_none, Int.toNat_natCast, List.length_cons, List.length_nil, Int.cast_ofNat_Int, Nat.reduceAdd, Nat.reduceLeDiff, Nat.reduceLT, Nat.reduceMul, Int.reduceAdd, Int.reduceSub, Int.reduceMul, Int.reduceNeg, Int.reduceLT, Int.reduceLE, Int.reduceEq, Int.reduceToNat, eq_self, true_and, and_true, true_or, or_true, false_or, or_false, if_true, if_false, not_true_eq_false, not_false_eq_true, and_self, ne_eq, b_M_fault_13, hM, fr]
    (repeat' (first | apply And.intro | split)) <;> first | omega | exact hQ
  | succ d ih =>
    intro f o3 hf hp hs
    simp only [flF] at hs
    have fb := fltV_b U f (runV U f)
    have fi := faultIn_ok (zt := zt) hM hR hU (f := f) (by omega) hp
    have hfl : ¬ U 8 0 ≤ (f : Int) := by omega
    by_cases c : fltV U f (runV U f) = 0
    · rw [if_pos c] at hs
      rw [c] at fi
      have c10 := fltV_0 c
      have i1 := ih (f + 1) (some (AI 0)) (by omega) (fun _ => c10) hs
      rw [P_M_fault_13]
      simp only [m_M_fault, b_M_fault_0, P_M_fault_11, b_M_fault_11, P_M_fault_39, b_M_fault_39, P_M_fault_40, b_M_fault_40, P_M_fault_41, b_M_fault_41, P_M_fault_47, b_M_fault_47, wp_abs, wp_aln0, wp_bipush, wp_copy, wp_cs1, wp_cs2, wp_cs3, wp_cs4, wp_cs5, wp_cs6, wp_cs7, wp_cv1, wp_cv2, wp_cv3, wp_cv4, wp_cv5, wp_cv6, wp_cv7, wp_goto, wp_icge, wp_iconst, wp_iln1, wp_iln2, wp_iln3, wp_inc2, wp_iret, wp_isn2, wp_isn3, wp_izle, wp_izne, wp_max, wp_min, wp_nop, wp_zret, qmd_kd, qmd_k1, qmd_l1, qmd_gf0, qmd_k2, qmd_l2, qmd_gf1, qmd_k3, qmd_l3, qmd_gf2, qmd_k4, qmd_l4, qmd_gf4, qmd_k5, qmd_l5, qmd_gf6, qmd_k6, qmd_l6, qmd_gf7, qmd_k7, qmd_l7, qmd_gf10, qmd_k8, qmd_l8, qmd_gf11, qmd_k9, qmd_l9, qmd_gf12, qmd_gf3, qmd_pf3, qmd_gf5, qmd_pf5, qmd_gf8, qmd_pf8, qmd_gf9, qmd_pf9, wrI_row, cpI_row, row_s, row_n, row_ss, row_sw, upd_s, upd_n, ad_inj, ad_z, ad_z2, Nat.reduceEqDiff, reduceCtorEq, List.cons_append, List.nil_append, Option.toList_some, Option.toList_none, Int.toNat_natCast, List.length_cons, List.length_nil, Int.cast_ofNat_Int, Nat.reduceAdd, Nat.reduceLeDiff, Nat.reduceLT, Nat.reduceMul, Int.reduceAdd, Int.reduceSub, Int.reduceMul, Int.reduceNeg, Int.reduceLT, Int.reduceLE, Int.reduceEq, Int.reduceToNat, eq_self, true_and, and_true, true_or, or_true, false_or, or_false, if_true, if_false, not_true_eq_false, not_false_eq_true, and_self, ne_eq, b_M_fault_13, hM, fr, fi, hfl]
      (repeat' (first | apply And.intro | split)) <;> first | omega | exact i1
    · rw [if_neg c] at hs
      rw [← hs] at hQ
      have c' : ¬ fltV U f (runV U f) ≤ 0 := by omega
      by_cases c0 : w = 0
      · rw [if_pos c0] at hQ
        rw [P_M_fault_13]
        simp only [m_M_fault, b_M_fault_0, P_M_fault_11, b_M_fault_11, P_M_fault_39, b_M_fault_39, P_M_fault_40, b_M_fault_40, P_M_fault_41, b_M_fault_41, P_M_fault_47, b_M_fault_47, wp_abs, wp_aln0, wp_bipush, wp_copy, wp_cs1, wp_cs2, wp_cs3, wp_cs4, wp_cs5, wp_cs6, wp_cs7, wp_cv1, wp_cv2, wp_cv3, wp_cv4, wp_cv5, wp_cv6, wp_cv7, wp_goto, wp_icge, wp_iconst, wp_iln1, wp_iln2, wp_iln3, wp_inc2, wp_iret, wp_isn2, wp_isn3, wp_izle, wp_izne, wp_max, wp_min, wp_nop, wp_zret, qmd_kd, qmd_k1, qmd_l1, qmd_gf0, qmd_k2, qmd_l2, qmd_gf1, qmd_k3, qmd_l3, qmd_gf2, qmd_k4, qmd_l4, qmd_gf4, qmd_k5, qmd_l5, qmd_gf6, qmd_k6, qmd_l6, qmd_gf7, qmd_k7, qmd_l7, qmd_gf10, qmd_k8, qmd_l8, qmd_gf11, qmd_k9, qmd_l9, qmd_gf12, qmd_gf3, qmd_pf3, qmd_gf5, qmd_pf5, qmd_gf8, qmd_pf8, qmd_gf9, qmd_pf9, wrI_row, cpI_row, row_s, row_n, row_ss, row_sw, upd_s, upd_n, ad_inj, ad_z, ad_z2, Nat.reduceEqDiff, reduceCtorEq, List.cons_append, List.nil_append, Option.toList_some, Option.toList_none, Int.toNat_natCast, List.length_cons, List.length_nil, Int.cast_ofNat_Int, Nat.reduceAdd, Nat.reduceLeDiff, Nat.reduceLT, Nat.reduceMul, Int.reduceAdd, Int.reduceSub, Int.reduceMul, Int.reduceNeg, Int.reduceLT, Int.reduceLE, Int.reduceEq, Int.reduceToNat, eq_self, true_and, and_true, true_or, or_true, false_or, or_false, if_true, if_false, not_true_eq_false, not_false_eq_true, and_self, ne_eq, b_M_fault_13, hM, fr, fi, hfl, c', c0]
        (repeat' (first | apply And.intro | split)) <;> first | omega | exact hQ
      · rw [if_neg c0] at hQ
        rw [P_M_fault_13]
        simp only [m_M_fault, b_M_fault_0, P_M_fault_11, b_M_fault_11, P_M_fault_39, b_M_fault_39, P_M_fault_40, b_M_fault_40, P_M_fault_41, b_M_fault_41, P_M_fault_47, b_M_fault_47, wp_abs, wp_aln0, wp_bipush, wp_copy, wp_cs1, wp_cs2, wp_cs3, wp_cs4, wp_cs5, wp_cs6, wp_cs7, wp_cv1, wp_cv2, wp_cv3, wp_cv4, wp_cv5, wp_cv6, wp_cv7, wp_goto, wp_icge, wp_iconst, wp_iln1, wp_iln2, wp_iln3, wp_inc2, wp_iret, wp_isn2, wp_isn3, wp_izle, wp_izne, wp_max, wp_min, wp_nop, wp_zret, qmd_kd, qmd_k1, qmd_l1, qmd_gf0, qmd_k2, qmd_l2, qmd_gf1, qmd_k3, qmd_l3, qmd_gf2, qmd_k4, qmd_l4, qmd_gf4, qmd_k5, qmd_l5, qmd_gf6, qmd_k6, qmd_l6, qmd_gf7, qmd_k7, qmd_l7, qmd_gf10, qmd_k8, qmd_l8, qmd_gf11, qmd_k9, qmd_l9, qmd_gf12, qmd_gf3, qmd_pf3, qmd_gf5, qmd_pf5, qmd_gf8, qmd_pf8, qmd_gf9, qmd_pf9, wrI_row, cpI_row, row_s, row_n, row_ss, row_sw, upd_s, upd_n, ad_inj, ad_z, ad_z2, Nat.reduceEqDiff, reduceCtorEq, List.cons_append, List.nil_append, Option.toList_some, Option.toList_none, Int.toNat_natCast, List.length_cons, List.length_nil, Int.cast_ofNat_Int, Nat.reduceAdd, Nat.reduceLeDiff, Nat.reduceLT, Nat.reduceMul, Int.reduceAdd, Int.reduceSub, Int.reduceMul, Int.reduceNeg, Int.reduceLT, Int.reduceLE, Int.reduceEq, Int.reduceToNat, eq_self, true_and, and_true, true_or, or_true, false_or, or_false, if_true, if_false, not_true_eq_false, not_false_eq_true, and_self, ne_eq, b_M_fault_13, hM, fr, fi, hfl, c', c0]
        (repeat' (first | apply And.intro | split)) <;> first | omega | exact hQ
theorem layKinds_inner (hM : isMd ρ a) (hR : LR (-1) (vwM (g (ad a 1))) U) (hU : WFV (-1) U) {s : Nat} (hs : (s : Int) < U 5 0) {Q : Option AV → Sto → Prop}
    (kk : ∀ (R : Nat → Int) (f : Nat) (o3 : Option AV), (f : Int) = sumL U (s + 1) → (∀ j, j < f → R j = kndV U j) → Wp zt 137 (P 137 4) [some (AR a), some (AI f), some (AI ((s : Int) + 1)), o3] [] (setRow g (ad a 9) R, ρ) Q) :
    ∀ (d k f : Nat) (R : Nat → Int), (k : Int) + d = U 7 s → (f : Int) = sumL U s + k → (∀ j, j < f → R j = kndV U j) → Wp zt 137 (P 137 17) [some (AR a), some (AI f), some (AI s), some (AI k)] [] (setRow g (ad a 9) R, ρ) Q := by
  have b8 := hU.2.2.2.2.2.2.1
  have b5 := hU.2.2.2.2.1
  have sb := sumL_at2 hU (s := s) hs
  have bs := hU.2.2.2.2.2.1 s hs
  have hRr : ∀ R, LR (-1) (vwM (setRow g (ad a 9) R (ad a 1))) U := fun R => by
    rw [row_n (by unfold ad; omega)]
    exact hR
  have f1 := fun R => framesOf_ok (zt := zt) (g := setRow g (ad a 9) R) hM (hRr R) hU (s := (s : Int)) (by omega) hs
  have k1 := fun R => kindOf_okM (zt := zt) (g := setRow g (ad a 9) R) hM (hRr R) hU (s := (s : Int)) (by omega) hs
  simp only [Int.toNat_natCast] at f1 k1
  intro d
  induction d with
  | zero =>
    intro k f R hk hf hI
    have i1 := kk R f (some (AI (k : Int))) (by simp only [sumL]; omega) hI
    rw [P_M_layKinds_17]
    simp only [m_M_layKinds, b_M_layKinds_0, P_M_layKinds_46, b_M_layKinds_46, P_M_layKinds_52, b_M_layKinds_52, wp_aln0, wp_bipush, wp_cv1, wp_cv2, wp_cv3, wp_cv4, wp_cv5, wp_cv6, wp_cv7, wp_goto, wp_iald, wp_iast, wp_icge, wp_iconst, wp_iln1, wp_iln2, wp_iln3, wp_inc1, wp_inc2, wp_inc3, wp_isn1, wp_isn2, wp_isn3, wp_nop, wp_ret, qmd_kd, qmd_k1, qmd_l1, qmd_gf0, qmd_k2, qmd_l2, qmd_gf1, qmd_k3, qmd_l3, qmd_gf2, qmd_k4, qmd_l4, qmd_gf4, qmd_k5, qmd_l5, qmd_gf6, qmd_k6, qmd_l6, qmd_gf7, qmd_k7, qmd_l7, qmd_gf10, qmd_k8, qmd_l8, qmd_gf11, qmd_k9, qmd_l9, qmd_gf12, qmd_gf3, qmd_pf3, qmd_gf5, qmd_pf5, qmd_gf8, qmd_pf8, qmd_gf9, qmd_pf9, wrI_row, cpI_row, row_s, row_n, row_ss, row_sw, upd_s, upd_n, ad_inj, ad_z, ad_z2, Nat.reduceEqDiff, reduceCtorEq, List.cons_append, List.nil_append, Option.toList_some, Option.toList_none, Int.toNat_natCast, List.length_cons, List.length_nil, Int.cast_ofNat_Int, Nat.reduceAdd, Nat.reduceLeDiff, Nat.reduceLT, Nat.reduceMul, Int.reduceAdd, Int.reduceSub, Int.reduceMul, Int.reduceNeg, Int.reduceLT, Int.reduceLE, Int.reduceEq, Int.reduceToNat, eq_self, true_and, and_true, true_or, or_true, false_or, or_false, if_true, if_false, not_true_eq_false, not_false_eq_true, and_self, ne_eq, b_M_layKinds_17, hM, f1]
    (repeat' (first | apply And.intro | split)) <;> first | omega | exact i1
  | succ d ih =>
    intro k f R hk hf hI
    have hsg : segV U (f : Int) = s := segF_at (V := U) (m := U 5 0) (fun j hj => (hU.2.2.2.2.2.1 j hj).2) hs (f := (f : Int)) (by omega) (by simp only [sumL]; omega) (U 5 0).toNat 0 (Nat.zero_le _) (by omega)
    have hkn : kndV U (f : Int) = U 6 s := by unfold kndV; rw [hsg]; rfl
    have i1 := ih (k + 1) (f + 1) (upd1 R f (U 6 s)) (by omega) (by omega) (fun j hj => by
      by_cases e : j = f
      · subst e
        rw [upd_s, hkn]
      · rw [upd_n e]
        exact hI j (by omega))
    rw [P_M_layKinds_17]
    simp only [m_M_layKinds, b_M_layKinds_0, P_M_layKinds_46, b_M_layKinds_46, P_M_layKinds_52, b_M_layKinds_52, wp_aln0, wp_bipush, wp_cv1, wp_cv2, wp_cv3, wp_cv4, wp_cv5, wp_cv6, wp_cv7, wp_goto, wp_iald, wp_iast, wp_icge, wp_iconst, wp_iln1, wp_iln2, wp_iln3, wp_inc1, wp_inc2, wp_inc3, wp_isn1, wp_isn2, wp_isn3, wp_nop, wp_ret, qmd_kd, qmd_k1, qmd_l1, qmd_gf0, qmd_k2, qmd_l2, qmd_gf1, qmd_k3, qmd_l3, qmd_gf2, qmd_k4, qmd_l4, qmd_gf4, qmd_k5, qmd_l5, qmd_gf6, qmd_k6, qmd_l6, qmd_gf7, qmd_k7, qmd_l7, qmd_gf10, qmd_k8, qmd_l8, qmd_gf11, qmd_k9, qmd_l9, qmd_gf12, qmd_gf3, qmd_pf3, qmd_gf5, qmd_pf5, qmd_gf8, qmd_pf8, qmd_gf9, qmd_pf9, wrI_row, cpI_row, row_s, row_n, row_ss, row_sw, upd_s, upd_n, ad_inj, ad_z, ad_z2, Nat.reduceEqDiff, reduceCtorEq, List.cons_append, List.nil_append, Option.toList_some, Option.toList_none, Int.toNat_natCast, List.length_cons, List.length_nil, Int.cast_ofNat_Int, Nat.reduceAdd, Nat.reduceLeDiff, Nat.reduceLT, Nat.reduceMul, Int.reduceAdd, Int.reduceSub, Int.reduceMul, Int.reduceNeg, Int.reduceLT, Int.reduceLE, Int.reduceEq, Int.reduceToNat, eq_self, true_and, and_true, true_or, or_true, false_or, or_false, if_true, if_false, not_true_eq_false, not_false_eq_true, and_self, ne_eq, b_M_layKinds_17, hM, f1, k1]
    (repeat' (first | apply And.intro | split)) <;> first | omega | exact i1
theorem layKinds_loop (hM : isMd ρ a) (hR : LR (-1) (vwM (g (ad a 1))) U) (hU : WFV (-1) U) {Q : Option AV → Sto → Prop} (hQ : ∀ R : Nat → Int, (∀ j : Nat, (j : Int) < U 8 0 → R j = kndV U j) → Q none (setRow g (ad a 9) R, ρ)) :
    ∀ (d s f : Nat) (R : Nat → Int) (o3 : Option AV), (s : Int) + d = U 5 0 → (f : Int) = sumL U s → (∀ j, j < f → R j = kndV U j) → Wp zt 137 (P 137 4) [some (AR a), some (AI f), some (AI s), o3] [] (setRow g (ad a 9) R, ρ) Q := by
  have b8 := hU.2.2.2.2.2.2.1
  have b5 := hU.2.2.2.2.1
  have e5 := m_5 hR
  have z : (ad a 1 = ad a 9) ↔ False := iff_false_intro (by unfold ad; omega)
  intro d
  induction d with
  | zero =>
    intro s f R o3 hs hf hI
    have hsu := hU.2.2.2.2.2.2.2.1
    rw [show (U 5 0).toNat = s by omega] at hsu
    have q := hQ R (fun j hj => hI j (by omega))
    rw [P_M_layKinds_4]
    simp only [m_M_layKinds, b_M_layKinds_0, P_M_layKinds_46, b_M_layKinds_46, P_M_layKinds_52, b_M_layKinds_52, wp_aln0, wp_bipush, wp_cv1, wp_cv2, wp_cv3, wp_cv4, wp_cv5, wp_cv6, wp_cv7, wp_goto, wp_iald, wp_iast, wp_icge, wp_iconst, wp_iln1, wp_iln2, wp_iln3, wp_inc1, wp_inc2, wp_inc3, wp_isn1, wp_isn2, wp_isn3, wp_nop, wp_ret, qmd_kd, qmd_k1, qmd_l1, qmd_gf0, qmd_k2, qmd_l2, qmd_gf1, qmd_k3, qmd_l3, qmd_gf2, qmd_k4, qmd_l4, qmd_gf4, qmd_k5, qmd_l5, qmd_gf6, qmd_k6, qmd_l6, qmd_gf7, qmd_k7, qmd_l7, qmd_gf10, qmd_k8, qmd_l8, qmd_gf11, qmd_k9, qmd_l9, qmd_gf12, qmd_gf3, qmd_pf3, qmd_gf5, qmd_pf5, qmd_gf8, qmd_pf8, qmd_gf9, qmd_pf9, wrI_row, cpI_row, row_s, row_n, row_ss, row_sw, upd_s, upd_n, ad_inj, ad_z, ad_z2, Nat.reduceEqDiff, reduceCtorEq, List.cons_append, List.nil_append, Option.toList_some, Option.toList_none, Int.toNat_natCast, List.length_cons, List.length_nil, Int.cast_ofNat_Int, Nat.reduceAdd, Nat.reduceLeDiff, Nat.reduceLT, Nat.reduceMul, Int.reduceAdd, Int.reduceSub, Int.reduceMul, Int.reduceNeg, Int.reduceLT, Int.reduceLE, Int.reduceEq, Int.reduceToNat, eq_self, true_and, and_true, true_or, or_true, false_or, or_false, if_true, if_false, not_true_eq_false, not_false_eq_true, and_self, ne_eq, b_M_layKinds_4, hM, e5, z]
    (repeat' (first | apply And.intro | split)) <;> first | omega | exact q
  | succ d ih =>
    intro s f R o3 hs hf hI
    have hs2 : (s : Int) < U 5 0 := by omega
    have bs := hU.2.2.2.2.2.1 s hs2
    have k1 := layKinds_inner (zt := zt) hM hR hU hs2 (Q := Q) (fun R2 f2 o q1 q2 => ih (s + 1) f2 R2 o (by omega) q1 q2) (U 7 s).toNat 0 f R (by omega) (by omega) hI
    rw [P_M_layKinds_4]
    simp only [m_M_layKinds, b_M_layKinds_0, P_M_layKinds_46, b_M_layKinds_46, P_M_layKinds_52, b_M_layKinds_52, wp_aln0, wp_bipush, wp_cv1, wp_cv2, wp_cv3, wp_cv4, wp_cv5, wp_cv6, wp_cv7, wp_goto, wp_iald, wp_iast, wp_icge, wp_iconst, wp_iln1, wp_iln2, wp_iln3, wp_inc1, wp_inc2, wp_inc3, wp_isn1, wp_isn2, wp_isn3, wp_nop, wp_ret, qmd_kd, qmd_k1, qmd_l1, qmd_gf0, qmd_k2, qmd_l2, qmd_gf1, qmd_k3, qmd_l3, qmd_gf2, qmd_k4, qmd_l4, qmd_gf4, qmd_k5, qmd_l5, qmd_gf6, qmd_k6, qmd_l6, qmd_gf7, qmd_k7, qmd_l7, qmd_gf10, qmd_k8, qmd_l8, qmd_gf11, qmd_k9, qmd_l9, qmd_gf12, qmd_gf3, qmd_pf3, qmd_gf5, qmd_pf5, qmd_gf8, qmd_pf8, qmd_gf9, qmd_pf9, wrI_row, cpI_row, row_s, row_n, row_ss, row_sw, upd_s, upd_n, ad_inj, ad_z, ad_z2, Nat.reduceEqDiff, reduceCtorEq, List.cons_append, List.nil_append, Option.toList_some, Option.toList_none, Int.toNat_natCast, List.length_cons, List.length_nil, Int.cast_ofNat_Int, Nat.reduceAdd, Nat.reduceLeDiff, Nat.reduceLT, Nat.reduceMul, Int.reduceAdd, Int.reduceSub, Int.reduceMul, Int.reduceNeg, Int.reduceLT, Int.reduceLE, Int.reduceEq, Int.reduceToNat, eq_self, true_and, and_true, true_or, or_true, false_or, or_false, if_true, if_false, not_true_eq_false, not_false_eq_true, and_self, ne_eq, b_M_layKinds_4, hM, e5, z]
    (repeat' (first | apply And.intro | split)) <;> first | omega | exact k1
theorem layKinds_ok (hM : isMd ρ a) (hR : LR (-1) (vwM (g (ad a 1))) U) (hU : WFV (-1) U) {Q : Option AV → Sto → Prop} (hQ : ∀ R : Nat → Int, (∀ j : Nat, (j : Int) < U 8 0 → R j = kndV U j) → Q none (setRow g (ad a 9) R, ρ)) : WpM zt 137 [AR a] (g, ρ) Q := by
  have b5 := hU.2.2.2.2.1
  have k1 := layKinds_loop (zt := zt) hM hR hU hQ (U 5 0).toNat 0 0 (g (ad a 9)) none (by omega) rfl (fun j hj => by omega)
  rw [row_id] at k1
  simp only [m_M_layKinds, b_M_layKinds_0, P_M_layKinds_46, b_M_layKinds_46, P_M_layKinds_52, b_M_layKinds_52, wp_aln0, wp_bipush, wp_cv1, wp_cv2, wp_cv3, wp_cv4, wp_cv5, wp_cv6, wp_cv7, wp_goto, wp_iald, wp_iast, wp_icge, wp_iconst, wp_iln1, wp_iln2, wp_iln3, wp_inc1, wp_inc2, wp_inc3, wp_isn1, wp_isn2, wp_isn3, wp_nop, wp_ret, qmd_kd, qmd_k1, qmd_l1, qmd_gf0, qmd_k2, qmd_l2, qmd_gf1, qmd_k3, qmd_l3, qmd_gf2, qmd_k4, qmd_l4, qmd_gf4, qmd_k5, qmd_l5, qmd_gf6, qmd_k6, qmd_l6, qmd_gf7, qmd_k7, qmd_l7, qmd_gf10, qmd_k8, qmd_l8, qmd_gf11, qmd_k9, qmd_l9, qmd_gf12, qmd_gf3, qmd_pf3, qmd_gf5, qmd_pf5, qmd_gf8, qmd_pf8, qmd_gf9, qmd_pf9, wrI_row, cpI_row, row_s, row_n, row_ss, row_sw, upd_s, upd_n, ad_inj, ad_z, ad_z2, Nat.reduceEqDiff, reduceCtorEq, List.cons_append, List.nil_append, Option.toList_some, Option.toList_none, Int.toNat_natCast, List.length_cons, List.length_nil, Int.cast_ofNat_Int, Nat.reduceAdd, Nat.reduceLeDiff, Nat.reduceLT, Nat.reduceMul, Int.reduceAdd, Int.reduceSub, Int.reduceMul, Int.reduceNeg, Int.reduceLT, Int.reduceLE, Int.reduceEq, Int.reduceToNat, eq_self, true_and, and_true, true_or, or_true, false_or, or_false, if_true, if_false, not_true_eq_false, not_false_eq_true, and_self, ne_eq, hM]
  exact k1
theorem manyOf_loop (hM : isMd ρ a) (hR : LR (-1) (vwM (g (ad a 1))) U) (hU : WFV (-1) U) {k : Nat} {row : Int} (hk : (k = 9 ∧ row = 119) ∨ (k = 10 ∧ row = 218)) {Q : Option AV → Sto → Prop} (hQ : Q (some (AI (cntS (-1) (U k) (U 8 0).toNat))) (g, ρ)) :
    ∀ (d f : Nat), (f : Int) + d = U 8 0 → Wp zt 143 (P 143 4) [some (AR a), some (AI row), some (AI (cntS (-1) (U k) f)), some (AI f)] [] (g, ρ) Q := by
  have b0 := hU.1
  have b8 := hU.2.2.2.2.2.2.1
  have fr := frames_ok (zt := zt) hM hR hU
  intro d
  induction d with
  | zero =>
    intro f hf
    rw [show (U 8 0).toNat = f by omega] at hQ
    rw [P_M_manyOf_4]
    simp only [m_M_manyOf, b_M_manyOf_0, P_M_manyOf_28, b_M_manyOf_28, P_M_manyOf_29, b_M_manyOf_29, P_M_manyOf_37, b_M_manyOf_37, wp_aln0, wp_cv1, wp_cv2, wp_cv3, wp_cv4, wp_cv5, wp_cv6, wp_cv7, wp_goto, wp_iadd, wp_iald, wp_icge, wp_iconst, wp_iln1, wp_iln2, wp_iln3, wp_inc3, wp_iret, wp_isn2, wp_isn3, wp_izge, wp_nop, wp_zret, qmd_kd, qmd_k1, qmd_l1, qmd_gf0, qmd_k2, qmd_l2, qmd_gf1, qmd_k3, qmd_l3, qmd_gf2, qmd_k4, qmd_l4, qmd_gf4, qmd_k5, qmd_l5, qmd_gf6, qmd_k6, qmd_l6, qmd_gf7, qmd_k7, qmd_l7, qmd_gf10, qmd_k8, qmd_l8, qmd_gf11, qmd_k9, qmd_l9, qmd_gf12, qmd_gf3, qmd_pf3, qmd_gf5, qmd_pf5, qmd_gf8, qmd_pf8, qmd_gf9, qmd_pf9, wrI_row, cpI_row, row_s, row_n, row_ss, row_sw, upd_s, upd_n, ad_inj, ad_z, ad_z2, Nat.reduceEqDiff, reduceCtorEq, List.cons_append, List.nil_append, Option.toList_some, Option.toList_none, Int.toNat_natCast, List.length_cons, List.length_nil, Int.cast_ofNat_Int, Nat.reduceAdd, Nat.reduceLeDiff, Nat.reduceLT, Nat.reduceMul, Int.reduceAdd, Int.reduceSub, Int.reduceMul, Int.reduceNeg, Int.reduceLT, Int.reduceLE, Int.reduceEq, Int.reduceToNat, eq_self, true_and, and_true, true_or, or_true, false_or, or_false, if_true, if_false, not_true_eq_false, not_false_eq_true, and_self, ne_eq, b_M_manyOf_4, hM, fr]
    (repeat' (first | apply And.intro | split)) <;> first | omega | exact hQ
  | succ d ih =>
    intro f hf
    have i1 := ih (f + 1) (by omega)
    have rd := p_9 hR hU (j := f) (by omega)
    have bd := hU.2.2.2.2.2.2.2.2 f (by omega)
    obtain ⟨p, hp, hpl, rk, bk⟩ : ∃ p : Nat, (row + (f : Int)).toNat = p ∧ p < 953 ∧ g (ad a 1) p = U k f ∧ (U k f = -1 ∨ (0 ≤ U k f ∧ U k f < U 0 0)) := by
      rcases hk with ⟨rfl, rfl⟩ | ⟨rfl, rfl⟩
      · exact ⟨119 + f, by omega, by omega, rd.1, bd.1⟩
      · exact ⟨218 + f, by omega, by omega, rd.2, bd.2⟩
    have hrow : row = 119 ∨ row = 218 := hk.elim (fun z => Or.inl z.2) (fun z => Or.inr z.2)
    clear hk
    simp only [cntS] at i1
    by_cases c : U k f = -1
    · rw [if_pos c] at i1
      have z0 : ∀ t : Int, t + 0 = t := fun t => by omega
      rw [P_M_manyOf_4]
      simp only [m_M_manyOf, b_M_manyOf_0, P_M_manyOf_28, b_M_manyOf_28, P_M_manyOf_29, b_M_manyOf_29, P_M_manyOf_37, b_M_manyOf_37, wp_aln0, wp_cv1, wp_cv2, wp_cv3, wp_cv4, wp_cv5, wp_cv6, wp_cv7, wp_goto, wp_iadd, wp_iald, wp_icge, wp_iconst, wp_iln1, wp_iln2, wp_iln3, wp_inc3, wp_iret, wp_isn2, wp_isn3, wp_izge, wp_nop, wp_zret, qmd_kd, qmd_k1, qmd_l1, qmd_gf0, qmd_k2, qmd_l2, qmd_gf1, qmd_k3, qmd_l3, qmd_gf2, qmd_k4, qmd_l4, qmd_gf4, qmd_k5, qmd_l5, qmd_gf6, qmd_k6, qmd_l6, qmd_gf7, qmd_k7, qmd_l7, qmd_gf10, qmd_k8, qmd_l8, qmd_gf11, qmd_k9, qmd_l9, qmd_gf12, qmd_gf3, qmd_pf3, qmd_gf5, qmd_pf5, qmd_gf8, qmd_pf8, qmd_gf9, qmd_pf9, wrI_row, cpI_row, row_s, row_n, row_ss, row_sw, upd_s, upd_n, ad_inj, ad_z, ad_z2, Nat.reduceEqDiff, reduceCtorEq, List.cons_append, List.nil_append, Option.toList_some, Option.toList_none, Int.toNat_natCast, List.length_cons, List.length_nil, Int.cast_ofNat_Int, Nat.reduceAdd, Nat.reduceLeDiff, Nat.reduceLT, Nat.reduceMul, Int.reduceAdd, Int.reduceSub, Int.reduceMul, Int.reduceNeg, Int.reduceLT, Int.reduceLE, Int.reduceEq, Int.reduceToNat, eq_self, true_and, and_true, true_or, or_true, false_or, or_false, if_true, if_false, not_true_eq_false, not_false_eq_true, and_self, ne_eq, b_M_manyOf_4, hM, fr, hp, rk, c, z0]
      (repeat' (first | apply And.intro | split)) <;> first | omega | exact i1
    · rw [if_neg c] at i1
      rw [P_M_manyOf_4]
      simp only [m_M_manyOf, b_M_manyOf_0, P_M_manyOf_28, b_M_manyOf_28, P_M_manyOf_29, b_M_manyOf_29, P_M_manyOf_37, b_M_manyOf_37, wp_aln0, wp_cv1, wp_cv2, wp_cv3, wp_cv4, wp_cv5, wp_cv6, wp_cv7, wp_goto, wp_iadd, wp_iald, wp_icge, wp_iconst, wp_iln1, wp_iln2, wp_iln3, wp_inc3, wp_iret, wp_isn2, wp_isn3, wp_izge, wp_nop, wp_zret, qmd_kd, qmd_k1, qmd_l1, qmd_gf0, qmd_k2, qmd_l2, qmd_gf1, qmd_k3, qmd_l3, qmd_gf2, qmd_k4, qmd_l4, qmd_gf4, qmd_k5, qmd_l5, qmd_gf6, qmd_k6, qmd_l6, qmd_gf7, qmd_k7, qmd_l7, qmd_gf10, qmd_k8, qmd_l8, qmd_gf11, qmd_k9, qmd_l9, qmd_gf12, qmd_gf3, qmd_pf3, qmd_gf5, qmd_pf5, qmd_gf8, qmd_pf8, qmd_gf9, qmd_pf9, wrI_row, cpI_row, row_s, row_n, row_ss, row_sw, upd_s, upd_n, ad_inj, ad_z, ad_z2, Nat.reduceEqDiff, reduceCtorEq, List.cons_append, List.nil_append, Option.toList_some, Option.toList_none, Int.toNat_natCast, List.length_cons, List.length_nil, Int.cast_ofNat_Int, Nat.reduceAdd, Nat.reduceLeDiff, Nat.reduceLT, Nat.reduceMul, Int.reduceAdd, Int.reduceSub, Int.reduceMul, Int.reduceNeg, Int.reduceLT, Int.reduceLE, Int.reduceEq, Int.reduceToNat, eq_self, true_and, and_true, true_or, or_true, false_or, or_false, if_true, if_false, not_true_eq_false, not_false_eq_true, and_self, ne_eq, b_M_manyOf_4, hM, fr, hp, rk]
      (repeat' (first | apply And.intro | split)) <;> first | omega | exact i1
theorem manyOf_ok (hM : isMd ρ a) (hR : LR (-1) (vwM (g (ad a 1))) U) (hU : WFV (-1) U) {k : Nat} {row : Int} (hk : (k = 9 ∧ row = 119) ∨ (k = 10 ∧ row = 218)) (Q : Option AV → Sto → Prop) : WpM zt 143 [AR a, AI row] (g, ρ) Q ↔ Q (some (AI (cntS (-1) (U k) (U 8 0).toNat))) (g, ρ) := by
  refine wpm_iff (fun Q hQ => ?_) Q
  have b8 := hU.2.2.2.2.2.2.1
  have k1 := manyOf_loop (zt := zt) hM hR hU hk hQ (U 8 0).toNat 0 (by omega)
  simp only [m_M_manyOf, b_M_manyOf_0, P_M_manyOf_28, b_M_manyOf_28, P_M_manyOf_29, b_M_manyOf_29, P_M_manyOf_37, b_M_manyOf_37, wp_aln0, wp_cv1, wp_cv2, wp_cv3, wp_cv4, wp_cv5, wp_cv6, wp_cv7, wp_goto, wp_iadd, wp_iald, wp_icge, wp_iconst, wp_iln1, wp_iln2, wp_iln3, wp_inc3, wp_iret, wp_isn2, wp_isn3, wp_izge, wp_nop, wp_zret, qmd_kd, qmd_k1, qmd_l1, qmd_gf0, qmd_k2, qmd_l2, qmd_gf1, qmd_k3, qmd_l3, qmd_gf2, qmd_k4, qmd_l4, qmd_gf4, qmd_k5, qmd_l5, qmd_gf6, qmd_k6, qmd_l6, qmd_gf7, qmd_k7, qmd_l7, qmd_gf10, qmd_k8, qmd_l8, qmd_gf11, qmd_k9, qmd_l9, qmd_gf12, qmd_gf3, qmd_pf3, qmd_gf5, qmd_pf5, qmd_gf8, qmd_pf8, qmd_gf9, qmd_pf9, wrI_row, cpI_row, row_s, row_n, row_ss, row_sw, upd_s, upd_n, ad_inj, ad_z, ad_z2, Nat.reduceEqDiff, reduceCtorEq, List.cons_append, List.nil_append, Option.toList_some, Option.toList_none, Int.toNat_natCast, List.length_cons, List.length_nil, Int.cast_ofNat_Int, Nat.reduceAdd, Nat.reduceLeDiff, Nat.reduceLT, Nat.reduceMul, Int.reduceAdd, Int.reduceSub, Int.reduceMul, Int.reduceNeg, Int.reduceLT, Int.reduceLE, Int.reduceEq, Int.reduceToNat, eq_self, true_and, and_true, true_or, or_true, false_or, or_false, if_true, if_false, not_true_eq_false, not_false_eq_true, and_self, ne_eq, hM]
  exact k1
end MFL
section MFC
variable {zt : Nat → Nat} {g : Nat → Nat → Int} {ρ : Ri} {M : Nat} {X : XV} {Q : Option AV → Sto → Prop}
theorem d_fault (hX : RepM g ρ M X) (hW : WFX X) {w : Int} (hw : i32 w) (hQ : MdQ g ρ M (sFault w X, X) Q) : WpM zt 159 [AR M, AI w] (g, ρ) Q := by
  obtain ⟨hM, hS, -⟩ := id hX
  have hR := hS.1
  have hU := hW.1.1
  have e0 := m_0 hR
  have e5 := m_5 hR
  have b0 := hU.1
  have b5 := hU.2.2.2.2.1
  have b8 := hU.2.2.2.2.2.2.1
  have q := hQ.ro hX
  unfold sFault at q
  by_cases c : 0 ≤ w ∧ w ≤ 1
  · rw [if_pos c] at q
    have ho := fun Q => in_t (zt := zt) (g := g) (ρ := ρ) (lo := 0) (hi := 1) (by omega) (by omega) c Q
    have k1 := fault_loopM (zt := zt) hM hR hU c q (X.1.1 8 0).toNat 0 none (by omega) (fun z => by omega) rfl
    simp only [m_M_fault, b_M_fault_0, P_M_fault_11, b_M_fault_11, P_M_fault_39, b_M_fault_39, P_M_fault_40, b_M_fault_40, P_M_fault_41, b_M_fault_41, P_M_fault_47, b_M_fault_47, wp_abs, wp_aln0, wp_bipush, wp_copy, wp_cs1, wp_cs2, wp_cs3, wp_cs4, wp_cs5, wp_cs6, wp_cs7, wp_cv1, wp_cv2, wp_cv3, wp_cv4, wp_cv5, wp_cv6, wp_cv7, wp_goto, wp_icge, wp_iconst, wp_iln1, wp_iln2, wp_iln3, wp_inc2, wp_iret, wp_isn2, wp_isn3, wp_izle, wp_izne, wp_max, wp_min, wp_nop, wp_zret, qmd_kd, qmd_k1, qmd_l1, qmd_gf0, qmd_k2, qmd_l2, qmd_gf1, qmd_k3, qmd_l3, qmd_gf2, qmd_k4, qmd_l4, qmd_gf4, qmd_k5, qmd_l5, qmd_gf6, qmd_k6, qmd_l6, qmd_gf7, qmd_k7, qmd_l7, qmd_gf10, qmd_k8, qmd_l8, qmd_gf11, qmd_k9, qmd_l9, qmd_gf12, qmd_gf3, qmd_pf3, qmd_gf5, qmd_pf5, qmd_gf8, qmd_pf8, qmd_gf9, qmd_pf9, wrI_row, cpI_row, row_s, row_n, row_ss, row_sw, upd_s, upd_n, ad_inj, ad_z, ad_z2, Nat.reduceEqDiff, reduceCtorEq, List.cons_append, List.nil_append, Option.toList_some, Option.toList_none, Int.toNat_natCast, List.length_cons, List.length_nil, Int.cast_ofNat_Int, Nat.reduceAdd, Nat.reduceLeDiff, Nat.reduceLT, Nat.reduceMul, Int.reduceAdd, Int.reduceSub, Int.reduceMul, Int.reduceNeg, Int.reduceLT, Int.reduceLE, Int.reduceEq, Int.reduceToNat, eq_self, true_and, and_true, true_or, or_true, false_or, or_false, if_true, if_false, not_true_eq_false, not_false_eq_true, and_self, ne_eq, hM, ho]
    exact k1
  · rw [if_neg c] at q
    have ho := fun Q => in_f (zt := zt) (g := g) (ρ := ρ) (lo := 0) (hi := 1) hw (by omega) (by omega) c Q
    simp only [m_M_fault, b_M_fault_0, P_M_fault_11, b_M_fault_11, P_M_fault_39, b_M_fault_39, P_M_fault_40, b_M_fault_40, P_M_fault_41, b_M_fault_41, P_M_fault_47, b_M_fault_47, wp_abs, wp_aln0, wp_bipush, wp_copy, wp_cs1, wp_cs2, wp_cs3, wp_cs4, wp_cs5, wp_cs6, wp_cs7, wp_cv1, wp_cv2, wp_cv3, wp_cv4, wp_cv5, wp_cv6, wp_cv7, wp_goto, wp_icge, wp_iconst, wp_iln1, wp_iln2, wp_iln3, wp_inc2, wp_iret, wp_isn2, wp_isn3, wp_izle, wp_izne, wp_max, wp_min, wp_nop, wp_zret, qmd_kd, qmd_k1, qmd_l1, qmd_gf0, qmd_k2, qmd_l2, qmd_gf1, qmd_k3, qmd_l3, qmd_gf2, qmd_k4, qmd_l4, qmd_gf4, qmd_k5, qmd_l5, qmd_gf6, qmd_k6, qmd_l6, qmd_gf7, qmd_k7, qmd_l7, qmd_gf10, qmd_k8, qmd_l8, qmd_gf11, qmd_k9, qmd_l9, qmd_gf12, qmd_gf3, qmd_pf3, qmd_gf5, qmd_pf5, qmd_gf8, qmd_pf8, qmd_gf9, qmd_pf9, wrI_row, cpI_row, row_s, row_n, row_ss, row_sw, upd_s, upd_n, ad_inj, ad_z, ad_z2, Nat.reduceEqDiff, reduceCtorEq, List.cons_append, List.nil_append, Option.toList_some, Option.toList_none, Int.toNat_natCast, List.length_cons, List.length_nil, Int.cast_ofNat_Int, Nat.reduceAdd, Nat.reduceLeDiff, Nat.reduceLT, Nat.reduceMul, Int.reduceAdd, Int.reduceSub, Int.reduceMul, Int.reduceNeg, Int.reduceLT, Int.reduceLE, Int.reduceEq, Int.reduceToNat, eq_self, true_and, and_true, true_or, or_true, false_or, or_false, if_true, if_false, not_true_eq_false, not_false_eq_true, and_self, ne_eq, hM, ho]
    (repeat' (first | apply And.intro | split)) <;> first | omega | exact q
theorem drawnSum_loopM (hM : isMd ρ M) {U : Vw} (hR : LR (-1) (vwM (g (ad M 1))) U) (hU : WFV (-1) U) (hK : ∀ j : Nat, (j : Int) < U 8 0 → g (ad M 9) j = kndV U j) {v : Int} (hQ : Q (some (AI v)) (g, ρ)) :
    ∀ (d f : Nat) (t : Int), (f : Int) + d = U 8 0 → 0 ≤ t ∧ t ≤ 1000 * f → drF U d f t = v → Wp zt 160 (P 160 8) [some (AR M), some (AI t), some (AI f)] [] (g, ρ) Q := by
  have b0 := hU.1
  have b8 := hU.2.2.2.2.2.2.1
  have fr := frames_ok (zt := zt) hM hR hU
  intro d
  induction d with
  | zero =>
    intro f t hf ht hs
    rw [← hs] at hQ
    rw [P_M_drawnSum_8]
    simp only [m_M_drawnSum, b_M_drawnSum_0, P_M_drawnSum_32, b_M_drawnSum_32, P_M_drawnSum_61, b_M_drawnSum_61, wp_aln0, wp_bipush, wp_cv1, wp_cv2, wp_cv3, wp_cv4, wp_cv5, wp_cv6, wp_cv7, wp_goto, wp_iadd, wp_iald, wp_icge, wp_iconst, wp_iln1, wp_iln2, wp_inc2, wp_iret, wp_isn1, wp_isn2, wp_izge, wp_nop, wp_sipush, wp_zret, qmd_kd, qmd_k1, qmd_l1, qmd_gf0, qmd_k2, qmd_l2, qmd_gf1, qmd_k3, qmd_l3, qmd_gf2, qmd_k4, qmd_l4, qmd_gf4, qmd_k5, qmd_l5, qmd_gf6, qmd_k6, qmd_l6, qmd_gf7, qmd_k7, qmd_l7, qmd_gf10, qmd_k8, qmd_l8, qmd_gf11, qmd_k9, qmd_l9, qmd_gf12, qmd_gf3, qmd_pf3, qmd_gf5, qmd_pf5, qmd_gf8, qmd_pf8, qmd_gf9, qmd_pf9, wrI_row, cpI_row, row_s, row_n, row_ss, row_sw, upd_s, upd_n, ad_inj, ad_z, ad_z2, Nat.reduceEqDiff, reduceCtorEq, List.cons_append, List.nil_append, Option.toList_some, Option.toList_none, Int.toNat_natCast, List.length_cons, List.length_nil, Int.cast_ofNat_Int, Nat.reduceAdd, Nat.reduceLeDiff, Nat.reduceLT, Nat.reduceMul, Int.reduceAdd, Int.reduceSub, Int.reduceMul, Int.reduceNeg, Int.reduceLT, Int.reduceLE, Int.reduceEq, Int.reduceToNat, eq_self, true_and, and_true, true_or, or_true, false_or, or_false, if_true, if_false, not_true_eq_false, not_false_eq_true, and_self, ne_eq, b_M_drawnSum_8, hM, fr]
    (repeat' (first | apply And.intro | split)) <;> first | omega | exact hQ
  | succ d ih =>
    intro f t hf ht hs
    simp only [drF] at hs
    have rd := (p_9 hR hU (j := f) (by omega)).2
    have bd := (hU.2.2.2.2.2.2.2.2 f (by omega)).2
    have ei : (218 + (f : Int)).toNat = 218 + f := by omega
    by_cases e : U 10 f = -1
    · rw [if_pos e] at hs
      rw [← hs] at hQ
      rw [P_M_drawnSum_8]
      simp only [m_M_drawnSum, b_M_drawnSum_0, P_M_drawnSum_32, b_M_drawnSum_32, P_M_drawnSum_61, b_M_drawnSum_61, wp_aln0, wp_bipush, wp_cv1, wp_cv2, wp_cv3, wp_cv4, wp_cv5, wp_cv6, wp_cv7, wp_goto, wp_iadd, wp_iald, wp_icge, wp_iconst, wp_iln1, wp_iln2, wp_inc2, wp_iret, wp_isn1, wp_isn2, wp_izge, wp_nop, wp_sipush, wp_zret, qmd_kd, qmd_k1, qmd_l1, qmd_gf0, qmd_k2, qmd_l2, qmd_gf1, qmd_k3, qmd_l3, qmd_gf2, qmd_k4, qmd_l4, qmd_gf4, qmd_k5, qmd_l5, qmd_gf6, qmd_k6, qmd_l6, qmd_gf7, qmd_k7, qmd_l7, qmd_gf10, qmd_k8, qmd_l8, qmd_gf11, qmd_k9, qmd_l9, qmd_gf12, qmd_gf3, qmd_pf3, qmd_gf5, qmd_pf5, qmd_gf8, qmd_pf8, qmd_gf9, qmd_pf9, wrI_row, cpI_row, row_s, row_n, row_ss, row_sw, upd_s, upd_n, ad_inj, ad_z, ad_z2, Nat.reduceEqDiff, reduceCtorEq, List.cons_append, List.nil_append, Option.toList_some, Option.toList_none, Int.toNat_natCast, List.length_cons, List.length_nil, Int.cast_ofNat_Int, Nat.reduceAdd, Nat.reduceLeDiff, Nat.reduceLT, Nat.reduceMul, Int.reduceAdd, Int.reduceSub, Int.reduceMul, Int.reduceNeg, Int.reduceLT, Int.reduceLE, Int.reduceEq, Int.reduceToNat, eq_self, true_and, and_true, true_or, or_true, false_or, or_false, if_true, if_false, not_true_eq_false, not_false_eq_true, and_self, ne_eq, b_M_drawnSum_8, hM, fr, ei, rd, e]
      (repeat' (first | apply And.intro | split)) <;> first | omega | exact hQ
    · rw [if_neg e] at hs
      have hkb := kndV_lt hU (f := f) (by omega)
      have hk := hK f (by omega)
      have wb := wrongBy_ok (zt := zt) hM hR hU hkb.1 hkb.2 (m := U 10 f) (by omega) (by omega)
      have wbb := wrgU_b hU hkb.1 hkb.2 (m := (U 10 f).toNat) (by omega)
      have i1 := ih (f + 1) (t + wrgV U (kndV U f) (U 10 f).toNat) (by omega) (by omega) hs
      rw [P_M_drawnSum_8]
      simp only [m_M_drawnSum, b_M_drawnSum_0, P_M_drawnSum_32, b_M_drawnSum_32, P_M_drawnSum_61, b_M_drawnSum_61, wp_aln0, wp_bipush, wp_cv1, wp_cv2, wp_cv3, wp_cv4, wp_cv5, wp_cv6, wp_cv7, wp_goto, wp_iadd, wp_iald, wp_icge, wp_iconst, wp_iln1, wp_iln2, wp_inc2, wp_iret, wp_isn1, wp_isn2, wp_izge, wp_nop, wp_sipush, wp_zret, qmd_kd, qmd_k1, qmd_l1, qmd_gf0, qmd_k2, qmd_l2, qmd_gf1, qmd_k3, qmd_l3, qmd_gf2, qmd_k4, qmd_l4, qmd_gf4, qmd_k5, qmd_l5, qmd_gf6, qmd_k6, qmd_l6, qmd_gf7, qmd_k7, qmd_l7, qmd_gf10, qmd_k8, qmd_l8, qmd_gf11, qmd_k9, qmd_l9, qmd_gf12, qmd_gf3, qmd_pf3, qmd_gf5, qmd_pf5, qmd_gf8, qmd_pf8, qmd_gf9, qmd_pf9, wrI_row, cpI_row, row_s, row_n, row_ss, row_sw, upd_s, upd_n, ad_inj, ad_z, ad_z2, Nat.reduceEqDiff, reduceCtorEq, List.cons_append, List.nil_append, Option.toList_some, Option.toList_none, Int.toNat_natCast, List.length_cons, List.length_nil, Int.cast_ofNat_Int, Nat.reduceAdd, Nat.reduceLeDiff, Nat.reduceLT, Nat.reduceMul, Int.reduceAdd, Int.reduceSub, Int.reduceMul, Int.reduceNeg, Int.reduceLT, Int.reduceLE, Int.reduceEq, Int.reduceToNat, eq_self, true_and, and_true, true_or, or_true, false_or, or_false, if_true, if_false, not_true_eq_false, not_false_eq_true, and_self, ne_eq, b_M_drawnSum_8, hM, fr, ei, rd, hk, wb]
      (repeat' (first | apply And.intro | split)) <;> first | omega | exact i1
theorem d_drawnSum (hX : RepM g ρ M X) (hW : WFX X) (hQ : MdQ g ρ M (sDrawnSum X, X) Q) : WpM zt 160 [AR M] (g, ρ) Q := by
  obtain ⟨hM, hS, -⟩ := id hX
  have hR := hS.1
  have hU := hW.1.1
  have e0 := m_0 hR
  have e5 := m_5 hR
  have b0 := hU.1
  have b5 := hU.2.2.2.2.1
  have b8 := hU.2.2.2.2.2.2.1
  simp only [m_M_drawnSum, b_M_drawnSum_0, P_M_drawnSum_32, b_M_drawnSum_32, P_M_drawnSum_61, b_M_drawnSum_61, wp_aln0, wp_bipush, wp_cv1, wp_cv2, wp_cv3, wp_cv4, wp_cv5, wp_cv6, wp_cv7, wp_goto, wp_iadd, wp_iald, wp_icge, wp_iconst, wp_iln1, wp_iln2, wp_inc2, wp_iret, wp_isn1, wp_isn2, wp_izge, wp_nop, wp_sipush, wp_zret, qmd_kd, qmd_k1, qmd_l1, qmd_gf0, qmd_k2, qmd_l2, qmd_gf1, qmd_k3, qmd_l3, qmd_gf2, qmd_k4, qmd_l4, qmd_gf4, qmd_k5, qmd_l5, qmd_gf6, qmd_k6, qmd_l6, qmd_gf7, qmd_k7, qmd_l7, qmd_gf10, qmd_k8, qmd_l8, qmd_gf11, qmd_k9, qmd_l9, qmd_gf12, qmd_gf3, qmd_pf3, qmd_gf5, qmd_pf5, qmd_gf8, qmd_pf8, qmd_gf9, qmd_pf9, wrI_row, cpI_row, row_s, row_n, row_ss, row_sw, upd_s, upd_n, ad_inj, ad_z, ad_z2, Nat.reduceEqDiff, reduceCtorEq, List.cons_append, List.nil_append, Option.toList_some, Option.toList_none, Int.toNat_natCast, List.length_cons, List.length_nil, Int.cast_ofNat_Int, Nat.reduceAdd, Nat.reduceLeDiff, Nat.reduceLT, Nat.reduceMul, Int.reduceAdd, Int.reduceSub, Int.reduceMul, Int.reduceNeg, Int.reduceLT, Int.reduceLE, Int.reduceEq, Int.reduceToNat, eq_self, true_and, and_true, true_or, or_true, false_or, or_false, if_true, if_false, not_true_eq_false, not_false_eq_true, and_self, ne_eq, hM]
  refine layKinds_ok hM hR hU (fun R hK => ?_)
  have q := hQ (setRow g (ad M 9) R) (hX.kept (row_n (by unfold ad; omega)) (row_n (by unfold ad; omega)) (row_n (by unfold ad; omega)) (by rw [row_n (by unfold ad; omega)]) (by rw [row_n (by unfold ad; omega)])) (fun x z => row_n (by unfold ad at *; omega))
  have k1 := drawnSum_loopM (zt := zt) (g := setRow g (ad M 9) R) hM (by rw [row_n (by unfold ad; omega)]; exact hR) hU (by rw [row_s]; exact hK) q (X.1.1 8 0).toNat 0 0 (by omega) (by omega) rfl
  simp only [m_M_drawnSum, b_M_drawnSum_0, P_M_drawnSum_32, b_M_drawnSum_32, P_M_drawnSum_61, b_M_drawnSum_61, wp_aln0, wp_bipush, wp_cv1, wp_cv2, wp_cv3, wp_cv4, wp_cv5, wp_cv6, wp_cv7, wp_goto, wp_iadd, wp_iald, wp_icge, wp_iconst, wp_iln1, wp_iln2, wp_inc2, wp_iret, wp_isn1, wp_isn2, wp_izge, wp_nop, wp_sipush, wp_zret, qmd_kd, qmd_k1, qmd_l1, qmd_gf0, qmd_k2, qmd_l2, qmd_gf1, qmd_k3, qmd_l3, qmd_gf2, qmd_k4, qmd_l4, qmd_gf4, qmd_k5, qmd_l5, qmd_gf6, qmd_k6, qmd_l6, qmd_gf7, qmd_k7, qmd_l7, qmd_gf10, qmd_k8, qmd_l8, qmd_gf11, qmd_k9, qmd_l9, qmd_gf12, qmd_gf3, qmd_pf3, qmd_gf5, qmd_pf5, qmd_gf8, qmd_pf8, qmd_gf9, qmd_pf9, wrI_row, cpI_row, row_s, row_n, row_ss, row_sw, upd_s, upd_n, ad_inj, ad_z, ad_z2, Nat.reduceEqDiff, reduceCtorEq, List.cons_append, List.nil_append, Option.toList_some, Option.toList_none, Int.toNat_natCast, List.length_cons, List.length_nil, Int.cast_ofNat_Int, Nat.reduceAdd, Nat.reduceLeDiff, Nat.reduceLT, Nat.reduceMul, Int.reduceAdd, Int.reduceSub, Int.reduceMul, Int.reduceNeg, Int.reduceLT, Int.reduceLE, Int.reduceEq, Int.reduceToNat, eq_self, true_and, and_true, true_or, or_true, false_or, or_false, if_true, if_false, not_true_eq_false, not_false_eq_true, and_self, ne_eq, hM]
  exact k1
end MFC
