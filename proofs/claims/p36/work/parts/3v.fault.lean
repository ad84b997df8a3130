/-! fault, why -/
/-- the reason of a fault in a frame whose run ahead has the length run -/
def fltV (U : Vw) (f : Nat) (run : Int) : Int := if U 10 f = -1 then 1 else if U 9 f ≠ -1 ∧ U 9 f ≠ U 10 f then 2 else if f = 0 then 0 else if U 4 0 < jmpV U (U 10 (f - 1)).toNat (U 10 f).toNat then 3 else if U 10 (f - 1) ≠ U 10 f ∧ run < U 4 1 then 4 else 0
/-- the length of the run of what is drawn that ends ahead of a frame -/
def runV (U : Vw) : Nat → Int
  | 0 => 0
  | f + 1 => if 0 < f ∧ U 10 f = U 10 (f - 1) then runV U f + 1 else 1
theorem runV_b (U : Vw) : ∀ f : Nat, 0 ≤ runV U f ∧ runV U f ≤ f
  | 0 => ⟨Int.le_refl _, Int.le_refl _⟩
  | f + 1 => by
    have h := runV_b U f
    simp only [runV]
    split <;> omega
def flF (U : Vw) (w : Int) : Nat → Nat → Int
  | 0, _ => -99
  | d + 1, f => if fltV U f (runV U f) = 0 then flF U w d (f + 1) else if w = 0 then (f : Int) else fltV U f (runV U f)
def sFault (w : Int) (X : XV) : Int := if 0 ≤ w ∧ w ≤ 1 then flF X.1.1 w (X.1.1 8 0).toNat 0 else -1
theorem fltV_b (U : Vw) (f : Nat) (r : Int) : 0 ≤ fltV U f r ∧ fltV U f r ≤ 4 := by
  unfold fltV
  repeat' split
  all_goals omega
theorem fltV_0 {U : Vw} {f : Nat} {r : Int} (h : fltV U f r = 0) : U 10 f ≠ -1 := by
  intro q
  unfold fltV at h
  rw [if_pos q] at h
  omega
section FLT
variable {zt : Nat → Nat} {g : Nat → Nat → Int} {ρ : Ri} {a : Nat} {U : Vw}
theorem faultAt_ok (hS : isSc ρ a) (hR : LR (-99) (vwC g a) U) (hU : WFV (-1) U) {f : Nat} (hf : (f : Int) < U 8 0) (hp : 0 < f → U 10 (f - 1) ≠ -1) {r : Int} (hr : 0 ≤ r ∧ r ≤ 99) (Q : Option AV → Sto → Prop) : WpM zt 84 [AR a, AI f, AI r] (g, ρ) Q ↔ Q (some (AI (fltV U f r))) (g, ρ) := by
  refine wpm_iff (fun Q hQ => ?_) Q
  have hWV := hR.wf (by omega) hU
  have e0 : g a 0 = U 0 0 := hR.l0
  have b0 := hU.1
  have b4 := hU.2.2.2.1
  have b8 := hU.2.2.2.2.2.2.1
  have b9 := hU.2.2.2.2.2.2.2.2 f hf
  have r9 : g (ad a 7) f = nn (-99) (U 9 f) := hR.l9 hf
  have r10 : g (ad a 8) f = nn (-99) (U 10 f) := hR.l10 hf
  have n0 : g (ad a 4) 0 = U 4 0 := hR.l4 (by omega)
  have n1 : g (ad a 4) 1 = U 4 1 := hR.l4 (by omega)
  unfold fltV at hQ
  by_cases c1 : U 10 f = -1
  · rw [if_pos c1] at hQ
    rw [show nn (-99) (U 10 f) = -99 from if_pos c1] at r10
    have hm := hasMouth_ok (zt := zt) (ρ := ρ) hS hWV (m := -99) (by omega) (by omega)
    rw [b2_f (by omega)] at hm
    simp only [m_L_faultAt, b_L_faultAt_0, P_L_faultAt_17, b_L_faultAt_17, P_L_faultAt_40, b_L_faultAt_40, P_L_faultAt_46, b_L_faultAt_46, P_L_faultAt_74, b_L_faultAt_74, P_L_faultAt_94, b_L_faultAt_94, P_L_faultAt_95, b_L_faultAt_95, wp_aln0, wp_bipush, wp_cv1, wp_cv2, wp_cv3, wp_cv4, wp_cv5, wp_cv6, wp_cv7, wp_goto, wp_iald, wp_iceq, wp_icge, wp_icle, wp_iconst, wp_il4, wp_iln1, wp_iln2, wp_iln3, wp_iret, wp_is4, wp_isn3, wp_isub, wp_izne, wp_nop, wp_zret, qsc_kd, qsc_k1, qsc_l1, qsc_gf1, qsc_k2, qsc_l2, qsc_gf2, qsc_k3, qsc_l3, qsc_gf3, qsc_k4, qsc_l4, qsc_gf4, qsc_k5, qsc_l5, qsc_gf6, qsc_k6, qsc_l6, qsc_gf7, qsc_k7, qsc_l7, qsc_gf9, qsc_k8, qsc_l8, qsc_gf10, qsc_gf0, qsc_pf0, qsc_gf5, qsc_pf5, qsc_gf8, qsc_pf8, wrI_row, cpI_row, row_s, row_n, row_ss, row_sw, upd_s, upd_n, ad_inj, ad_z, ad_z2, Nat.reduceEqDiff, reduceCtorEq, List.cons_append, List.nil_append, Option.toList_some, Option.toList_none, Int.toNat_natCast, List.length_cons, List.length_nil, Int.cast_ofNat_Int, Nat.reduceAdd, Nat.reduceLeDiff, Nat.reduceLT, Nat.reduceMul, Int.reduceAdd, Int.reduceSub, Int.reduceMul, Int.reduceNeg, Int.reduceLT, Int.reduceLE, Int.reduceEq, Int.reduceToNat, eq_self, true_and, and_true, true_or, or_true, false_or, or_false, if_true, if_false, not_true_eq_false, not_false_eq_true, and_self, ne_eq, hS, r10, hm]
    (repeat' (first | apply And.intro | split)) <;> first | omega | exact hQ
  · rw [if_neg c1] at hQ
    rw [show nn (-99) (U 10 f) = U 10 f from if_neg c1] at r10
    have hm := hasMouth_ok (zt := zt) (ρ := ρ) hS hWV (m := U 10 f) (by omega) (by omega)
    rw [e0, b2_t (by omega)] at hm
    have tail : ∀ Q' : Option AV → Sto → Prop, Q' (some (AI (if f = 0 then 0 else if U 4 0 < jmpV U (U 10 (f - 1)).toNat (U 10 f).toNat then 3 else if U 10 (f - 1) ≠ U 10 f ∧ r < U 4 1 then 4 else 0))) (g, ρ) → Wp zt 84 (P 84 40) [some (AR a), some (AI f), some (AI r), some (AI (U 10 f)), none] [] (g, ρ) Q' := by
      intro Q' hQ'
      by_cases c3 : f = 0
      · rw [if_pos c3] at hQ'
        subst c3
        rw [P_L_faultAt_40]
        simp only [m_L_faultAt, b_L_faultAt_0, P_L_faultAt_17, b_L_faultAt_17, P_L_faultAt_46, b_L_faultAt_46, P_L_faultAt_74, b_L_faultAt_74, P_L_faultAt_94, b_L_faultAt_94, P_L_faultAt_95, b_L_faultAt_95, wp_aln0, wp_bipush, wp_cv1, wp_cv2, wp_cv3, wp_cv4, wp_cv5, wp_cv6, wp_cv7, wp_goto, wp_iald, wp_iceq, wp_icge, wp_icle, wp_iconst, wp_il4, wp_iln1, wp_iln2, wp_iln3, wp_iret, wp_is4, wp_isn3, wp_isub, wp_izne, wp_nop, wp_zret, qsc_kd, qsc_k1, qsc_l1, qsc_gf1, qsc_k2, qsc_l2, qsc_gf2, qsc_k3, qsc_l3, qsc_gf3, qsc_k4, qsc_l4, qsc_gf4, qsc_k5, qsc_l5, qsc_gf6, qsc_k6, qsc_l6, qsc_gf7, qsc_k7, qsc_l7, qsc_gf9, qsc_k8, qsc_l8, qsc_gf10, qsc_gf0, qsc_pf0, qsc_gf5, qsc_pf5, qsc_gf8, qsc_pf8, wrI_row, cpI_row, row_s, row_n, row_ss, row_sw, upd_s, upd_n, ad_inj, ad_z, ad_z2, Nat.reduceEqDiff, reduceCtorEq, List.cons_append, List.nil_append, Option.toList_some, Option.toList_none, Int.toNat_natCast, List.length_cons, List.length_nil, Int.cast_ofNat_Int, Nat.reduceAdd, Nat.reduceLeDiff, Nat.reduceLT, Nat.reduceMul, Int.reduceAdd, Int.reduceSub, Int.reduceMul, Int.reduceNeg, Int.reduceLT, Int.reduceLE, Int.reduceEq, Int.reduceToNat, eq_self, true_and, and_true, true_or, or_true, false_or, or_false, if_true, if_false, not_true_eq_false, not_false_eq_true, and_self, ne_eq, b_L_faultAt_40, hS, Int.natCast_zero]
        (repeat' (first | apply And.intro | split)) <;> first | omega | exact hQ'
      · rw [if_neg c3] at hQ'
        obtain ⟨f2, rfl⟩ : ∃ f2, f = f2 + 1 := ⟨f - 1, by omega⟩
        rw [show f2 + 1 - 1 = f2 by omega] at hQ' hp
        have c4 := hp (by omega)
        have b10 := (hU.2.2.2.2.2.2.2.2 f2 (by omega)).2
        have r11 : g (ad a 8) f2 = nn (-99) (U 10 f2) := hR.l10 (by omega)
        rw [show nn (-99) (U 10 f2) = U 10 f2 from if_neg c4] at r11
        have ei : (((f2 + 1 : Nat) : Int) - 1).toNat = f2 := by omega
        have hj := jumpOf_ok (zt := zt) (ρ := ρ) hS hWV (x := U 10 f2) (y := U 10 (f2 + 1)) (by omega) (by omega) (by omega) (by omega)
        rw [hR.jmp (by omega) (by omega)] at hj
        have jb : 0 ≤ jmpV U (U 10 f2).toNat (U 10 (f2 + 1)).toNat ∧ jmpV U (U 10 f2).toNat (U 10 (f2 + 1)).toNat ≤ 9 := by
          have q1 := hU.2.1 (U 10 f2).toNat (by omega)
          have q2 := hU.2.1 (U 10 (f2 + 1)).toNat (by omega)
          unfold jmpV dstV
          omega
        generalize jmpV U (U 10 f2).toNat (U 10 (f2 + 1)).toNat = jj at *
        have hne : ¬ ((f2 + 1 : Nat) : Int) = 0 := by omega
        by_cases c5 : U 4 0 < jj
        · rw [if_pos c5] at hQ'
          rw [P_L_faultAt_40]
          simp only [m_L_faultAt, b_L_faultAt_0, P_L_faultAt_17, b_L_faultAt_17, P_L_faultAt_46, b_L_faultAt_46, P_L_faultAt_74, b_L_faultAt_74, P_L_faultAt_94, b_L_faultAt_94, P_L_faultAt_95, b_L_faultAt_95, wp_aln0, wp_bipush, wp_cv1, wp_cv2, wp_cv3, wp_cv4, wp_cv5, wp_cv6, wp_cv7, wp_goto, wp_iald, wp_iceq, wp_icge, wp_icle, wp_iconst, wp_il4, wp_iln1, wp_iln2, wp_iln3, wp_iret, wp_is4, wp_isn3, wp_isub, wp_izne, wp_nop, wp_zret, qsc_kd, qsc_k1, qsc_l1, qsc_gf1, qsc_k2, qsc_l2, qsc_gf2, qsc_k3, qsc_l3, qsc_gf3, qsc_k4, qsc_l4, qsc_gf4, qsc_k5, qsc_l5, qsc_gf6, qsc_k6, qsc_l6, qsc_gf7, qsc_k7, qsc_l7, qsc_gf9, qsc_k8, qsc_l8, qsc_gf10, qsc_gf0, qsc_pf0, qsc_gf5, qsc_pf5, qsc_gf8, qsc_pf8, wrI_row, cpI_row, row_s, row_n, row_ss, row_sw, upd_s, upd_n, ad_inj, ad_z, ad_z2, Nat.reduceEqDiff, reduceCtorEq, List.cons_append, List.nil_append, Option.toList_some, Option.toList_none, Int.toNat_natCast, List.length_cons, List.length_nil, Int.cast_ofNat_Int, Nat.reduceAdd, Nat.reduceLeDiff, Nat.reduceLT, Nat.reduceMul, Int.reduceAdd, Int.reduceSub, Int.reduceMul, Int.reduceNeg, Int.reduceLT, Int.reduceLE, Int.reduceEq, Int.reduceToNat, eq_self, true_and, and_true, true_or, or_true, false_or, or_false, if_true, if_false, not_true_eq_false, not_false_eq_true, and_self, ne_eq, b_L_faultAt_40, hS, hne, ei, r11, hj, n0, n1]
          (repeat' (first | apply And.intro | split)) <;> first | omega | exact hQ'
        · rw [if_neg c5] at hQ'
          by_cases c6 : U 10 f2 = U 10 (f2 + 1)
          · rw [if_neg (fun z => z.1 c6)] at hQ'
            rw [P_L_faultAt_40]
            simp only [m_L_faultAt, b_L_faultAt_0, P_L_faultAt_17, b_L_faultAt_17, P_L_faultAt_46, b_L_faultAt_46, P_L_faultAt_74, b_L_faultAt_74, P_L_faultAt_94, b_L_faultAt_94, P_L_faultAt_95, b_L_faultAt_95, wp_aln0, wp_bipush, wp_cv1, wp_cv2, wp_cv3, wp_cv4, wp_cv5, wp_cv6, wp_cv7, wp_goto, wp_iald, wp_iceq, wp_icge, wp_icle, wp_iconst, wp_il4, wp_iln1, wp_iln2, wp_iln3, wp_iret, wp_is4, wp_isn3, wp_isub, wp_izne, wp_nop, wp_zret, qsc_kd, qsc_k1, qsc_l1, qsc_gf1, qsc_k2, qsc_l2, qsc_gf2, qsc_k3, qsc_l3, qsc_gf3, qsc_k4, qsc_l4, qsc_gf4, qsc_k5, qsc_l5, qsc_gf6, qsc_k6, qsc_l6, qsc_gf7, qsc_k7, qsc_l7, qsc_gf9, qsc_k8, qsc_l8, qsc_gf10, qsc_gf0, qsc_pf0, qsc_gf5, qsc_pf5, qsc_gf8, qsc_pf8, wrI_row, cpI_row, row_s, row_n, row_ss, row_sw, upd_s, upd_n, ad_inj, ad_z, ad_z2, Nat.reduceEqDiff, reduceCtorEq, List.cons_append, List.nil_append, Option.toList_some, Option.toList_none, Int.toNat_natCast, List.length_cons, List.length_nil, Int.cast_ofNat_Int, Nat.reduceAdd, Nat.reduceLeDiff, Nat.reduceLT, Nat.reduceMul, Int.reduceAdd, Int.reduceSub, Int.reduceMul, Int.reduceNeg, Int.reduceLT, Int.reduceLE, Int.reduceEq, Int.reduceToNat, eq_self, true_and, and_true, true_or, or_true, false_or, or_false, if_true, if_false, not_true_eq_false, not_false_eq_true, and_self, ne_eq, b_L_faultAt_40, hS, hne, ei, r11, hj, n0, n1]
            (repeat' (first | apply And.intro | split)) <;> first | omega | exact hQ'
          · by_cases c7 : r < U 4 1
            · rw [if_pos ⟨c6, c7⟩] at hQ'
              rw [P_L_faultAt_40]
              simp only [m_L_faultAt, b_L_faultAt_0, P_L_faultAt_17, b_L_faultAt_17, P_L_faultAt_46, b_L_faultAt_46, P_L_faultAt_74, b_L_faultAt_74, P_L_faultAt_94, b_L_faultAt_94, P_L_faultAt_95, b_L_faultAt_95, wp_aln0, wp_bipush, wp_cv1, wp_cv2, wp_cv3, wp_cv4, wp_cv5, wp_cv6, wp_cv7, wp_goto, wp_iald, wp_iceq, wp_icge, wp_icle, wp_iconst, wp_il4, wp_iln1, wp_iln2, wp_iln3, wp_iret, wp_is4, wp_isn3, wp_isub, wp_izne, wp_nop, wp_zret, qsc_kd, qsc_k1, qsc_l1, qsc_gf1, qsc_k2, qsc_l2, qsc_gf2, qsc_k3, qsc_l3, qsc_gf3, qsc_k4, qsc_l4, qsc_gf4, qsc_k5, qsc_l5, qsc_gf6, qsc_k6, qsc_l6, qsc_gf7, qsc_k7, qsc_l7, qsc_gf9, qsc_k8, qsc_l8, qsc_gf10, qsc_gf0, qsc_pf0, qsc_gf5, qsc_pf5, qsc_gf8, qsc_pf8, wrI_row, cpI_row, row_s, row_n, row_ss, row_sw, upd_s, upd_n, ad_inj, ad_z, ad_z2, Nat.reduceEqDiff, reduceCtorEq, List.cons_append, List.nil_append, Option.toList_some, Option.toList_none, Int.toNat_natCast, List.length_cons, List.length_nil, Int.cast_ofNat_Int, Nat.reduceAdd, Nat.reduceLeDiff, Nat.reduceLT, Nat.reduceMul, Int.reduceAdd, Int.reduceSub, Int.reduceMul, Int.reduceNeg, Int.reduceLT, Int.reduceLE, Int.reduceEq, Int.reduceToNat, eq_self, true_and, and_true, true_or, or_true, false_or, or_false, if_true, if_false, not_true_eq_false, not_false_eq_true, and_self, ne_eq, b_L_faultAt_40, hS, hne, ei, r11, hj, n0, n1]
              (repeat' (first | apply And.intro | split)) <;> first | omega | exact hQ'
            · rw [if_neg (fun z => c7 z.2)] at hQ'
              rw [P_L_faultAt_40]
              simp only [m_L_faultAt, b_L_faultAt_0, P_L_faultAt_17, b_L_faultAt_17, P_L_faultAt_46, b_L_faultAt_46, P_L_faultAt_74, b_L_faultAt_74, P_L_faultAt_94, b_L_faultAt_94, P_L_faultAt_95, b_L_faultAt_95, wp_aln0, wp_bipush, wp_cv1, wp_cv2, wp_cv3, wp_cv4, wp_cv5, wp_cv6, wp_cv7, wp_goto, wp_iald, wp_iceq, wp_icge, wp_icle, wp_iconst, wp_il4, wp_iln1, wp_iln2, wp_iln3, wp_iret, wp_is4, wp_isn3, wp_isub, wp_izne, wp_nop, wp_zret, qsc_kd, qsc_k1, qsc_l1, qsc_gf1, qsc_k2, qsc_l2, qsc_gf2, qsc_k3, qsc_l3, qsc_gf3, qsc_k4, qsc_l4, qsc_gf4, qsc_k5, qsc_l5, qsc_gf6, qsc_k6, qsc_l6, qsc_gf7, qsc_k7, qsc_l7, qsc_gf9, qsc_k8, qsc_l8, qsc_gf10, qsc_gf0, qsc_pf0, qsc_gf5, qsc_pf5, qsc_gf8, qsc_pf8, wrI_row, cpI_row, row_s, row_n, row_ss, row_sw, upd_s, upd_n, ad_inj, ad_z, ad_z2, Nat.reduceEqDiff, reduceCtorEq, List.cons_append, List.nil_append, Option.toList_some, Option.toList_none, Int.toNat_natCast, List.length_cons, List.length_nil, Int.cast_ofNat_Int, Nat.reduceAdd, Nat.reduceLeDiff, Nat.reduceLT, Nat.reduceMul, Int.reduceAdd, Int.reduceSub, Int.reduceMul, Int.reduceNeg, Int.reduceLT, Int.reduceLE, Int.reduceEq, Int.reduceToNat, eq_self, true_and, and_true, true_or, or_true, false_or, or_false, if_true, if_false, not_true_eq_false, not_false_eq_true, and_self, ne_eq, b_L_faultAt_40, hS, hne, ei, r11, hj, n0, n1]
              (repeat' (first | apply And.intro | split)) <;> first | omega | exact hQ'
    by_cases c2 : U 9 f = -1
    · rw [if_neg (fun z => z.1 c2)] at hQ
      rw [show nn (-99) (U 9 f) = -99 from if_pos c2] at r9
      have k1 := tail Q hQ
      simp only [m_L_faultAt, b_L_faultAt_0, P_L_faultAt_17, b_L_faultAt_17, P_L_faultAt_46, b_L_faultAt_46, P_L_faultAt_74, b_L_faultAt_74, P_L_faultAt_94, b_L_faultAt_94, P_L_faultAt_95, b_L_faultAt_95, wp_aln0, wp_bipush, wp_cv1, wp_cv2, wp_cv3, wp_cv4, wp_cv5, wp_cv6, wp_cv7, wp_goto, wp_iald, wp_iceq, wp_icge, wp_icle, wp_iconst, wp_il4, wp_iln1, wp_iln2, wp_iln3, wp_iret, wp_is4, wp_isn3, wp_isub, wp_izne, wp_nop, wp_zret, qsc_kd, qsc_k1, qsc_l1, qsc_gf1, qsc_k2, qsc_l2, qsc_gf2, qsc_k3, qsc_l3, qsc_gf3, qsc_k4, qsc_l4, qsc_gf4, qsc_k5, qsc_l5, qsc_gf6, qsc_k6, qsc_l6, qsc_gf7, qsc_k7, qsc_l7, qsc_gf9, qsc_k8, qsc_l8, qsc_gf10, qsc_gf0, qsc_pf0, qsc_gf5, qsc_pf5, qsc_gf8, qsc_pf8, wrI_row, cpI_row, row_s, row_n, row_ss, row_sw, upd_s, upd_n, ad_inj, ad_z, ad_z2, Nat.reduceEqDiff, reduceCtorEq, List.cons_append, List.nil_append, Option.toList_some, Option.toList_none, Int.toNat_natCast, List.length_cons, List.length_nil, Int.cast_ofNat_Int, Nat.reduceAdd, Nat.reduceLeDiff, Nat.reduceLT, Nat.reduceMul, Int.reduceAdd, Int.reduceSub, Int.reduceMul, Int.reduceNeg, Int.reduceLT, Int.reduceLE, Int.reduceEq, Int.reduceToNat, eq_self, true_and, and_true, true_or, or_true, false_or, or_false, if_true, if_false, not_true_eq_false, not_false_eq_true, and_self, ne_eq, hS, r10, hm, r9]
      (repeat' (first | apply And.intro | split)) <;> first | omega | exact k1
    · rw [show nn (-99) (U 9 f) = U 9 f from if_neg c2] at r9
      by_cases c3 : U 9 f = U 10 f
      · rw [if_neg (fun z => z.2 c3)] at hQ
        have k1 := tail Q hQ
        simp only [m_L_faultAt, b_L_faultAt_0, P_L_faultAt_17, b_L_faultAt_17, P_L_faultAt_46, b_L_faultAt_46, P_L_faultAt_74, b_L_faultAt_74, P_L_faultAt_94, b_L_faultAt_94, P_L_faultAt_95, b_L_faultAt_95, wp_aln0, wp_bipush, wp_cv1, wp_cv2, wp_cv3, wp_cv4, wp_cv5, wp_cv6, wp_cv7, wp_goto, wp_iald, wp_iceq, wp_icge, wp_icle, wp_iconst, wp_il4, wp_iln1, wp_iln2, wp_iln3, wp_iret, wp_is4, wp_isn3, wp_isub, wp_izne, wp_nop, wp_zret, qsc_kd, qsc_k1, qsc_l1, qsc_gf1, qsc_k2, qsc_l2, qsc_gf2, qsc_k3, qsc_l3, qsc_gf3, qsc_k4, qsc_l4, qsc_gf4, qsc_k5, qsc_l5, qsc_gf6, qsc_k6, qsc_l6, qsc_gf7, qsc_k7, qsc_l7, qsc_gf9, qsc_k8, qsc_l8, qsc_gf10, qsc_gf0, qsc_pf0, qsc_gf5, qsc_pf5, qsc_gf8, qsc_pf8, wrI_row, cpI_row, row_s, row_n, row_ss, row_sw, upd_s, upd_n, ad_inj, ad_z, ad_z2, Nat.reduceEqDiff, reduceCtorEq, List.cons_append, List.nil_append, Option.toList_some, Option.toList_none, Int.toNat_natCast, List.length_cons, List.length_nil, Int.cast_ofNat_Int, Nat.reduceAdd, Nat.reduceLeDiff, Nat.reduceLT, Nat.reduceMul, Int.reduceAdd, Int.reduceSub, Int.reduceMul, Int.reduceNeg, Int.reduceLT, Int.reduceLE, Int.reduceEq, Int.reduceToNat, eq_self, true_and, and_true, true_or, or_true, false_or, or_false, if_true, if_false, not_true_eq_false, not_false_eq_true, and_self, ne_eq, hS, r10, hm, r9]
        (repeat' (first | apply And.intro | split)) <;> first | omega | exact k1
      · rw [if_pos ⟨c2, c3⟩] at hQ
        simp only [m_L_faultAt, b_L_faultAt_0, P_L_faultAt_17, b_L_faultAt_17, P_L_faultAt_46, b_L_faultAt_46, P_L_faultAt_74, b_L_faultAt_74, P_L_faultAt_94, b_L_faultAt_94, P_L_faultAt_95, b_L_faultAt_95, wp_aln0, wp_bipush, wp_cv1, wp_cv2, wp_cv3, wp_cv4, wp_cv5, wp_cv6, wp_cv7, wp_goto, wp_iald, wp_iceq, wp_icge, wp_icle, wp_iconst, wp_il4, wp_iln1, wp_iln2, wp_iln3, wp_iret, wp_is4, wp_isn3, wp_isub, wp_izne, wp_nop, wp_zret, qsc_kd, qsc_k1, qsc_l1, qsc_gf1, qsc_k2, qsc_l2, qsc_gf2, qsc_k3, qsc_l3, qsc_gf3, qsc_k4, qsc_l4, qsc_gf4, qsc_k5, qsc_l5, qsc_gf6, qsc_k6, qsc_l6, qsc_gf7, qsc_k7, qsc_l7, qsc_gf9, qsc_k8, qsc_l8, qsc_gf10, qsc_gf0, qsc_pf0, qsc_gf5, qsc_pf5, qsc_gf8, qsc_pf8, wrI_row, cpI_row, row_s, row_n, row_ss, row_sw, upd_s, upd_n, ad_inj, ad_z, ad_z2, Nat.reduceEqDiff, reduceCtorEq, List.cons_append, List.nil_append, Option.toList_some, Option.toList_none, Int.toNat_natCast, List.length_cons, List.length_nil, Int.cast_ofNat_Int, Nat.reduceAdd, Nat.reduceLeDiff, Nat.reduceLT, Nat.reduceMul, Int.reduceAdd, Int.reduceSub, Int.reduceMul, Int.reduceNeg, Int.reduceLT, Int.reduceLE, Int.reduceEq, Int.reduceToNat, eq_self, true_and, and_true, true_or, or_true, false_or, or_false, if_true, if_false, not_true_eq_false, not_false_eq_true, and_self, ne_eq, hS, r10, hm, r9]
        (repeat' (first | apply And.intro | split)) <;> first | omega | exact hQ
end FLT
section FLC
variable {zt : Nat → Nat} {g : Nat → Nat → Int} {ρ : Ri} {L : Nat} {h : Nat → Nat} {X : XV} {Q : Option AV → Sto → Prop}
theorem fault_loop (hX : RepC g ρ L h X) (hW : WFX X) {w : Int} (hw : 0 ≤ w ∧ w ≤ 1) (hQ : CQ g ρ L (flF X.1.1 w (X.1.1 8 0).toNat 0, X) Q) :
    ∀ (d f : Nat) (o5 : Option AV), (f : Int) + d = X.1.1 8 0 → (0 < f → X.1.1 10 (f - 1) ≠ -1) → flF X.1.1 w d f = flF X.1.1 w (X.1.1 8 0).toNat 0 → Wp zt 77 (P 77 24) [some (AR L), some (AI w), some (AR (ad (ad L 1) 1)), some (AI (runV X.1.1 f)), some (AI f), o5] [] (g, ρ) Q := by
  obtain ⟨hLf, hN, -⟩ := id hX.1
  obtain ⟨hR, -⟩ := id hX.2.1
  have hU := hW.1.1
  have hWV := hR.wf (by omega) hU
  have hN1 := hN.1
  have hS := hN.2.1
  have e0 : g (ad (ad L 1) 1) 0 = X.1.1 0 0 := hR.l0
  have e5 : g (ad (ad L 1) 1) 5 = X.1.1 5 0 := hR.l5
  have e8 : g (ad (ad L 1) 1) 8 = X.1.1 8 0 := hR.l8
  have b0 := hU.1
  have b5 := hU.2.2.2.2.1
  have b8 := hU.2.2.2.2.2.2.1
  have q := hQ.ro hX
  intro d
  induction d with
  | zero =>
    intro f o5 hf hp hs
    rw [← hs] at q
    have hfe : ¬ (f : Int) < X.1.1 8 0 := by omega
    rw [P_L_fault_24]
    simp only [m_L_fault, b_L_fault_0, P_L_fault_11, b_L_fault_11, P_L_fault_56, b_L_fault_56, P_L_fault_58, b_L_fault_58, P_L_fault_59, b_L_fault_59, P_L_fault_89, b_L_fault_89, P_L_fault_90, b_L_fault_90, P_L_fault_97, b_L_fault_97, wp_abs, wp_aln0, wp_aln2, wp_asn2, wp_bipush, wp_copy, wp_cs1, wp_cs2, wp_cs3, wp_cs4, wp_cs5, wp_cs6, wp_cs7, wp_goto, wp_iadd, wp_iald, wp_icge, wp_icne, wp_iconst, wp_il4, wp_il5, wp_iln1, wp_iln3, wp_inc4, wp_iret, wp_is4, wp_is5, wp_isn3, wp_isub, wp_izeq, wp_izle, wp_izne, wp_max, wp_min, wp_nop, wp_zret, qsc_kd, qsc_k1, qsc_l1, qsc_gf1, qsc_k2, qsc_l2, qsc_gf2, qsc_k3, qsc_l3, qsc_gf3, qsc_k4, qsc_l4, qsc_gf4, qsc_k5, qsc_l5, qsc_gf6, qsc_k6, qsc_l6, qsc_gf7, qsc_k7, qsc_l7, qsc_gf9, qsc_k8, qsc_l8, qsc_gf10, qsc_gf0, qsc_pf0, qsc_gf5, qsc_pf5, qsc_gf8, qsc_pf8, qst_kd, qst_gf0, qst_k10, qst_l10, qst_gf1, qst_k29, qst_l29, qst_gf2, qlf_kd, qlf_gf0, qlf_k31, qlf_l31, qlf_gf1, qlf_gf3, qlf_gf4, qlf_gf5, qlf_gf6, qlf_k203, qlf_l203, qlf_gf7, qlf_gf2, qlf_pf2, qlf_gf8, qlf_pf8, wrI_row, cpI_row, row_s, row_n, row_ss, row_sw, upd_s, upd_n, ad_inj, ad_z, ad_z2, Nat.reduceEqDiff, reduceCtorEq, List.cons_append, List.nil_append, Option.toList_some, Option.toList_none, Int.toNat_natCast, List.length_cons, List.length_nil, Int.cast_ofNat_Int, Nat.reduceAdd, Nat.reduceLeDiff, Nat.reduceLT, Nat.reduceMul, Int.reduceAdd, Int.reduceSub, Int.reduceMul, Int.reduceNeg, Int.reduceLT, Int.reduceLE, Int.reduceEq, Int.reduceToNat, eq_self, true_and, and_true, true_or, or_true, false_or, or_false, if_true, if_false, not_true_eq_false, not_false_eq_true, and_self, ne_eq, b_L_fault_24, hLf, hN1, hS, e8]
    (repeat' (first | apply And.intro | split)) <;> first | omega | exact q
  | succ d ih =>
    intro f o5 hf hp hs
    simp only [flF] at hs
    have rb := runV_b X.1.1 f
    have fb := fltV_b X.1.1 f (runV X.1.1 f)
    have hfa := faultAt_ok (zt := zt) (ρ := ρ) hS hR hU (f := f) (by omega) hp (r := runV X.1.1 f) (by omega)
    have hfl : ¬ X.1.1 8 0 ≤ (f : Int) := by omega
    by_cases c : fltV X.1.1 f (runV X.1.1 f) = 0
    · rw [if_pos c] at hs
      rw [c] at hfa
      have c10 := fltV_0 c
      have r10 : g (ad (ad (ad L 1) 1) 8) f = nn (-99) (X.1.1 10 f) := hR.l10 (by omega)
      rw [show nn (-99) (X.1.1 10 f) = X.1.1 10 f from if_neg c10] at r10
      have b10 := (hU.2.2.2.2.2.2.2.2 f (by omega)).2
      have i1 := ih (f + 1) (some (AI 0)) (by omega) (fun _ => c10) hs
      simp only [runV] at i1
      by_cases c0 : f = 0
      · have hz : (f : Int) ≤ 0 := by omega
        rw [if_neg (by omega)] at i1
        rw [P_L_fault_24]
        simp only [m_L_fault, b_L_fault_0, P_L_fault_11, b_L_fault_11, P_L_fault_56, b_L_fault_56, P_L_fault_58, b_L_fault_58, P_L_fault_59, b_L_fault_59, P_L_fault_89, b_L_fault_89, P_L_fault_90, b_L_fault_90, P_L_fault_97, b_L_fault_97, wp_abs, wp_aln0, wp_aln2, wp_asn2, wp_bipush, wp_copy, wp_cs1, wp_cs2, wp_cs3, wp_cs4, wp_cs5, wp_cs6, wp_cs7, wp_goto, wp_iadd, wp_iald, wp_icge, wp_icne, wp_iconst, wp_il4, wp_il5, wp_iln1, wp_iln3, wp_inc4, wp_iret, wp_is4, wp_is5, wp_isn3, wp_isub, wp_izeq, wp_izle, wp_izne, wp_max, wp_min, wp_nop, wp_zret, qsc_kd, qsc_k1, qsc_l1, qsc_gf1, qsc_k2, qsc_l2, qsc_gf2, qsc_k3, qsc_l3, qsc_gf3, qsc_k4, qsc_l4, qsc_gf4, qsc_k5, qsc_l5, qsc_gf6, qsc_k6, qsc_l6, qsc_gf7, qsc_k7, qsc_l7, qsc_gf9, qsc_k8, qsc_l8, qsc_gf10, qsc_gf0, qsc_pf0, qsc_gf5, qsc_pf5, qsc_gf8, qsc_pf8, qst_kd, qst_gf0, qst_k10, qst_l10, qst_gf1, qst_k29, qst_l29, qst_gf2, qlf_kd, qlf_gf0, qlf_k31, qlf_l31, qlf_gf1, qlf_gf3, qlf_gf4, qlf_gf5, qlf_gf6, qlf_k203, qlf_l203, qlf_gf7, qlf_gf2, qlf_pf2, qlf_gf8, qlf_pf8, wrI_row, cpI_row, row_s, row_n, row_ss, row_sw, upd_s, upd_n, ad_inj, ad_z, ad_z2, Nat.reduceEqDiff, reduceCtorEq, List.cons_append, List.nil_append, Option.toList_some, Option.toList_none, Int.toNat_natCast, List.length_cons, List.length_nil, Int.cast_ofNat_Int, Nat.reduceAdd, Nat.reduceLeDiff, Nat.reduceLT, Nat.reduceMul, Int.reduceAdd, Int.reduceSub, Int.reduceMul, Int.reduceNeg, Int.reduceLT, Int.reduceLE, Int.reduceEq, Int.reduceToNat, eq_self, true_and, and_true, true_or, or_true, false_or, or_false, if_true, if_false, not_true_eq_false, not_false_eq_true, and_self, ne_eq, b_L_fault_24, hLf, hN1, hS, e8, hfa, hfl, hz]
        (repeat' (first | apply And.intro | split)) <;> first | omega | exact i1
      · obtain ⟨f2, rfl⟩ : ∃ f2, f = f2 + 1 := ⟨f - 1, by omega⟩
        rw [show f2 + 1 - 1 = f2 by omega] at i1 hp
        have r11 : g (ad (ad (ad L 1) 1) 8) f2 = nn (-99) (X.1.1 10 f2) := hR.l10 (by omega)
        rw [show nn (-99) (X.1.1 10 f2) = X.1.1 10 f2 from if_neg (hp (by omega))] at r11
        have b11 := (hU.2.2.2.2.2.2.2.2 f2 (by omega)).2
        have ei : (((f2 + 1 : Nat) : Int) - 1).toNat = f2 := by omega
        have hpo : ¬ ((f2 + 1 : Nat) : Int) ≤ 0 := by omega
        by_cases c2 : X.1.1 10 (f2 + 1) = X.1.1 10 f2
        · rw [if_pos ⟨by omega, c2⟩] at i1
          rw [c2] at r10
          rw [P_L_fault_24]
          simp only [m_L_fault, b_L_fault_0, P_L_fault_11, b_L_fault_11, P_L_fault_56, b_L_fault_56, P_L_fault_58, b_L_fault_58, P_L_fault_59, b_L_fault_59, P_L_fault_89, b_L_fault_89, P_L_fault_90, b_L_fault_90, P_L_fault_97, b_L_fault_97, wp_abs, wp_aln0, wp_aln2, wp_asn2, wp_bipush, wp_copy, wp_cs1, wp_cs2, wp_cs3, wp_cs4, wp_cs5, wp_cs6, wp_cs7, wp_goto, wp_iadd, wp_iald, wp_icge, wp_icne, wp_iconst, wp_il4, wp_il5, wp_iln1, wp_iln3, wp_inc4, wp_iret, wp_is4, wp_is5, wp_isn3, wp_isub, wp_izeq, wp_izle, wp_izne, wp_max, wp_min, wp_nop, wp_zret, qsc_kd, qsc_k1, qsc_l1, qsc_gf1, qsc_k2, qsc_l2, qsc_gf2, qsc_k3, qsc_l3, qsc_gf3, qsc_k4, qsc_l4, qsc_gf4, qsc_k5, qsc_l5, qsc_gf6, qsc_k6, qsc_l6, qsc_gf7, qsc_k7, qsc_l7, qsc_gf9, qsc_k8, qsc_l8, qsc_gf10, qsc_gf0, qsc_pf0, qsc_gf5, qsc_pf5, qsc_gf8, qsc_pf8, qst_kd, qst_gf0, qst_k10, qst_l10, qst_gf1, qst_k29, qst_l29, qst_gf2, qlf_kd, qlf_gf0, qlf_k31, qlf_l31, qlf_gf1, qlf_gf3, qlf_gf4, qlf_gf5, qlf_gf6, qlf_k203, qlf_l203, qlf_gf7, qlf_gf2, qlf_pf2, qlf_gf8, qlf_pf8, wrI_row, cpI_row, row_s, row_n, row_ss, row_sw, upd_s, upd_n, ad_inj, ad_z, ad_z2, Nat.reduceEqDiff, reduceCtorEq, List.cons_append, List.nil_append, Option.toList_some, Option.toList_none, Int.toNat_natCast, List.length_cons, List.length_nil, Int.cast_ofNat_Int, Nat.reduceAdd, Nat.reduceLeDiff, Nat.reduceLT, Nat.reduceMul, Int.reduceAdd, Int.reduceSub, Int.reduceMul, Int.reduceNeg, Int.reduceLT, Int.reduceLE, Int.reduceEq, Int.reduceToNat, eq_self, true_and, and_true, true_or, or_true, false_or, or_false, if_true, if_false, not_true_eq_false, not_false_eq_true, and_self, ne_eq, b_L_fault_24, hLf, hN1, hS, e8, hfa, hfl, ei, r10, r11, hpo]
          (repeat' (first | apply And.intro | split)) <;> first | omega | exact i1
        · rw [if_neg (fun z => c2 z.2)] at i1
          rw [P_L_fault_24]
          simp only [m_L_fault, b_L_fault_0, P_L_fault_11, b_L_fault_11, P_L_fault_56, b_L_fault_56, P_L_fault_58, b_L_fault_58, P_L_fault_59, b_L_fault_59, P_L_fault_89, b_L_fault_89, P_L_fault_90, b_L_fault_90, P_L_fault_97, b_L_fault_97, wp_abs, wp_aln0, wp_aln2, wp_asn2, wp_bipush, wp_copy, wp_cs1, wp_cs2, wp_cs3, wp_cs4, wp_cs5, wp_cs6, wp_cs7, wp_goto, wp_iadd, wp_iald, wp_icge, wp_icne, wp_iconst, wp_il4, wp_il5, wp_iln1, wp_iln3, wp_inc4, wp_iret, wp_is4, wp_is5, wp_isn3, wp_isub, wp_izeq, wp_izle, wp_izne, wp_max, wp_min, wp_nop, wp_zret, qsc_kd, qsc_k1, qsc_l1, qsc_gf1, qsc_k2, qsc_l2, qsc_gf2, qsc_k3, qsc_l3, qsc_gf3, qsc_k4, qsc_l4, qsc_gf4, qsc_k5, qsc_l5, qsc_gf6, qsc_k6, qsc_l6, qsc_gf7, qsc_k7, qsc_l7, qsc_gf9, qsc_k8, qsc_l8, qsc_gf10, qsc_gf0, qsc_pf0, qsc_gf5, qsc_pf5, qsc_gf8, qsc_pf8, qst_kd, qst_gf0, qst_k10, qst_l10, qst_gf1, qst_k29, qst_l29, qst_gf2, qlf_kd, qlf_gf0, qlf_k31, qlf_l31, qlf_gf1, qlf_gf3, qlf_gf4, qlf_gf5, qlf_gf6, qlf_k203, qlf_l203, qlf_gf7, qlf_gf2, qlf_pf2, qlf_gf8, qlf_pf8, wrI_row, cpI_row, row_s, row_n, row_ss, row_sw, upd_s, upd_n, ad_inj, ad_z, ad_z2, Nat.reduceEqDiff, reduceCtorEq, List.cons_append, List.nil_append, Option.toList_some, Option.toList_none, Int.toNat_natCast, List.length_cons, List.length_nil, Int.cast_ofNat_Int, Nat.reduceAdd, Nat.reduceLeDiff, Nat.reduceLT, Nat.reduceMul, Int.reduceAdd, Int.reduceSub, Int.reduceMul, Int.reduceNeg, Int.reduceLT, Int.reduceLE, Int.reduceEq, Int.reduceToNat, eq_self, true_and, and_true, true_or, or_true, false_or, or_false, if_true, if_false, not_true_eq_false, not_false_eq_true, and_self, ne_eq, b_L_fault_24, hLf, hN1, hS, e8, hfa, hfl, ei, r10, r11, hpo, c2]
          (repeat' (first | apply And.intro | split)) <;> first | omega | exact i1
    · rw [if_neg c] at hs
      rw [← hs] at q
      by_cases c0 : w = 0
      · rw [if_pos c0] at q
        subst c0
        rw [P_L_fault_24]
        simp only [m_L_fault, b_L_fault_0, P_L_fault_11, b_L_fault_11, P_L_fault_56, b_L_fault_56, P_L_fault_58, b_L_fault_58, P_L_fault_59, b_L_fault_59, P_L_fault_89, b_L_fault_89, P_L_fault_90, b_L_fault_90, P_L_fault_97, b_L_fault_97, wp_abs, wp_aln0, wp_aln2, wp_asn2, wp_bipush, wp_copy, wp_cs1, wp_cs2, wp_cs3, wp_cs4, wp_cs5, wp_cs6, wp_cs7, wp_goto, wp_iadd, wp_iald, wp_icge, wp_icne, wp_iconst, wp_il4, wp_il5, wp_iln1, wp_iln3, wp_inc4, wp_iret, wp_is4, wp_is5, wp_isn3, wp_isub, wp_izeq, wp_izle, wp_izne, wp_max, wp_min, wp_nop, wp_zret, qsc_kd, qsc_k1, qsc_l1, qsc_gf1, qsc_k2, qsc_l2, qsc_gf2, qsc_k3, qsc_l3, qsc_gf3, qsc_k4, qsc_l4, qsc_gf4, qsc_k5, qsc_l5, qsc_gf6, qsc_k6, qsc_l6, qsc_gf7, qsc_k7, qsc_l7, qsc_gf9, qsc_k8, qsc_l8, qsc_gf10, qsc_gf0, qsc_pf0, qsc_gf5, qsc_pf5, qsc_gf8, qsc_pf8, qst_kd, qst_gf0, qst_k10, qst_l10, qst_gf1, qst_k29, qst_l29, qst_gf2, qlf_kd, qlf_gf0, qlf_k31, qlf_l31, qlf_gf1, qlf_gf3, qlf_gf4, qlf_gf5, qlf_gf6, qlf_k203, qlf_l203, qlf_gf7, qlf_gf2, qlf_pf2, qlf_gf8, qlf_pf8, wrI_row, cpI_row, row_s, row_n, row_ss, row_sw, upd_s, upd_n, ad_inj, ad_z, ad_z2, Nat.reduceEqDiff, reduceCtorEq, List.cons_append, List.nil_append, Option.toList_some, Option.toList_none, Int.toNat_natCast, List.length_cons, List.length_nil, Int.cast_ofNat_Int, Nat.reduceAdd, Nat.reduceLeDiff, Nat.reduceLT, Nat.reduceMul, Int.reduceAdd, Int.reduceSub, Int.reduceMul, Int.reduceNeg, Int.reduceLT, Int.reduceLE, Int.reduceEq, Int.reduceToNat, eq_self, true_and, and_true, true_or, or_true, false_or, or_false, if_true, if_false, not_true_eq_false, not_false_eq_true, and_self, ne_eq, b_L_fault_24, hLf, hN1, hS, e8, hfa, hfl, c]
        (repeat' (first | apply And.intro | split)) <;> first | omega | exact q
      · rw [if_neg c0] at q
        rw [P_L_fault_24]
        simp only [m_L_fault, b_L_fault_0, P_L_fault_11, b_L_fault_11, P_L_fault_56, b_L_fault_56, P_L_fault_58, b_L_fault_58, P_L_fault_59, b_L_fault_59, P_L_fault_89, b_L_fault_89, P_L_fault_90, b_L_fault_90, P_L_fault_97, b_L_fault_97, wp_abs, wp_aln0, wp_aln2, wp_asn2, wp_bipush, wp_copy, wp_cs1, wp_cs2, wp_cs3, wp_cs4, wp_cs5, wp_cs6, wp_cs7, wp_goto, wp_iadd, wp_iald, wp_icge, wp_icne, wp_iconst, wp_il4, wp_il5, wp_iln1, wp_iln3, wp_inc4, wp_iret, wp_is4, wp_is5, wp_isn3, wp_isub, wp_izeq, wp_izle, wp_izne, wp_max, wp_min, wp_nop, wp_zret, qsc_kd, qsc_k1, qsc_l1, qsc_gf1, qsc_k2, qsc_l2, qsc_gf2, qsc_k3, qsc_l3, qsc_gf3, qsc_k4, qsc_l4, qsc_gf4, qsc_k5, qsc_l5, qsc_gf6, qsc_k6, qsc_l6, qsc_gf7, qsc_k7, qsc_l7, qsc_gf9, qsc_k8, qsc_l8, qsc_gf10, qsc_gf0, qsc_pf0, qsc_gf5, qsc_pf5, qsc_gf8, qsc_pf8, qst_kd, qst_gf0, qst_k10, qst_l10, qst_gf1, qst_k29, qst_l29, qst_gf2, qlf_kd, qlf_gf0, qlf_k31, qlf_l31, qlf_gf1, qlf_gf3, qlf_gf4, qlf_gf5, qlf_gf6, qlf_k203, qlf_l203, qlf_gf7, qlf_gf2, qlf_pf2, qlf_gf8, qlf_pf8, wrI_row, cpI_row, row_s, row_n, row_ss, row_sw, upd_s, upd_n, ad_inj, ad_z, ad_z2, Nat.reduceEqDiff, reduceCtorEq, List.cons_append, List.nil_append, Option.toList_some, Option.toList_none, Int.toNat_natCast, List.length_cons, List.length_nil, Int.cast_ofNat_Int, Nat.reduceAdd, Nat.reduceLeDiff, Nat.reduceLT, Nat.reduceMul, Int.reduceAdd, Int.reduceSub, Int.reduceMul, Int.reduceNeg, Int.reduceLT, Int.reduceLE, Int.reduceEq, Int.reduceToNat, eq_self, true_and, and_true, true_or, or_true, false_or, or_false, if_true, if_false, not_true_eq_false, not_false_eq_true, and_self, ne_eq, b_L_fault_24, hLf, hN1, hS, e8, hfa, hfl, c, c0]
        (repeat' (first | apply And.intro | split)) <;> first | omega | exact q
theorem c_fault (hX : RepC g ρ L h X) (hW : WFX X) {w : Int} (hw : i32 w) (hQ : CQ g ρ L (sFault w X, X) Q) : WpM zt 77 [AR L, AI w] (g, ρ) Q := by
  obtain ⟨hLf, hN, -⟩ := id hX.1
  obtain ⟨hR, -⟩ := id hX.2.1
  have hU := hW.1.1
  have hWV := hR.wf (by omega) hU
  have hN1 := hN.1
  have hS := hN.2.1
  have e0 : g (ad (ad L 1) 1) 0 = X.1.1 0 0 := hR.l0
  have e5 : g (ad (ad L 1) 1) 5 = X.1.1 5 0 := hR.l5
  have e8 : g (ad (ad L 1) 1) 8 = X.1.1 8 0 := hR.l8
  have b0 := hU.1
  have b5 := hU.2.2.2.2.1
  have b8 := hU.2.2.2.2.2.2.1
  unfold sFault at hQ
  by_cases c : 0 ≤ w ∧ w ≤ 1
  · rw [if_pos c] at hQ
    have ho1 := fun Q => lk_in (zt := zt) (g := g) (ρ := ρ) (lo := 0) (hi := 1) (by omega) (by omega) c Q
    have k1 := fault_loop (zt := zt) hX hW c hQ (X.1.1 8 0).toNat 0 none (by omega) (fun z => by omega) rfl
    simp only [m_L_fault, b_L_fault_0, P_L_fault_11, b_L_fault_11, P_L_fault_56, b_L_fault_56, P_L_fault_58, b_L_fault_58, P_L_fault_59, b_L_fault_59, P_L_fault_89, b_L_fault_89, P_L_fault_90, b_L_fault_90, P_L_fault_97, b_L_fault_97, wp_abs, wp_aln0, wp_aln2, wp_asn2, wp_bipush, wp_copy, wp_cs1, wp_cs2, wp_cs3, wp_cs4, wp_cs5, wp_cs6, wp_cs7, wp_goto, wp_iadd, wp_iald, wp_icge, wp_icne, wp_iconst, wp_il4, wp_il5, wp_iln1, wp_iln3, wp_inc4, wp_iret, wp_is4, wp_is5, wp_isn3, wp_isub, wp_izeq, wp_izle, wp_izne, wp_max, wp_min, wp_nop, wp_zret, qsc_kd, qsc_k1, qsc_l1, qsc_gf1, qsc_k2, qsc_l2, qsc_gf2, qsc_k3, qsc_l3, qsc_gf3, qsc_k4, qsc_l4, qsc_gf4, qsc_k5, qsc_l5, qsc_gf6, qsc_k6, qsc_l6, qsc_gf7, qsc_k7, qsc_l7, qsc_gf9, qsc_k8, qsc_l8, qsc_gf10, qsc_gf0, qsc_pf0, qsc_gf5, qsc_pf5, qsc_gf8, qsc_pf8, qst_kd, qst_gf0, qst_k10, qst_l10, qst_gf1, qst_k29, qst_l29, qst_gf2, qlf_kd, qlf_gf0, qlf_k31, qlf_l31, qlf_gf1, qlf_gf3, qlf_gf4, qlf_gf5, qlf_gf6, qlf_k203, qlf_l203, qlf_gf7, qlf_gf2, qlf_pf2, qlf_gf8, qlf_pf8, wrI_row, cpI_row, row_s, row_n, row_ss, row_sw, upd_s, upd_n, ad_inj, ad_z, ad_z2, Nat.reduceEqDiff, reduceCtorEq, List.cons_append, List.nil_append, Option.toList_some, Option.toList_none, Int.toNat_natCast, List.length_cons, List.length_nil, Int.cast_ofNat_Int, Nat.reduceAdd, Nat.reduceLeDiff, Nat.reduceLT, Nat.reduceMul, Int.reduceAdd, Int.reduceSub, Int.reduceMul, Int.reduceNeg, Int.reduceLT, Int.reduceLE, Int.reduceEq, Int.reduceToNat, eq_self, true_and, and_true, true_or, or_true, false_or, or_false, if_true, if_false, not_true_eq_false, not_false_eq_true, and_self, ne_eq, hLf, hN1, hS, ho1]
    exact k1
  · rw [if_neg c] at hQ
    have q := hQ.ro hX
    have ho1 := fun Q => lk_out (zt := zt) (g := g) (ρ := ρ) (lo := 0) (hi := 1) hw (by omega) (by omega) c Q
    simp only [m_L_fault, b_L_fault_0, P_L_fault_11, b_L_fault_11, P_L_fault_56, b_L_fault_56, P_L_fault_58, b_L_fault_58, P_L_fault_59, b_L_fault_59, P_L_fault_89, b_L_fault_89, P_L_fault_90, b_L_fault_90, P_L_fault_97, b_L_fault_97, wp_abs, wp_aln0, wp_aln2, wp_asn2, wp_bipush, wp_copy, wp_cs1, wp_cs2, wp_cs3, wp_cs4, wp_cs5, wp_cs6, wp_cs7, wp_goto, wp_iadd, wp_iald, wp_icge, wp_icne, wp_iconst, wp_il4, wp_il5, wp_iln1, wp_iln3, wp_inc4, wp_iret, wp_is4, wp_is5, wp_isn3, wp_isub, wp_izeq, wp_izle, wp_izne, wp_max, wp_min, wp_nop, wp_zret, qsc_kd, qsc_k1, qsc_l1, qsc_gf1, qsc_k2, qsc_l2, qsc_gf2, qsc_k3, qsc_l3, qsc_gf3, qsc_k4, qsc_l4, qsc_gf4, qsc_k5, qsc_l5, qsc_gf6, qsc_k6, qsc_l6, qsc_gf7, qsc_k7, qsc_l7, qsc_gf9, qsc_k8, qsc_l8, qsc_gf10, qsc_gf0, qsc_pf0, qsc_gf5, qsc_pf5, qsc_gf8, qsc_pf8, qst_kd, qst_gf0, qst_k10, qst_l10, qst_gf1, qst_k29, qst_l29, qst_gf2, qlf_kd, qlf_gf0, qlf_k31, qlf_l31, qlf_gf1, qlf_gf3, qlf_gf4, qlf_gf5, qlf_gf6, qlf_k203, qlf_l203, qlf_gf7, qlf_gf2, qlf_pf2, qlf_gf8, qlf_pf8, wrI_row, cpI_row, row_s, row_n, row_ss, row_sw, upd_s, upd_n, ad_inj, ad_z, ad_z2, Nat.reduceEqDiff, reduceCtorEq, List.cons_append, List.nil_append, Option.toList_some, Option.toList_none, Int.toNat_natCast, List.length_cons, List.length_nil, Int.cast_ofNat_Int, Nat.reduceAdd, Nat.reduceLeDiff, Nat.reduceLT, Nat.reduceMul, Int.reduceAdd, Int.reduceSub, Int.reduceMul, Int.reduceNeg, Int.reduceLT, Int.reduceLE, Int.reduceEq, Int.reduceToNat, eq_self, true_and, and_true, true_or, or_true, false_or, or_false, if_true, if_false, not_true_eq_false, not_false_eq_true, and_self, ne_eq, hLf, hN1, hS, ho1]
    (repeat' (first | apply And.intro | split)) <;> first | omega | exact q
/-- the rival of a frame -/
def rivU (U : Vw) (f : Nat) : Nat := amin (fun m => wrgV U (kndV U f) m) (pM U)
def sWhy (f : Int) (X : XV) : Int := if 0 ≤ f ∧ f < X.1.1 8 0 then (if lsU X.1.1 (X.1.1 4 0) = -99 then -99 else if wrgV X.1.1 (kndV X.1.1 f.toNat) (plU X.1.1 f.toNat).toNat = wrgV X.1.1 (kndV X.1.1 f.toNat) (rivU X.1.1 f.toNat) then 0 else if X.1.1 9 f.toNat ≠ -1 then 1 else if 0 < f ∧ X.1.1 4 0 < jmpV X.1.1 (plU X.1.1 (f.toNat - 1)).toNat (rivU X.1.1 f.toNat) then 2 else if f + 1 < X.1.1 8 0 ∧ X.1.1 4 0 < jmpV X.1.1 (rivU X.1.1 f.toNat) (plU X.1.1 (f.toNat + 1)).toNat then 3 else 4) else -1
theorem jmpV_b {U : Vw} (hU : WFV (-1) U) {x y : Nat} (hx : (x : Int) < U 0 0) (hy : (y : Int) < U 0 0) : 0 ≤ jmpV U x y ∧ jmpV U x y ≤ 9 := by
  have q1 := hU.2.1 x hx
  have q2 := hU.2.1 y hy
  unfold jmpV dstV
  omega
theorem wrgU_b {U : Vw} (hU : WFV (-1) U) {kd : Int} (hk0 : 0 ≤ kd) (hk1 : kd ≤ 9) {m : Nat} (hm : (m : Int) < U 0 0) : 0 ≤ wrgV U kd m ∧ wrgV U kd m ≤ 162 := by
  have hN := hU.2.2.2.1
  have h1 := hU.2.1 m hm
  unfold wrgV
  by_cases hc : kd = 9
  · rw [if_pos hc]
    omega
  · rw [if_neg hc]
    have h3 := hU.2.2.1 (kd * 4 + 2).toNat (by omega)
    have h4 := hU.2.2.1 (kd * 4 + 0).toNat (by omega)
    have h5 := hU.2.2.1 (kd * 4 + 1).toNat (by omega)
    generalize hd : ((U 1 m - U 3 (kd * 4 + 0).toNat).natAbs : Int) + ((U 2 m - U 3 (kd * 4 + 1).toNat).natAbs : Int) = D
    have hD : 0 ≤ D ∧ D ≤ 18 := by omega
    generalize U 3 (kd * 4 + 2).toNat = E at *
    refine ⟨Int.mul_nonneg h3.1 hD.1, ?_⟩
    have := Int.mul_le_mul h3.2 hD.2 hD.1 (by omega : (0 : Int) ≤ 9)
    omega
theorem rivU_lt {U : Vw} (hU : WFV (-1) U) (f : Nat) : (rivU U f : Int) < U 0 0 := by
  have b0 := hU.1
  have := amin_lt (f := fun m => wrgV U (kndV U f) m) (pM U) (by unfold pM; omega)
  unfold rivU
  unfold pM at *
  omega
theorem c_why (hX : RepC g ρ L h X) (hW : WFX X) {f : Int} (hf : i32 f) (hQ : CQ g ρ L (sWhy f X, X) Q) : WpM zt 76 [AR L, AI f] (g, ρ) Q := by
  obtain ⟨hLf, hN, -⟩ := id hX.1
  obtain ⟨hR, -⟩ := id hX.2.1
  have hU := hW.1.1
  have hWV := hR.wf (by omega) hU
  have hN1 := hN.1
  have hS := hN.2.1
  have e0 : g (ad (ad L 1) 1) 0 = X.1.1 0 0 := hR.l0
  have e5 : g (ad (ad L 1) 1) 5 = X.1.1 5 0 := hR.l5
  have e8 : g (ad (ad L 1) 1) 8 = X.1.1 8 0 := hR.l8
  have b0 := hU.1
  have b5 := hU.2.2.2.2.1
  have b8 := hU.2.2.2.2.2.2.1
  have hPl := hX.1.2.2.2.2.2.1
  unfold sWhy at hQ
  have hm1 := hasFrame_ok (zt := zt) (ρ := ρ) hS hWV (m := f) hf.1 hf.2
  rw [e8] at hm1
  by_cases c1' : ¬ (0 ≤ f ∧ f < X.1.1 8 0)
  · have c1 := c1'
    rw [b2_f c1] at hm1
    rw [if_neg c1] at hQ
    have q := hQ.ro hX
    simp only [m_L_why, b_L_why_0, P_L_why_18, b_L_why_18, P_L_why_39, b_L_why_39, P_L_why_86, b_L_why_86, P_L_why_99, b_L_why_99, P_L_why_127, b_L_why_127, P_L_why_161, b_L_why_161, wp_aln0, wp_aln2, wp_asn2, wp_bipush, wp_cv1, wp_cv2, wp_cv3, wp_cv4, wp_cv5, wp_cv6, wp_cv7, wp_iadd, wp_iald, wp_iceq, wp_icge, wp_icle, wp_icne, wp_iconst, wp_il4, wp_il5, wp_iln1, wp_iln3, wp_iret, wp_is4, wp_is5, wp_isn3, wp_isub, wp_izle, wp_izne, wp_zret, qsc_kd, qsc_k1, qsc_l1, qsc_gf1, qsc_k2, qsc_l2, qsc_gf2, qsc_k3, qsc_l3, qsc_gf3, qsc_k4, qsc_l4, qsc_gf4, qsc_k5, qsc_l5, qsc_gf6, qsc_k6, qsc_l6, qsc_gf7, qsc_k7, qsc_l7, qsc_gf9, qsc_k8, qsc_l8, qsc_gf10, qsc_gf0, qsc_pf0, qsc_gf5, qsc_pf5, qsc_gf8, qsc_pf8, qst_kd, qst_gf0, qst_k10, qst_l10, qst_gf1, qst_k29, qst_l29, qst_gf2, qlf_kd, qlf_gf0, qlf_k31, qlf_l31, qlf_gf1, qlf_gf3, qlf_gf4, qlf_gf5, qlf_gf6, qlf_k203, qlf_l203, qlf_gf7, qlf_gf2, qlf_pf2, qlf_gf8, qlf_pf8, wrI_row, cpI_row, row_s, row_n, row_ss, row_sw, upd_s, upd_n, ad_inj, ad_z, ad_z2, Nat.reduceEqDiff, reduceCtorEq, List.cons_append, List.nil_append, Option.toList_some, Option.toList_none, Int.toNat_natCast, List.length_cons, List.length_nil, Int.cast_ofNat_Int, Nat.reduceAdd, Nat.reduceLeDiff, Nat.reduceLT, Nat.reduceMul, Int.reduceAdd, Int.reduceSub, Int.reduceMul, Int.reduceNeg, Int.reduceLT, Int.reduceLE, Int.reduceEq, Int.reduceToNat, eq_self, true_and, and_true, true_or, or_true, false_or, or_false, if_true, if_false, not_true_eq_false, not_false_eq_true, and_self, ne_eq, hLf, hN1, hS, hm1]
    (repeat' (first | apply And.intro | split)) <;> first | omega | exact q
  have c1 := Classical.not_not.1 c1'
  rw [b2_t c1] at hm1
  rw [if_pos c1] at hQ
  obtain ⟨F, rfl⟩ := Int.eq_ofNat_of_zero_le c1.1
  rw [Int.toNat_natCast] at hQ
  obtain ⟨t1, t2, t3, t4, t5⟩ := plan_b hW
  simp only [m_L_why, b_L_why_0, P_L_why_18, b_L_why_18, wp_aln0, wp_aln2, wp_asn2, wp_bipush, wp_cv1, wp_cv2, wp_cv3, wp_cv4, wp_cv5, wp_cv6, wp_cv7, wp_iadd, wp_iald, wp_iceq, wp_icge, wp_icle, wp_icne, wp_iconst, wp_il4, wp_il5, wp_iln1, wp_iln3, wp_iret, wp_is4, wp_is5, wp_isn3, wp_isub, wp_izle, wp_izne, wp_zret, qsc_kd, qsc_k1, qsc_l1, qsc_gf1, qsc_k2, qsc_l2, qsc_gf2, qsc_k3, qsc_l3, qsc_gf3, qsc_k4, qsc_l4, qsc_gf4, qsc_k5, qsc_l5, qsc_gf6, qsc_k6, qsc_l6, qsc_gf7, qsc_k7, qsc_l7, qsc_gf9, qsc_k8, qsc_l8, qsc_gf10, qsc_gf0, qsc_pf0, qsc_gf5, qsc_pf5, qsc_gf8, qsc_pf8, qpl_kd, qpl_k1, qpl_l1, qpl_gf0, qpl_k2, qpl_l2, qpl_gf1, qpl_k3, qpl_l3, qpl_gf2, qpl_k4, qpl_l4, qpl_gf3, qpl_k5, qpl_l5, qpl_gf4, qpl_k6, qpl_l6, qpl_gf5, qpl_gf6, qpl_pf6, qpl_gf7, qpl_pf7, qpl_gf8, qpl_pf8, qst_kd, qst_gf0, qst_k10, qst_l10, qst_gf1, qst_k29, qst_l29, qst_gf2, qlf_kd, qlf_gf0, qlf_k31, qlf_l31, qlf_gf1, qlf_gf3, qlf_gf4, qlf_gf5, qlf_gf6, qlf_k203, qlf_l203, qlf_gf7, qlf_gf2, qlf_pf2, qlf_gf8, qlf_pf8, wrI_row, cpI_row, row_s, row_n, row_ss, row_sw, upd_s, upd_n, ad_inj, ad_z, ad_z2, Nat.reduceEqDiff, reduceCtorEq, List.cons_append, List.nil_append, Option.toList_some, Option.toList_none, Int.toNat_natCast, List.length_cons, List.length_nil, Int.cast_ofNat_Int, Nat.reduceAdd, Nat.reduceLeDiff, Nat.reduceLT, Nat.reduceMul, Int.reduceAdd, Int.reduceSub, Int.reduceMul, Int.reduceNeg, Int.reduceLT, Int.reduceLE, Int.reduceEq, Int.reduceToNat, eq_self, true_and, and_true, true_or, or_true, false_or, or_false, if_true, if_false, not_true_eq_false, not_false_eq_true, and_self, ne_eq, hLf, hN1, hS, hPl, hm1]
  refine prep_c hX hW (fun g2 q1 q2 => ?_)
  simp only [m_L_why, b_L_why_0, P_L_why_18, b_L_why_18, wp_aln0, wp_aln2, wp_asn2, wp_bipush, wp_cv1, wp_cv2, wp_cv3, wp_cv4, wp_cv5, wp_cv6, wp_cv7, wp_iadd, wp_iald, wp_iceq, wp_icge, wp_icle, wp_icne, wp_iconst, wp_il4, wp_il5, wp_iln1, wp_iln3, wp_iret, wp_is4, wp_is5, wp_isn3, wp_isub, wp_izle, wp_izne, wp_zret, qsc_kd, qsc_k1, qsc_l1, qsc_gf1, qsc_k2, qsc_l2, qsc_gf2, qsc_k3, qsc_l3, qsc_gf3, qsc_k4, qsc_l4, qsc_gf4, qsc_k5, qsc_l5, qsc_gf6, qsc_k6, qsc_l6, qsc_gf7, qsc_k7, qsc_l7, qsc_gf9, qsc_k8, qsc_l8, qsc_gf10, qsc_gf0, qsc_pf0, qsc_gf5, qsc_pf5, qsc_gf8, qsc_pf8, qpl_kd, qpl_k1, qpl_l1, qpl_gf0, qpl_k2, qpl_l2, qpl_gf1, qpl_k3, qpl_l3, qpl_gf2, qpl_k4, qpl_l4, qpl_gf3, qpl_k5, qpl_l5, qpl_gf4, qpl_k6, qpl_l6, qpl_gf5, qpl_gf6, qpl_pf6, qpl_gf7, qpl_pf7, qpl_gf8, qpl_pf8, qst_kd, qst_gf0, qst_k10, qst_l10, qst_gf1, qst_k29, qst_l29, qst_gf2, qlf_kd, qlf_gf0, qlf_k31, qlf_l31, qlf_gf1, qlf_gf3, qlf_gf4, qlf_gf5, qlf_gf6, qlf_k203, qlf_l203, qlf_gf7, qlf_gf2, qlf_pf2, qlf_gf8, qlf_pf8, wrI_row, cpI_row, row_s, row_n, row_ss, row_sw, upd_s, upd_n, ad_inj, ad_z, ad_z2, Nat.reduceEqDiff, reduceCtorEq, List.cons_append, List.nil_append, Option.toList_some, Option.toList_none, Int.toNat_natCast, List.length_cons, List.length_nil, Int.cast_ofNat_Int, Nat.reduceAdd, Nat.reduceLeDiff, Nat.reduceLT, Nat.reduceMul, Int.reduceAdd, Int.reduceSub, Int.reduceMul, Int.reduceNeg, Int.reduceLT, Int.reduceLE, Int.reduceEq, Int.reduceToNat, eq_self, true_and, and_true, true_or, or_true, false_or, or_false, if_true, if_false, not_true_eq_false, not_false_eq_true, and_self, ne_eq, hLf, hN1, hS, hPl]
  refine choose_ok hPl q2 t1 t2 t3 t4 t5 (fun f m => cstU_b hU f m) (fun R hR2 => ?_)
  have hlu : lstV (pF X.1.1) (pM X.1.1) (pH X.1.1) (cstV (-1) X.1.1) (clsV X.1.1 (X.1.1 4 0)) = lsU X.1.1 (X.1.1 4 0) := rfl
  rw [hlu]
  by_cases c9 : lsU X.1.1 (X.1.1 4 0) = -99
  · rw [if_pos c9] at hQ ⊢
    have q := hQ (setRow g2 (ad (ad L 194) 4) R) ρ h (hX.kept hW (fun x z1 z2 => by rw [row_n (by unfold ad at *; omega), q1 x (by unfold ad at *; omega)])) ⟨rfl, fun x z => ⟨rfl, by rw [row_n (by unfold ad at *; omega), q1 x (by unfold ad at *; omega)]⟩⟩
    simp only [m_L_why, b_L_why_0, P_L_why_18, b_L_why_18, wp_aln0, wp_aln2, wp_asn2, wp_bipush, wp_cv1, wp_cv2, wp_cv3, wp_cv4, wp_cv5, wp_cv6, wp_cv7, wp_iadd, wp_iald, wp_iceq, wp_icge, wp_icle, wp_icne, wp_iconst, wp_il4, wp_il5, wp_iln1, wp_iln3, wp_iret, wp_is4, wp_is5, wp_isn3, wp_isub, wp_izle, wp_izne, wp_zret, qsc_kd, qsc_k1, qsc_l1, qsc_gf1, qsc_k2, qsc_l2, qsc_gf2, qsc_k3, qsc_l3, qsc_gf3, qsc_k4, qsc_l4, qsc_gf4, qsc_k5, qsc_l5, qsc_gf6, qsc_k6, qsc_l6, qsc_gf7, qsc_k7, qsc_l7, qsc_gf9, qsc_k8, qsc_l8, qsc_gf10, qsc_gf0, qsc_pf0, qsc_gf5, qsc_pf5, qsc_gf8, qsc_pf8, qpl_kd, qpl_k1, qpl_l1, qpl_gf0, qpl_k2, qpl_l2, qpl_gf1, qpl_k3, qpl_l3, qpl_gf2, qpl_k4, qpl_l4, qpl_gf3, qpl_k5, qpl_l5, qpl_gf4, qpl_k6, qpl_l6, qpl_gf5, qpl_gf6, qpl_pf6, qpl_gf7, qpl_pf7, qpl_gf8, qpl_pf8, qst_kd, qst_gf0, qst_k10, qst_l10, qst_gf1, qst_k29, qst_l29, qst_gf2, qlf_kd, qlf_gf0, qlf_k31, qlf_l31, qlf_gf1, qlf_gf3, qlf_gf4, qlf_gf5, qlf_gf6, qlf_k203, qlf_l203, qlf_gf7, qlf_gf2, qlf_pf2, qlf_gf8, qlf_pf8, wrI_row, cpI_row, row_s, row_n, row_ss, row_sw, upd_s, upd_n, ad_inj, ad_z, ad_z2, Nat.reduceEqDiff, reduceCtorEq, List.cons_append, List.nil_append, Option.toList_some, Option.toList_none, Int.toNat_natCast, List.length_cons, List.length_nil, Int.cast_ofNat_Int, Nat.reduceAdd, Nat.reduceLeDiff, Nat.reduceLT, Nat.reduceMul, Int.reduceAdd, Int.reduceSub, Int.reduceMul, Int.reduceNeg, Int.reduceLT, Int.reduceLE, Int.reduceEq, Int.reduceToNat, eq_self, true_and, and_true, true_or, or_true, false_or, or_false, if_true, if_false, not_true_eq_false, not_false_eq_true, and_self, ne_eq, hLf, hN1, hS, hPl]
    (repeat' (first | apply And.intro | split)) <;> first | omega | exact q
  · rw [if_neg c9] at hQ ⊢
    have q := hQ (setRow (setRow g2 (ad (ad L 194) 4) R) (ad (ad L 194) 1) (plnR (g2 (ad (ad L 194) 1)) (pF X.1.1) (pM X.1.1) (pH X.1.1) (cstV (-1) X.1.1) (clsV X.1.1 (X.1.1 4 0)) (pF X.1.1))) ρ h (hX.kept hW (fun x z1 z2 => by rw [row_n (by unfold ad at *; omega), row_n (by unfold ad at *; omega), q1 x (by unfold ad at *; omega)])) ⟨rfl, fun x z => ⟨rfl, by rw [row_n (by unfold ad at *; omega), row_n (by unfold ad at *; omega), q1 x (by unfold ad at *; omega)]⟩⟩
    have hpl : ∀ y, y < pF X.1.1 → (setRow (setRow g2 (ad (ad L 194) 4) R) (ad (ad L 194) 1) (plnR (g2 (ad (ad L 194) 1)) (pF X.1.1) (pM X.1.1) (pH X.1.1) (cstV (-1) X.1.1) (clsV X.1.1 (X.1.1 4 0)) (pF X.1.1))) (ad (ad L 194) 1) y = plU X.1.1 y := fun y hy => by
      rw [row_s]
      exact if_pos hy
    have fr4 : ∀ x, (x < ad L 194 ∨ ad L 201 ≤ x) → (setRow (setRow g2 (ad (ad L 194) 4) R) (ad (ad L 194) 1) (plnR (g2 (ad (ad L 194) 1)) (pF X.1.1) (pM X.1.1) (pH X.1.1) (cstV (-1) X.1.1) (clsV X.1.1 (X.1.1 4 0)) (pF X.1.1))) x = g x := fun x z => by rw [row_n (by unfold ad at *; omega), row_n (by unfold ad at *; omega), q1 x z]
    generalize setRow (setRow g2 (ad (ad L 194) 4) R) (ad (ad L 194) 1) (plnR (g2 (ad (ad L 194) 1)) (pF X.1.1) (pM X.1.1) (pH X.1.1) (cstV (-1) X.1.1) (clsV X.1.1 (X.1.1 4 0)) (pF X.1.1)) = g4 at *
    have hv4 : vwC g4 (ad (ad L 1) 1) = vwC g (ad (ad L 1) 1) := vwC_kept (fun x z1 z2 => fr4 x (by unfold ad at *; omega))
    have hWV4 : WFV (-99) (vwC g4 (ad (ad L 1) 1)) := by rw [hv4]; exact hWV
    have hR4 : LR (-99) (vwC g4 (ad (ad L 1) 1)) X.1.1 := by rw [hv4]; exact hR
    have e0' : g4 (ad (ad L 1) 1) 0 = X.1.1 0 0 := hR4.l0
    have e8' : g4 (ad (ad L 1) 1) 8 = X.1.1 8 0 := hR4.l8
    have n0 : g4 (ad (ad (ad L 1) 1) 4) 0 = X.1.1 4 0 := hR4.l4 (by omega)
    have b4 := hU.2.2.2.1
    have b9 := (hU.2.2.2.2.2.2.2.2 F c1.2).1
    have r9 : g4 (ad (ad (ad L 1) 1) 7) F = nn (-99) (X.1.1 9 F) := hR4.l9 c1.2
    have hFp : F < pF X.1.1 := by unfold pF; omega
    have hkb := kndV_lt hU (f := F) c1.2
    have hka := kindAt_ok (zt := zt) (ρ := ρ) hS hWV4 (f := F) (by omega) (by omega)
    rw [hR4.knd hU c1.2] at hka
    have hpb := plU_b hU
    have hrl := rivU_lt hU F
    have hlw := leastWrongFor_ok (zt := zt) (ρ := ρ) hS hWV4 (kd := kndV X.1.1 F) hkb.1 hkb.2
    rw [e0', amin_eq (f' := fun m => wrgV X.1.1 (kndV X.1.1 F) m) _ (fun j hj => hR4.wrg hkb.1 hkb.2 (by omega))] at hlw
    change ∀ Q, WpM zt _ _ _ Q ↔ Q (some (AI (rivU X.1.1 F : Nat))) _ at hlw
    have hp0 := hpl F hFp
    have pb0 := hpb F
    have hw1 := wrongOf_ok (zt := zt) (ρ := ρ) hS hWV4 (kd := kndV X.1.1 F) (m := plU X.1.1 F) hkb.1 hkb.2 pb0.1 (by omega)
    rw [hR4.wrg hkb.1 hkb.2 (by omega)] at hw1
    have hw2 := wrongOf_ok (zt := zt) (ρ := ρ) hS hWV4 (kd := kndV X.1.1 F) (m := (rivU X.1.1 F : Nat)) hkb.1 hkb.2 (by omega) (by omega)
    rw [hR4.wrg hkb.1 hkb.2 (by omega), Int.toNat_natCast] at hw2
    have wb1 := wrgU_b hU hkb.1 hkb.2 (m := (plU X.1.1 F).toNat) (by omega)
    have wb2 := wrgU_b hU hkb.1 hkb.2 (m := rivU X.1.1 F) hrl
    generalize wrgV X.1.1 (kndV X.1.1 F) (plU X.1.1 F).toNat = w1 at *
    generalize wrgV X.1.1 (kndV X.1.1 F) (rivU X.1.1 F) = w2 at *
    generalize rivU X.1.1 F = rv at *
    have k161 : Q (some (AI 4)) (g4, ρ) → Wp zt 76 (P 76 161) [some (AR L), some (AI F), some (AR (ad (ad L 1) 1)), some (AI (kndV X.1.1 F)), some (AI rv), some (AI (X.1.1 4 0))] [] (g4, ρ) Q := by
      intro z
      rw [P_L_why_161]
      simp only [m_L_why, b_L_why_0, P_L_why_18, b_L_why_18, wp_aln0, wp_aln2, wp_asn2, wp_bipush, wp_cv1, wp_cv2, wp_cv3, wp_cv4, wp_cv5, wp_cv6, wp_cv7, wp_iadd, wp_iald, wp_iceq, wp_icge, wp_icle, wp_icne, wp_iconst, wp_il4, wp_il5, wp_iln1, wp_iln3, wp_iret, wp_is4, wp_is5, wp_isn3, wp_isub, wp_izle, wp_izne, wp_zret, qlf_kd, qlf_gf0, qlf_k31, qlf_l31, qlf_gf1, qlf_gf3, qlf_gf4, qlf_gf5, qlf_gf6, qlf_k203, qlf_l203, qlf_gf7, qlf_gf2, qlf_pf2, qlf_gf8, qlf_pf8, wrI_row, cpI_row, row_s, row_n, row_ss, row_sw, upd_s, upd_n, ad_inj, ad_z, ad_z2, Nat.reduceEqDiff, reduceCtorEq, List.cons_append, List.nil_append, Option.toList_some, Option.toList_none, Int.toNat_natCast, List.length_cons, List.length_nil, Int.cast_ofNat_Int, Nat.reduceAdd, Nat.reduceLeDiff, Nat.reduceLT, Nat.reduceMul, Int.reduceAdd, Int.reduceSub, Int.reduceMul, Int.reduceNeg, Int.reduceLT, Int.reduceLE, Int.reduceEq, Int.reduceToNat, eq_self, true_and, and_true, true_or, or_true, false_or, or_false, if_true, if_false, not_true_eq_false, not_false_eq_true, and_self, ne_eq, b_L_why_161]
      exact z
    have k127 : Q (some (AI (if (F : Int) + 1 < X.1.1 8 0 ∧ X.1.1 4 0 < jmpV X.1.1 rv (plU X.1.1 (F + 1)).toNat then 3 else 4))) (g4, ρ) → Wp zt 76 (P 76 127) [some (AR L), some (AI F), some (AR (ad (ad L 1) 1)), some (AI (kndV X.1.1 F)), some (AI rv), some (AI (X.1.1 4 0))] [] (g4, ρ) Q := by
      intro z
      by_cases cF : (F : Int) + 1 < X.1.1 8 0
      · have hp1 := hpl (F + 1) (by unfold pF; omega)
        have pb1 := hpb (F + 1)
        have ei : ((F : Int) + 1).toNat = F + 1 := by omega
        have hj := jumpOf_ok (zt := zt) (ρ := ρ) hS hWV4 (x := rv) (y := plU X.1.1 (F + 1)) (by omega) (by omega) pb1.1 (by omega)
        rw [hR4.jmp (by omega) (by omega), Int.toNat_natCast] at hj
        have jb := jmpV_b hU (x := rv) (y := (plU X.1.1 (F + 1)).toNat) hrl (by omega)
        generalize jmpV X.1.1 rv (plU X.1.1 (F + 1)).toNat = jj at *
        by_cases c : X.1.1 4 0 < jj
        · rw [if_pos ⟨cF, c⟩] at z
          rw [P_L_why_127]
          simp only [m_L_why, b_L_why_0, P_L_why_18, b_L_why_18, wp_aln0, wp_aln2, wp_asn2, wp_bipush, wp_cv1, wp_cv2, wp_cv3, wp_cv4, wp_cv5, wp_cv6, wp_cv7, wp_iadd, wp_iald, wp_iceq, wp_icge, wp_icle, wp_icne, wp_iconst, wp_il4, wp_il5, wp_iln1, wp_iln3, wp_iret, wp_is4, wp_is5, wp_isn3, wp_isub, wp_izle, wp_izne, wp_zret, qsc_kd, qsc_k1, qsc_l1, qsc_gf1, qsc_k2, qsc_l2, qsc_gf2, qsc_k3, qsc_l3, qsc_gf3, qsc_k4, qsc_l4, qsc_gf4, qsc_k5, qsc_l5, qsc_gf6, qsc_k6, qsc_l6, qsc_gf7, qsc_k7, qsc_l7, qsc_gf9, qsc_k8, qsc_l8, qsc_gf10, qsc_gf0, qsc_pf0, qsc_gf5, qsc_pf5, qsc_gf8, qsc_pf8, qpl_kd, qpl_k1, qpl_l1, qpl_gf0, qpl_k2, qpl_l2, qpl_gf1, qpl_k3, qpl_l3, qpl_gf2, qpl_k4, qpl_l4, qpl_gf3, qpl_k5, qpl_l5, qpl_gf4, qpl_k6, qpl_l6, qpl_gf5, qpl_gf6, qpl_pf6, qpl_gf7, qpl_pf7, qpl_gf8, qpl_pf8, qst_kd, qst_gf0, qst_k10, qst_l10, qst_gf1, qst_k29, qst_l29, qst_gf2, qlf_kd, qlf_gf0, qlf_k31, qlf_l31, qlf_gf1, qlf_gf3, qlf_gf4, qlf_gf5, qlf_gf6, qlf_k203, qlf_l203, qlf_gf7, qlf_gf2, qlf_pf2, qlf_gf8, qlf_pf8, wrI_row, cpI_row, row_s, row_n, row_ss, row_sw, upd_s, upd_n, ad_inj, ad_z, ad_z2, Nat.reduceEqDiff, reduceCtorEq, List.cons_append, List.nil_append, Option.toList_some, Option.toList_none, Int.toNat_natCast, List.length_cons, List.length_nil, Int.cast_ofNat_Int, Nat.reduceAdd, Nat.reduceLeDiff, Nat.reduceLT, Nat.reduceMul, Int.reduceAdd, Int.reduceSub, Int.reduceMul, Int.reduceNeg, Int.reduceLT, Int.reduceLE, Int.reduceEq, Int.reduceToNat, eq_self, true_and, and_true, true_or, or_true, false_or, or_false, if_true, if_false, not_true_eq_false, not_false_eq_true, and_self, ne_eq, b_L_why_127, hLf, hN1, hS, hPl, e8', ei, hp1, hj]
          (repeat' (first | apply And.intro | split)) <;> first | omega | exact z
        · rw [if_neg (fun w => c w.2)] at z
          have z2 := k161 z
          rw [P_L_why_127]
          simp only [m_L_why, b_L_why_0, P_L_why_18, b_L_why_18, wp_aln0, wp_aln2, wp_asn2, wp_bipush, wp_cv1, wp_cv2, wp_cv3, wp_cv4, wp_cv5, wp_cv6, wp_cv7, wp_iadd, wp_iald, wp_iceq, wp_icge, wp_icle, wp_icne, wp_iconst, wp_il4, wp_il5, wp_iln1, wp_iln3, wp_iret, wp_is4, wp_is5, wp_isn3, wp_isub, wp_izle, wp_izne, wp_zret, qsc_kd, qsc_k1, qsc_l1, qsc_gf1, qsc_k2, qsc_l2, qsc_gf2, qsc_k3, qsc_l3, qsc_gf3, qsc_k4, qsc_l4, qsc_gf4, qsc_k5, qsc_l5, qsc_gf6, qsc_k6, qsc_l6, qsc_gf7, qsc_k7, qsc_l7, qsc_gf9, qsc_k8, qsc_l8, qsc_gf10, qsc_gf0, qsc_pf0, qsc_gf5, qsc_pf5, qsc_gf8, qsc_pf8, qpl_kd, qpl_k1, qpl_l1, qpl_gf0, qpl_k2, qpl_l2, qpl_gf1, qpl_k3, qpl_l3, qpl_gf2, qpl_k4, qpl_l4, qpl_gf3, qpl_k5, qpl_l5, qpl_gf4, qpl_k6, qpl_l6, qpl_gf5, qpl_gf6, qpl_pf6, qpl_gf7, qpl_pf7, qpl_gf8, qpl_pf8, qst_kd, qst_gf0, qst_k10, qst_l10, qst_gf1, qst_k29, qst_l29, qst_gf2, qlf_kd, qlf_gf0, qlf_k31, qlf_l31, qlf_gf1, qlf_gf3, qlf_gf4, qlf_gf5, qlf_gf6, qlf_k203, qlf_l203, qlf_gf7, qlf_gf2, qlf_pf2, qlf_gf8, qlf_pf8, wrI_row, cpI_row, row_s, row_n, row_ss, row_sw, upd_s, upd_n, ad_inj, ad_z, ad_z2, Nat.reduceEqDiff, reduceCtorEq, List.cons_append, List.nil_append, Option.toList_some, Option.toList_none, Int.toNat_natCast, List.length_cons, List.length_nil, Int.cast_ofNat_Int, Nat.reduceAdd, Nat.reduceLeDiff, Nat.reduceLT, Nat.reduceMul, Int.reduceAdd, Int.reduceSub, Int.reduceMul, Int.reduceNeg, Int.reduceLT, Int.reduceLE, Int.reduceEq, Int.reduceToNat, eq_self, true_and, and_true, true_or, or_true, false_or, or_false, if_true, if_false, not_true_eq_false, not_false_eq_true, and_self, ne_eq, b_L_why_127, hLf, hN1, hS, hPl, e8', ei, hp1, hj]
          (repeat' (first | apply And.intro | split)) <;> first | omega | exact z2
      · rw [if_neg (fun w => cF w.1)] at z
        have z2 := k161 z
        rw [P_L_why_127]
        simp only [m_L_why, b_L_why_0, P_L_why_18, b_L_why_18, wp_aln0, wp_aln2, wp_asn2, wp_bipush, wp_cv1, wp_cv2, wp_cv3, wp_cv4, wp_cv5, wp_cv6, wp_cv7, wp_iadd, wp_iald, wp_iceq, wp_icge, wp_icle, wp_icne, wp_iconst, wp_il4, wp_il5, wp_iln1, wp_iln3, wp_iret, wp_is4, wp_is5, wp_isn3, wp_isub, wp_izle, wp_izne, wp_zret, qsc_kd, qsc_k1, qsc_l1, qsc_gf1, qsc_k2, qsc_l2, qsc_gf2, qsc_k3, qsc_l3, qsc_gf3, qsc_k4, qsc_l4, qsc_gf4, qsc_k5, qsc_l5, qsc_gf6, qsc_k6, qsc_l6, qsc_gf7, qsc_k7, qsc_l7, qsc_gf9, qsc_k8, qsc_l8, qsc_gf10, qsc_gf0, qsc_pf0, qsc_gf5, qsc_pf5, qsc_gf8, qsc_pf8, qpl_kd, qpl_k1, qpl_l1, qpl_gf0, qpl_k2, qpl_l2, qpl_gf1, qpl_k3, qpl_l3, qpl_gf2, qpl_k4, qpl_l4, qpl_gf3, qpl_k5, qpl_l5, qpl_gf4, qpl_k6, qpl_l6, qpl_gf5, qpl_gf6, qpl_pf6, qpl_gf7, qpl_pf7, qpl_gf8, qpl_pf8, qst_kd, qst_gf0, qst_k10, qst_l10, qst_gf1, qst_k29, qst_l29, qst_gf2, qlf_kd, qlf_gf0, qlf_k31, qlf_l31, qlf_gf1, qlf_gf3, qlf_gf4, qlf_gf5, qlf_gf6, qlf_k203, qlf_l203, qlf_gf7, qlf_gf2, qlf_pf2, qlf_gf8, qlf_pf8, wrI_row, cpI_row, row_s, row_n, row_ss, row_sw, upd_s, upd_n, ad_inj, ad_z, ad_z2, Nat.reduceEqDiff, reduceCtorEq, List.cons_append, List.nil_append, Option.toList_some, Option.toList_none, Int.toNat_natCast, List.length_cons, List.length_nil, Int.cast_ofNat_Int, Nat.reduceAdd, Nat.reduceLeDiff, Nat.reduceLT, Nat.reduceMul, Int.reduceAdd, Int.reduceSub, Int.reduceMul, Int.reduceNeg, Int.reduceLT, Int.reduceLE, Int.reduceEq, Int.reduceToNat, eq_self, true_and, and_true, true_or, or_true, false_or, or_false, if_true, if_false, not_true_eq_false, not_false_eq_true, and_self, ne_eq, b_L_why_127, hLf, hN1, hS, hPl, e8']
        (repeat' (first | apply And.intro | split)) <;> first | omega | exact z2
    have k99 : Q (some (AI (if 0 < (F : Int) ∧ X.1.1 4 0 < jmpV X.1.1 (plU X.1.1 (F - 1)).toNat rv then 2 else if (F : Int) + 1 < X.1.1 8 0 ∧ X.1.1 4 0 < jmpV X.1.1 rv (plU X.1.1 (F + 1)).toNat then 3 else 4))) (g4, ρ) → Wp zt 76 (P 76 99) [some (AR L), some (AI F), some (AR (ad (ad L 1) 1)), some (AI (kndV X.1.1 F)), some (AI rv), some (AI (X.1.1 4 0))] [] (g4, ρ) Q := by
      intro z
      by_cases cF : 0 < (F : Int)
      · obtain ⟨F2, rfl⟩ : ∃ F2, F = F2 + 1 := ⟨F - 1, by omega⟩
        rw [show F2 + 1 - 1 = F2 by omega] at z
        have hp1 := hpl F2 (by omega)
        have pb1 := hpb F2
        have ei : (((F2 + 1 : Nat) : Int) - 1).toNat = F2 := by omega
        have hj := jumpOf_ok (zt := zt) (ρ := ρ) hS hWV4 (x := plU X.1.1 F2) (y := rv) pb1.1 (by omega) (by omega) (by omega)
        rw [hR4.jmp (by omega) (by omega), Int.toNat_natCast] at hj
        have jb := jmpV_b hU (x := (plU X.1.1 F2).toNat) (y := rv) (by omega) hrl
        generalize jmpV X.1.1 (plU X.1.1 F2).toNat rv = jj at *
        by_cases c : X.1.1 4 0 < jj
        · rw [if_pos ⟨cF, c⟩] at z
          rw [P_L_why_99]
          simp only [m_L_why, b_L_why_0, P_L_why_18, b_L_why_18, wp_aln0, wp_aln2, wp_asn2, wp_bipush, wp_cv1, wp_cv2, wp_cv3, wp_cv4, wp_cv5, wp_cv6, wp_cv7, wp_iadd, wp_iald, wp_iceq, wp_icge, wp_icle, wp_icne, wp_iconst, wp_il4, wp_il5, wp_iln1, wp_iln3, wp_iret, wp_is4, wp_is5, wp_isn3, wp_isub, wp_izle, wp_izne, wp_zret, qsc_kd, qsc_k1, qsc_l1, qsc_gf1, qsc_k2, qsc_l2, qsc_gf2, qsc_k3, qsc_l3, qsc_gf3, qsc_k4, qsc_l4, qsc_gf4, qsc_k5, qsc_l5, qsc_gf6, qsc_k6, qsc_l6, qsc_gf7, qsc_k7, qsc_l7, qsc_gf9, qsc_k8, qsc_l8, qsc_gf10, qsc_gf0, qsc_pf0, qsc_gf5, qsc_pf5, qsc_gf8, qsc_pf8, qpl_kd, qpl_k1, qpl_l1, qpl_gf0, qpl_k2, qpl_l2, qpl_gf1, qpl_k3, qpl_l3, qpl_gf2, qpl_k4, qpl_l4, qpl_gf3, qpl_k5, qpl_l5, qpl_gf4, qpl_k6, qpl_l6, qpl_gf5, qpl_gf6, qpl_pf6, qpl_gf7, qpl_pf7, qpl_gf8, qpl_pf8, qst_kd, qst_gf0, qst_k10, qst_l10, qst_gf1, qst_k29, qst_l29, qst_gf2, qlf_kd, qlf_gf0, qlf_k31, qlf_l31, qlf_gf1, qlf_gf3, qlf_gf4, qlf_gf5, qlf_gf6, qlf_k203, qlf_l203, qlf_gf7, qlf_gf2, qlf_pf2, qlf_gf8, qlf_pf8, wrI_row, cpI_row, row_s, row_n, row_ss, row_sw, upd_s, upd_n, ad_inj, ad_z, ad_z2, Nat.reduceEqDiff, reduceCtorEq, List.cons_append, List.nil_append, Option.toList_some, Option.toList_none, Int.toNat_natCast, List.length_cons, List.length_nil, Int.cast_ofNat_Int, Nat.reduceAdd, Nat.reduceLeDiff, Nat.reduceLT, Nat.reduceMul, Int.reduceAdd, Int.reduceSub, Int.reduceMul, Int.reduceNeg, Int.reduceLT, Int.reduceLE, Int.reduceEq, Int.reduceToNat, eq_self, true_and, and_true, true_or, or_true, false_or, or_false, if_true, if_false, not_true_eq_false, not_false_eq_true, and_self, ne_eq, b_L_why_99, hLf, hN1, hS, hPl, ei, hp1, hj]
          (repeat' (first | apply And.intro | split)) <;> first | omega | exact z
        · rw [if_neg (fun w => c w.2)] at z
          have z2 := k127 z
          rw [P_L_why_99]
          simp only [m_L_why, b_L_why_0, P_L_why_18, b_L_why_18, wp_aln0, wp_aln2, wp_asn2, wp_bipush, wp_cv1, wp_cv2, wp_cv3, wp_cv4, wp_cv5, wp_cv6, wp_cv7, wp_iadd, wp_iald, wp_iceq, wp_icge, wp_icle, wp_icne, wp_iconst, wp_il4, wp_il5, wp_iln1, wp_iln3, wp_iret, wp_is4, wp_is5, wp_isn3, wp_isub, wp_izle, wp_izne, wp_zret, qsc_kd, qsc_k1, qsc_l1, qsc_gf1, qsc_k2, qsc_l2, qsc_gf2, qsc_k3, qsc_l3, qsc_gf3, qsc_k4, qsc_l4, qsc_gf4, qsc_k5, qsc_l5, qsc_gf6, qsc_k6, qsc_l6, qsc_gf7, qsc_k7, qsc_l7, qsc_gf9, qsc_k8, qsc_l8, qsc_gf10, qsc_gf0, qsc_pf0, qsc_gf5, qsc_pf5, qsc_gf8, qsc_pf8, qpl_kd, qpl_k1, qpl_l1, qpl_gf0, qpl_k2, qpl_l2, qpl_gf1, qpl_k3, qpl_l3, qpl_gf2, qpl_k4, qpl_l4, qpl_gf3, qpl_k5, qpl_l5, qpl_gf4, qpl_k6, qpl_l6, qpl_gf5, qpl_gf6, qpl_pf6, qpl_gf7, qpl_pf7, qpl_gf8, qpl_pf8, qst_kd, qst_gf0, qst_k10, qst_l10, qst_gf1, qst_k29, qst_l29, qst_gf2, qlf_kd, qlf_gf0, qlf_k31, qlf_l31, qlf_gf1, qlf_gf3, qlf_gf4, qlf_gf5, qlf_gf6, qlf_k203, qlf_l203, qlf_gf7, qlf_gf2, qlf_pf2, qlf_gf8, qlf_pf8, wrI_row, cpI_row, row_s, row_n, row_ss, row_sw, upd_s, upd_n, ad_inj, ad_z, ad_z2, Nat.reduceEqDiff, reduceCtorEq, List.cons_append, List.nil_append, Option.toList_some, Option.toList_none, Int.toNat_natCast, List.length_cons, List.length_nil, Int.cast_ofNat_Int, Nat.reduceAdd, Nat.reduceLeDiff, Nat.reduceLT, Nat.reduceMul, Int.reduceAdd, Int.reduceSub, Int.reduceMul, Int.reduceNeg, Int.reduceLT, Int.reduceLE, Int.reduceEq, Int.reduceToNat, eq_self, true_and, and_true, true_or, or_true, false_or, or_false, if_true, if_false, not_true_eq_false, not_false_eq_true, and_self, ne_eq, b_L_why_99, hLf, hN1, hS, hPl, ei, hp1, hj]
          (repeat' (first | apply And.intro | split)) <;> first | omega | exact z2
      · rw [if_neg (fun w => cF w.1)] at z
        have z2 := k127 z
        rw [P_L_why_99]
        simp only [m_L_why, b_L_why_0, P_L_why_18, b_L_why_18, wp_aln0, wp_aln2, wp_asn2, wp_bipush, wp_cv1, wp_cv2, wp_cv3, wp_cv4, wp_cv5, wp_cv6, wp_cv7, wp_iadd, wp_iald, wp_iceq, wp_icge, wp_icle, wp_icne, wp_iconst, wp_il4, wp_il5, wp_iln1, wp_iln3, wp_iret, wp_is4, wp_is5, wp_isn3, wp_isub, wp_izle, wp_izne, wp_zret, qsc_kd, qsc_k1, qsc_l1, qsc_gf1, qsc_k2, qsc_l2, qsc_gf2, qsc_k3, qsc_l3, qsc_gf3, qsc_k4, qsc_l4, qsc_gf4, qsc_k5, qsc_l5, qsc_gf6, qsc_k6, qsc_l6, qsc_gf7, qsc_k7, qsc_l7, qsc_gf9, qsc_k8, qsc_l8, qsc_gf10, qsc_gf0, qsc_pf0, qsc_gf5, qsc_pf5, qsc_gf8, qsc_pf8, qpl_kd, qpl_k1, qpl_l1, qpl_gf0, qpl_k2, qpl_l2, qpl_gf1, qpl_k3, qpl_l3, qpl_gf2, qpl_k4, qpl_l4, qpl_gf3, qpl_k5, qpl_l5, qpl_gf4, qpl_k6, qpl_l6, qpl_gf5, qpl_gf6, qpl_pf6, qpl_gf7, qpl_pf7, qpl_gf8, qpl_pf8, qst_kd, qst_gf0, qst_k10, qst_l10, qst_gf1, qst_k29, qst_l29, qst_gf2, qlf_kd, qlf_gf0, qlf_k31, qlf_l31, qlf_gf1, qlf_gf3, qlf_gf4, qlf_gf5, qlf_gf6, qlf_k203, qlf_l203, qlf_gf7, qlf_gf2, qlf_pf2, qlf_gf8, qlf_pf8, wrI_row, cpI_row, row_s, row_n, row_ss, row_sw, upd_s, upd_n, ad_inj, ad_z, ad_z2, Nat.reduceEqDiff, reduceCtorEq, List.cons_append, List.nil_append, Option.toList_some, Option.toList_none, Int.toNat_natCast, List.length_cons, List.length_nil, Int.cast_ofNat_Int, Nat.reduceAdd, Nat.reduceLeDiff, Nat.reduceLT, Nat.reduceMul, Int.reduceAdd, Int.reduceSub, Int.reduceMul, Int.reduceNeg, Int.reduceLT, Int.reduceLE, Int.reduceEq, Int.reduceToNat, eq_self, true_and, and_true, true_or, or_true, false_or, or_false, if_true, if_false, not_true_eq_false, not_false_eq_true, and_self, ne_eq, b_L_why_99, hLf, hN1, hS, hPl]
        (repeat' (first | apply And.intro | split)) <;> first | omega | exact z2
    by_cases cw : w1 = w2
    · rw [if_pos cw] at q
      simp only [m_L_why, b_L_why_0, P_L_why_18, b_L_why_18, P_L_why_39, b_L_why_39, wp_aln0, wp_aln2, wp_asn2, wp_bipush, wp_cv1, wp_cv2, wp_cv3, wp_cv4, wp_cv5, wp_cv6, wp_cv7, wp_iadd, wp_iald, wp_iceq, wp_icge, wp_icle, wp_icne, wp_iconst, wp_il4, wp_il5, wp_iln1, wp_iln3, wp_iret, wp_is4, wp_is5, wp_isn3, wp_isub, wp_izle, wp_izne, wp_zret, qsc_kd, qsc_k1, qsc_l1, qsc_gf1, qsc_k2, qsc_l2, qsc_gf2, qsc_k3, qsc_l3, qsc_gf3, qsc_k4, qsc_l4, qsc_gf4, qsc_k5, qsc_l5, qsc_gf6, qsc_k6, qsc_l6, qsc_gf7, qsc_k7, qsc_l7, qsc_gf9, qsc_k8, qsc_l8, qsc_gf10, qsc_gf0, qsc_pf0, qsc_gf5, qsc_pf5, qsc_gf8, qsc_pf8, qpl_kd, qpl_k1, qpl_l1, qpl_gf0, qpl_k2, qpl_l2, qpl_gf1, qpl_k3, qpl_l3, qpl_gf2, qpl_k4, qpl_l4, qpl_gf3, qpl_k5, qpl_l5, qpl_gf4, qpl_k6, qpl_l6, qpl_gf5, qpl_gf6, qpl_pf6, qpl_gf7, qpl_pf7, qpl_gf8, qpl_pf8, qst_kd, qst_gf0, qst_k10, qst_l10, qst_gf1, qst_k29, qst_l29, qst_gf2, qlf_kd, qlf_gf0, qlf_k31, qlf_l31, qlf_gf1, qlf_gf3, qlf_gf4, qlf_gf5, qlf_gf6, qlf_k203, qlf_l203, qlf_gf7, qlf_gf2, qlf_pf2, qlf_gf8, qlf_pf8, wrI_row, cpI_row, row_s, row_n, row_ss, row_sw, upd_s, upd_n, ad_inj, ad_z, ad_z2, Nat.reduceEqDiff, reduceCtorEq, List.cons_append, List.nil_append, Option.toList_some, Option.toList_none, Int.toNat_natCast, List.length_cons, List.length_nil, Int.cast_ofNat_Int, Nat.reduceAdd, Nat.reduceLeDiff, Nat.reduceLT, Nat.reduceMul, Int.reduceAdd, Int.reduceSub, Int.reduceMul, Int.reduceNeg, Int.reduceLT, Int.reduceLE, Int.reduceEq, Int.reduceToNat, eq_self, true_and, and_true, true_or, or_true, false_or, or_false, if_true, if_false, not_true_eq_false, not_false_eq_true, and_self, ne_eq, b_L_why_39, P_L_why_39, hLf, hN1, hS, hPl, hka, hlw, n0, hp0, hw1, hw2]
      (repeat' (first | apply And.intro | split)) <;> first | omega | exact q
    · rw [if_neg cw] at q
      have k86 : Wp zt 76 (P 76 86) [some (AR L), some (AI F), some (AR (ad (ad L 1) 1)), some (AI (kndV X.1.1 F)), some (AI rv), some (AI (X.1.1 4 0))] [] (g4, ρ) Q := by
        by_cases c9' : X.1.1 9 F = -1
        · rw [if_neg (fun w => w c9')] at q
          rw [show nn (-99) (X.1.1 9 F) = -99 from if_pos c9'] at r9
          have z2 := k99 q
          rw [P_L_why_86]
          simp only [m_L_why, b_L_why_0, P_L_why_18, b_L_why_18, wp_aln0, wp_aln2, wp_asn2, wp_bipush, wp_cv1, wp_cv2, wp_cv3, wp_cv4, wp_cv5, wp_cv6, wp_cv7, wp_iadd, wp_iald, wp_iceq, wp_icge, wp_icle, wp_icne, wp_iconst, wp_il4, wp_il5, wp_iln1, wp_iln3, wp_iret, wp_is4, wp_is5, wp_isn3, wp_isub, wp_izle, wp_izne, wp_zret, qsc_kd, qsc_k1, qsc_l1, qsc_gf1, qsc_k2, qsc_l2, qsc_gf2, qsc_k3, qsc_l3, qsc_gf3, qsc_k4, qsc_l4, qsc_gf4, qsc_k5, qsc_l5, qsc_gf6, qsc_k6, qsc_l6, qsc_gf7, qsc_k7, qsc_l7, qsc_gf9, qsc_k8, qsc_l8, qsc_gf10, qsc_gf0, qsc_pf0, qsc_gf5, qsc_pf5, qsc_gf8, qsc_pf8, qpl_kd, qpl_k1, qpl_l1, qpl_gf0, qpl_k2, qpl_l2, qpl_gf1, qpl_k3, qpl_l3, qpl_gf2, qpl_k4, qpl_l4, qpl_gf3, qpl_k5, qpl_l5, qpl_gf4, qpl_k6, qpl_l6, qpl_gf5, qpl_gf6, qpl_pf6, qpl_gf7, qpl_pf7, qpl_gf8, qpl_pf8, qst_kd, qst_gf0, qst_k10, qst_l10, qst_gf1, qst_k29, qst_l29, qst_gf2, qlf_kd, qlf_gf0, qlf_k31, qlf_l31, qlf_gf1, qlf_gf3, qlf_gf4, qlf_gf5, qlf_gf6, qlf_k203, qlf_l203, qlf_gf7, qlf_gf2, qlf_pf2, qlf_gf8, qlf_pf8, wrI_row, cpI_row, row_s, row_n, row_ss, row_sw, upd_s, upd_n, ad_inj, ad_z, ad_z2, Nat.reduceEqDiff, reduceCtorEq, List.cons_append, List.nil_append, Option.toList_some, Option.toList_none, Int.toNat_natCast, List.length_cons, List.length_nil, Int.cast_ofNat_Int, Nat.reduceAdd, Nat.reduceLeDiff, Nat.reduceLT, Nat.reduceMul, Int.reduceAdd, Int.reduceSub, Int.reduceMul, Int.reduceNeg, Int.reduceLT, Int.reduceLE, Int.reduceEq, Int.reduceToNat, eq_self, true_and, and_true, true_or, or_true, false_or, or_false, if_true, if_false, not_true_eq_false, not_false_eq_true, and_self, ne_eq, b_L_why_86, hLf, hN1, hS, hPl, r9]
          (repeat' (first | apply And.intro | split)) <;> first | omega | exact z2
        · rw [if_pos c9'] at q
          rw [show nn (-99) (X.1.1 9 F) = X.1.1 9 F from if_neg c9'] at r9
          rw [P_L_why_86]
          simp only [m_L_why, b_L_why_0, P_L_why_18, b_L_why_18, wp_aln0, wp_aln2, wp_asn2, wp_bipush, wp_cv1, wp_cv2, wp_cv3, wp_cv4, wp_cv5, wp_cv6, wp_cv7, wp_iadd, wp_iald, wp_iceq, wp_icge, wp_icle, wp_icne, wp_iconst, wp_il4, wp_il5, wp_iln1, wp_iln3, wp_iret, wp_is4, wp_is5, wp_isn3, wp_isub, wp_izle, wp_izne, wp_zret, qsc_kd, qsc_k1, qsc_l1, qsc_gf1, qsc_k2, qsc_l2, qsc_gf2, qsc_k3, qsc_l3, qsc_gf3, qsc_k4, qsc_l4, qsc_gf4, qsc_k5, qsc_l5, qsc_gf6, qsc_k6, qsc_l6, qsc_gf7, qsc_k7, qsc_l7, qsc_gf9, qsc_k8, qsc_l8, qsc_gf10, qsc_gf0, qsc_pf0, qsc_gf5, qsc_pf5, qsc_gf8, qsc_pf8, qpl_kd, qpl_k1, qpl_l1, qpl_gf0, qpl_k2, qpl_l2, qpl_gf1, qpl_k3, qpl_l3, qpl_gf2, qpl_k4, qpl_l4, qpl_gf3, qpl_k5, qpl_l5, qpl_gf4, qpl_k6, qpl_l6, qpl_gf5, qpl_gf6, qpl_pf6, qpl_gf7, qpl_pf7, qpl_gf8, qpl_pf8, qst_kd, qst_gf0, qst_k10, qst_l10, qst_gf1, qst_k29, qst_l29, qst_gf2, qlf_kd, qlf_gf0, qlf_k31, qlf_l31, qlf_gf1, qlf_gf3, qlf_gf4, qlf_gf5, qlf_gf6, qlf_k203, qlf_l203, qlf_gf7, qlf_gf2, qlf_pf2, qlf_gf8, qlf_pf8, wrI_row, cpI_row, row_s, row_n, row_ss, row_sw, upd_s, upd_n, ad_inj, ad_z, ad_z2, Nat.reduceEqDiff, reduceCtorEq, List.cons_append, List.nil_append, Option.toList_some, Option.toList_none, Int.toNat_natCast, List.length_cons, List.length_nil, Int.cast_ofNat_Int, Nat.reduceAdd, Nat.reduceLeDiff, Nat.reduceLT, Nat.reduceMul, Int.reduceAdd, Int.reduceSub, Int.reduceMul, Int.reduceNeg, Int.reduceLT, Int.reduceLE, Int.reduceEq, Int.reduceToNat, eq_self, true_and, and_true, true_or, or_true, false_or, or_false, if_true, if_false, not_true_eq_false, not_false_eq_true, and_self, ne_eq, b_L_why_86, hLf, hN1, hS, hPl, r9]
          (repeat' (first | apply And.intro | split)) <;> first | omega | exact q
      simp only [m_L_why, b_L_why_0, P_L_why_18, b_L_why_18, P_L_why_39, b_L_why_39, wp_aln0, wp_aln2, wp_asn2, wp_bipush, wp_cv1, wp_cv2, wp_cv3, wp_cv4, wp_cv5, wp_cv6, wp_cv7, wp_iadd, wp_iald, wp_iceq, wp_icge, wp_icle, wp_icne, wp_iconst, wp_il4, wp_il5, wp_iln1, wp_iln3, wp_iret, wp_is4, wp_is5, wp_isn3, wp_isub, wp_izle, wp_izne, wp_zret, qsc_kd, qsc_k1, qsc_l1, qsc_gf1, qsc_k2, qsc_l2, qsc_gf2, qsc_k3, qsc_l3, qsc_gf3, qsc_k4, qsc_l4, qsc_gf4, qsc_k5, qsc_l5, qsc_gf6, qsc_k6, qsc_l6, qsc_gf7, qsc_k7, qsc_l7, qsc_gf9, qsc_k8, qsc_l8, qsc_gf10, qsc_gf0, qsc_pf0, qsc_gf5, qsc_pf5, qsc_gf8, qsc_pf8, qpl_kd, qpl_k1, qpl_l1, qpl_gf0, qpl_k2, qpl_l2, qpl_gf1, qpl_k3, qpl_l3, qpl_gf2, qpl_k4, qpl_l4, qpl_gf3, qpl_k5, qpl_l5, qpl_gf4, qpl_k6, qpl_l6, qpl_gf5, qpl_gf6, qpl_pf6, qpl_gf7, qpl_pf7, qpl_gf8, qpl_pf8, qst_kd, qst_gf0, qst_k10, qst_l10, qst_gf1, qst_k29, qst_l29, qst_gf2, qlf_kd, qlf_gf0, qlf_k31, qlf_l31, qlf_gf1, qlf_gf3, qlf_gf4, qlf_gf5, qlf_gf6, qlf_k203, qlf_l203, qlf_gf7, qlf_gf2, qlf_pf2, qlf_gf8, qlf_pf8, wrI_row, cpI_row, row_s, row_n, row_ss, row_sw, upd_s, upd_n, ad_inj, ad_z, ad_z2, Nat.reduceEqDiff, reduceCtorEq, List.cons_append, List.nil_append, Option.toList_some, Option.toList_none, Int.toNat_natCast, List.length_cons, List.length_nil, Int.cast_ofNat_Int, Nat.reduceAdd, Nat.reduceLeDiff, Nat.reduceLT, Nat.reduceMul, Int.reduceAdd, Int.reduceSub, Int.reduceMul, Int.reduceNeg, Int.reduceLT, Int.reduceLE, Int.reduceEq, Int.reduceToNat, eq_self, true_and, and_true, true_or, or_true, false_or, or_false, if_true, if_false, not_true_eq_false, not_false_eq_true, and_self, ne_eq, b_L_why_39, P_L_why_39, hLf, hN1, hS, hPl, hka, hlw, n0, hp0, hw1, hw2]
      (repeat' (first | apply And.intro | split)) <;> first | omega | exact k86
end FLC
