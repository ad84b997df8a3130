/-! THE CLASS'S CALLS THAT PLAN -/
def pF (U : Vw) : Nat := (U 8 0).toNat
def pM (U : Vw) : Nat := (U 0 0).toNat
def pH (U : Vw) : Nat := (U 4 1).toNat
/-- the least sum with a speed -/
def lsU (U : Vw) (s : Int) : Int := lstV (pF U) (pM U) (pH U) (cstV (-1) U) (clsV U s)
theorem cstU_b {U : Vw} (hU : WFV (-1) U) (f m : Nat) : 0 ≤ cstV (-1) U f m ∧ cstV (-1) U f m ≤ 1000000 := by
  unfold cstV
  split
  next hc =>
    have k := kndV_lt hU hc.1
    have h3 := fun j hj => hU.2.2.1 j hj
    have h1 := hU.2.1 m hc.2
    have h4 := hU.2.2.2.1
    have hw : 0 ≤ wrgV U (kndV U f) m ∧ wrgV U (kndV U f) m ≤ 1000000 := by
      unfold wrgV
      split
      next e => omega
      next e =>
        have a1 := h3 (kndV U f * 4 + 2).toNat (by omega)
        have a2 := h3 (kndV U f * 4 + 0).toNat (by omega)
        have a3 := h3 (kndV U f * 4 + 1).toNat (by omega)
        generalize hd : (((U 1 m - U 3 (kndV U f * 4 + 0).toNat).natAbs : Int) + ((U 2 m - U 3 (kndV U f * 4 + 1).toNat).natAbs : Int)) = y at *
        have hD : 0 ≤ y ∧ y ≤ 18 := by omega
        generalize U 3 (kndV U f * 4 + 2).toNat = x at *
        refine ⟨Int.mul_nonneg a1.1 hD.1, ?_⟩
        have := Int.mul_le_mul a1.2 hD.2 hD.1 (by omega : (0 : Int) ≤ 9)
        omega
    split <;> omega
  next hc => omega
section PLC
variable {zt : Nat → Nat} {g : Nat → Nat → Int} {ρ : Ri} {L : Nat} {h : Nat → Nat} {X : XV} {Q : Option AV → Sto → Prop}
theorem prep_c (hX : RepC g ρ L h X) (hW : WFX X) (hQ : ∀ g2 : Nat → Nat → Int, (∀ x, (x < ad L 194 ∨ ad L 201 ≤ x) → g2 x = g x) → plI g2 (ad L 194) (pF X.1.1) (pM X.1.1) (pH X.1.1) (cstV (-1) X.1.1) (clsV X.1.1 (X.1.1 4 0)) → Q none (g2, ρ)) : WpM zt 4 [AR (ad L 194), AR (ad (ad L 1) 1)] (g, ρ) Q := by
  obtain ⟨hLf, hN, -⟩ := id hX.1
  obtain ⟨hR, -⟩ := id hX.2.1
  have hU := hW.1.1
  have hWV := hR.wf (by omega) hU
  have hN1 := hN.1
  have hS := hN.2.1
  have e0 : g (ad (ad L 1) 1) 0 = X.1.1 0 0 := hR.l0
  have e5 : g (ad (ad L 1) 1) 5 = X.1.1 5 0 := hR.l5
  have e8 : g (ad (ad L 1) 1) 8 = X.1.1 8 0 := hR.l8
  have b0 := hU.1
  have b5 := hU.2.2.2.2.1
  have b8 := hU.2.2.2.2.2.2.1
  have hPl := hX.1.2.2.2.2.2.1
  have e4 : g (ad (ad (ad L 1) 1) 4) 1 = X.1.1 4 1 := hR.l4 (by omega)
  have e40 : g (ad (ad (ad L 1) 1) 4) 0 = X.1.1 4 0 := hR.l4 (by omega)
  refine prepare_ok hS hPl (by unfold ad; omega) hWV (fun g2 q1 q2 => hQ g2 (fun x z => q1 x (by unfold ad at *; omega)) ?_)
  rw [e8, e0, e4, e40, hR.cst (by omega) hU, hR.cls] at q2
  exact q2
theorem plan_b (hW : WFX X) : pM X.1.1 ≤ 8 ∧ 1 ≤ pM X.1.1 ∧ 1 ≤ pH X.1.1 ∧ pH X.1.1 ≤ 3 ∧ pF X.1.1 ≤ 99 := by
  have hU := hW.1.1
  have b0 := hU.1
  have b4 := hU.2.2.2.1
  have b8 := hU.2.2.2.2.2.2.1
  unfold pM pH pF
  omega
def sLeast (w : Int) (X : XV) : Int := if 0 ≤ w ∧ w ≤ 1 then lsU X.1.1 (X.1.1 4 0) else -1
theorem c_least (hX : RepC g ρ L h X) (hW : WFX X) {w : Int} (hw : i32 w) (hQ : CQ g ρ L (sLeast w X, X) Q) : WpM zt 74 [AR L, AI w] (g, ρ) Q := by
  obtain ⟨hLf, hN, -⟩ := id hX.1
  obtain ⟨hR, -⟩ := id hX.2.1
  have hU := hW.1.1
  have hWV := hR.wf (by omega) hU
  have hN1 := hN.1
  have hS := hN.2.1
  have e0 : g (ad (ad L 1) 1) 0 = X.1.1 0 0 := hR.l0
  have e5 : g (ad (ad L 1) 1) 5 = X.1.1 5 0 := hR.l5
  have e8 : g (ad (ad L 1) 1) 8 = X.1.1 8 0 := hR.l8
  have b0 := hU.1
  have b5 := hU.2.2.2.2.1
  have b8 := hU.2.2.2.2.2.2.1
  obtain ⟨t1, t2, t3, t4, t5⟩ := plan_b hW
  have hPl := hX.1.2.2.2.2.2.1
  have lb := lstV_b (F := pF X.1.1) (M := pM X.1.1) (h := pH X.1.1) (c := cstV (-1) X.1.1) (cl := clsV X.1.1 (X.1.1 4 0)) (fun f m => (cstU_b hU f m).1)
  unfold sLeast at hQ
  by_cases c : 0 ≤ w ∧ w ≤ 1
  · rw [if_pos c] at hQ
    have ho := fun Q => lk_in (zt := zt) (g := g) (ρ := ρ) (lo := 0) (hi := 1) (by omega) (by omega) c Q
    by_cases c0 : w = 0
    · subst c0
      simp only [m_L_least, b_L_least_0, P_L_least_11, b_L_least_11, P_L_least_39, b_L_least_39, P_L_least_46, b_L_least_46, wp_abs, wp_aln0, wp_copy, wp_cs1, wp_cs2, wp_cs3, wp_cs4, wp_cs5, wp_cs6, wp_cs7, wp_cv1, wp_cv2, wp_cv3, wp_cv4, wp_cv5, wp_cv6, wp_cv7, wp_goto, wp_iconst, wp_iln1, wp_iret, wp_izeq, wp_izne, wp_max, wp_min, wp_nop, wp_zret, qpl_kd, qpl_k1, qpl_l1, qpl_gf0, qpl_k2, qpl_l2, qpl_gf1, qpl_k3, qpl_l3, qpl_gf2, qpl_k4, qpl_l4, qpl_gf3, qpl_k5, qpl_l5, qpl_gf4, qpl_k6, qpl_l6, qpl_gf5, qpl_gf6, qpl_pf6, qpl_gf7, qpl_pf7, qpl_gf8, qpl_pf8, qst_kd, qst_gf0, qst_k10, qst_l10, qst_gf1, qst_k29, qst_l29, qst_gf2, qlf_kd, qlf_gf0, qlf_k31, qlf_l31, qlf_gf1, qlf_gf3, qlf_gf4, qlf_gf5, qlf_gf6, qlf_k203, qlf_l203, qlf_gf7, qlf_gf2, qlf_pf2, qlf_gf8, qlf_pf8, wrI_row, cpI_row, row_s, row_n, row_ss, row_sw, upd_s, upd_n, ad_inj, ad_z, ad_z2, Nat.reduceEqDiff, reduceCtorEq, List.cons_append, List.nil_append, Option.toList_some, Option.toList_none, Int.toNat_natCast, List.length_cons, List.length_nil, Int.cast_ofNat_Int, Nat.reduceAdd, Nat.reduceLeDiff, Nat.reduceLT, Nat.reduceMul, Int.reduceAdd, Int.reduceSub, Int.reduceMul, Int.reduceNeg, Int.reduceLT, Int.reduceLE, Int.reduceEq, Int.reduceToNat, eq_self, true_and, and_true, true_or, or_true, false_or, or_false, if_true, if_false, not_true_eq_false, not_false_eq_true, and_self, ne_eq, hLf, hN1, hPl, ho]
      refine prep_c hX hW (fun g2 q1 q2 => ?_)
      simp only [m_L_least, b_L_least_0, P_L_least_11, b_L_least_11, P_L_least_39, b_L_least_39, P_L_least_46, b_L_least_46, wp_abs, wp_aln0, wp_copy, wp_cs1, wp_cs2, wp_cs3, wp_cs4, wp_cs5, wp_cs6, wp_cs7, wp_cv1, wp_cv2, wp_cv3, wp_cv4, wp_cv5, wp_cv6, wp_cv7, wp_goto, wp_iconst, wp_iln1, wp_iret, wp_izeq, wp_izne, wp_max, wp_min, wp_nop, wp_zret, qpl_kd, qpl_k1, qpl_l1, qpl_gf0, qpl_k2, qpl_l2, qpl_gf1, qpl_k3, qpl_l3, qpl_gf2, qpl_k4, qpl_l4, qpl_gf3, qpl_k5, qpl_l5, qpl_gf4, qpl_k6, qpl_l6, qpl_gf5, qpl_gf6, qpl_pf6, qpl_gf7, qpl_pf7, qpl_gf8, qpl_pf8, qst_kd, qst_gf0, qst_k10, qst_l10, qst_gf1, qst_k29, qst_l29, qst_gf2, qlf_kd, qlf_gf0, qlf_k31, qlf_l31, qlf_gf1, qlf_gf3, qlf_gf4, qlf_gf5, qlf_gf6, qlf_k203, qlf_l203, qlf_gf7, qlf_gf2, qlf_pf2, qlf_gf8, qlf_pf8, wrI_row, cpI_row, row_s, row_n, row_ss, row_sw, upd_s, upd_n, ad_inj, ad_z, ad_z2, Nat.reduceEqDiff, reduceCtorEq, List.cons_append, List.nil_append, Option.toList_some, Option.toList_none, Int.toNat_natCast, List.length_cons, List.length_nil, Int.cast_ofNat_Int, Nat.reduceAdd, Nat.reduceLeDiff, Nat.reduceLT, Nat.reduceMul, Int.reduceAdd, Int.reduceSub, Int.reduceMul, Int.reduceNeg, Int.reduceLT, Int.reduceLE, Int.reduceEq, Int.reduceToNat, eq_self, true_and, and_true, true_or, or_true, false_or, or_false, if_true, if_false, not_true_eq_false, not_false_eq_true, and_self, ne_eq, hLf, hN1, hPl]
      refine leastFromEnd_ok hPl q2 t1 t3 t4 t5 (fun f m => cstU_b hU f m) (fun R hR2 => ?_)
      have q := hQ (setRow g2 (ad (ad L 194) 4) R) ρ h (hX.kept hW (fun x z1 z2 => by rw [row_n (by unfold ad at *; omega), q1 x (by unfold ad at *; omega)])) ⟨rfl, fun x z => ⟨rfl, by rw [row_n (by unfold ad at *; omega), q1 x (by unfold ad at *; omega)]⟩⟩
      simp only [m_L_least, b_L_least_0, P_L_least_11, b_L_least_11, P_L_least_39, b_L_least_39, P_L_least_46, b_L_least_46, wp_abs, wp_aln0, wp_copy, wp_cs1, wp_cs2, wp_cs3, wp_cs4, wp_cs5, wp_cs6, wp_cs7, wp_cv1, wp_cv2, wp_cv3, wp_cv4, wp_cv5, wp_cv6, wp_cv7, wp_goto, wp_iconst, wp_iln1, wp_iret, wp_izeq, wp_izne, wp_max, wp_min, wp_nop, wp_zret, qpl_kd, qpl_k1, qpl_l1, qpl_gf0, qpl_k2, qpl_l2, qpl_gf1, qpl_k3, qpl_l3, qpl_gf2, qpl_k4, qpl_l4, qpl_gf3, qpl_k5, qpl_l5, qpl_gf4, qpl_k6, qpl_l6, qpl_gf5, qpl_gf6, qpl_pf6, qpl_gf7, qpl_pf7, qpl_gf8, qpl_pf8, qlf_kd, qlf_gf0, qlf_k31, qlf_l31, qlf_gf1, qlf_gf3, qlf_gf4, qlf_gf5, qlf_gf6, qlf_k203, qlf_l203, qlf_gf7, qlf_gf2, qlf_pf2, qlf_gf8, qlf_pf8, wrI_row, cpI_row, row_s, row_n, row_ss, row_sw, upd_s, upd_n, ad_inj, ad_z, ad_z2, Nat.reduceEqDiff, reduceCtorEq, List.cons_append, List.nil_append, Option.toList_some, Option.toList_none, Int.toNat_natCast, List.length_cons, List.length_nil, Int.cast_ofNat_Int, Nat.reduceAdd, Nat.reduceLeDiff, Nat.reduceLT, Nat.reduceMul, Int.reduceAdd, Int.reduceSub, Int.reduceMul, Int.reduceNeg, Int.reduceLT, Int.reduceLE, Int.reduceEq, Int.reduceToNat, eq_self, true_and, and_true, true_or, or_true, false_or, or_false, if_true, if_false, not_true_eq_false, not_false_eq_true, and_self, ne_eq, hPl]
      (repeat' (first | apply And.intro | split)) <;> first | omega | exact q
    · simp only [m_L_least, b_L_least_0, P_L_least_11, b_L_least_11, P_L_least_39, b_L_least_39, P_L_least_46, b_L_least_46, wp_abs, wp_aln0, wp_copy, wp_cs1, wp_cs2, wp_cs3, wp_cs4, wp_cs5, wp_cs6, wp_cs7, wp_cv1, wp_cv2, wp_cv3, wp_cv4, wp_cv5, wp_cv6, wp_cv7, wp_goto, wp_iconst, wp_iln1, wp_iret, wp_izeq, wp_izne, wp_max, wp_min, wp_nop, wp_zret, qpl_kd, qpl_k1, qpl_l1, qpl_gf0, qpl_k2, qpl_l2, qpl_gf1, qpl_k3, qpl_l3, qpl_gf2, qpl_k4, qpl_l4, qpl_gf3, qpl_k5, qpl_l5, qpl_gf4, qpl_k6, qpl_l6, qpl_gf5, qpl_gf6, qpl_pf6, qpl_gf7, qpl_pf7, qpl_gf8, qpl_pf8, qst_kd, qst_gf0, qst_k10, qst_l10, qst_gf1, qst_k29, qst_l29, qst_gf2, qlf_kd, qlf_gf0, qlf_k31, qlf_l31, qlf_gf1, qlf_gf3, qlf_gf4, qlf_gf5, qlf_gf6, qlf_k203, qlf_l203, qlf_gf7, qlf_gf2, qlf_pf2, qlf_gf8, qlf_pf8, wrI_row, cpI_row, row_s, row_n, row_ss, row_sw, upd_s, upd_n, ad_inj, ad_z, ad_z2, Nat.reduceEqDiff, reduceCtorEq, List.cons_append, List.nil_append, Option.toList_some, Option.toList_none, Int.toNat_natCast, List.length_cons, List.length_nil, Int.cast_ofNat_Int, Nat.reduceAdd, Nat.reduceLeDiff, Nat.reduceLT, Nat.reduceMul, Int.reduceAdd, Int.reduceSub, Int.reduceMul, Int.reduceNeg, Int.reduceLT, Int.reduceLE, Int.reduceEq, Int.reduceToNat, eq_self, true_and, and_true, true_or, or_true, false_or, or_false, if_true, if_false, not_true_eq_false, not_false_eq_true, and_self, ne_eq, hLf, hN1, hPl, ho]
      refine prep_c hX hW (fun g2 q1 q2 => ?_)
      simp only [m_L_least, b_L_least_0, P_L_least_11, b_L_least_11, P_L_least_39, b_L_least_39, P_L_least_46, b_L_least_46, wp_abs, wp_aln0, wp_copy, wp_cs1, wp_cs2, wp_cs3, wp_cs4, wp_cs5, wp_cs6, wp_cs7, wp_cv1, wp_cv2, wp_cv3, wp_cv4, wp_cv5, wp_cv6, wp_cv7, wp_goto, wp_iconst, wp_iln1, wp_iret, wp_izeq, wp_izne, wp_max, wp_min, wp_nop, wp_zret, qpl_kd, qpl_k1, qpl_l1, qpl_gf0, qpl_k2, qpl_l2, qpl_gf1, qpl_k3, qpl_l3, qpl_gf2, qpl_k4, qpl_l4, qpl_gf3, qpl_k5, qpl_l5, qpl_gf4, qpl_k6, qpl_l6, qpl_gf5, qpl_gf6, qpl_pf6, qpl_gf7, qpl_pf7, qpl_gf8, qpl_pf8, qst_kd, qst_gf0, qst_k10, qst_l10, qst_gf1, qst_k29, qst_l29, qst_gf2, qlf_kd, qlf_gf0, qlf_k31, qlf_l31, qlf_gf1, qlf_gf3, qlf_gf4, qlf_gf5, qlf_gf6, qlf_k203, qlf_l203, qlf_gf7, qlf_gf2, qlf_pf2, qlf_gf8, qlf_pf8, wrI_row, cpI_row, row_s, row_n, row_ss, row_sw, upd_s, upd_n, ad_inj, ad_z, ad_z2, Nat.reduceEqDiff, reduceCtorEq, List.cons_append, List.nil_append, Option.toList_some, Option.toList_none, Int.toNat_natCast, List.length_cons, List.length_nil, Int.cast_ofNat_Int, Nat.reduceAdd, Nat.reduceLeDiff, Nat.reduceLT, Nat.reduceMul, Int.reduceAdd, Int.reduceSub, Int.reduceMul, Int.reduceNeg, Int.reduceLT, Int.reduceLE, Int.reduceEq, Int.reduceToNat, eq_self, true_and, and_true, true_or, or_true, false_or, or_false, if_true, if_false, not_true_eq_false, not_false_eq_true, and_self, ne_eq, hLf, hN1, hPl, c0]
      (repeat' (first | apply And.intro | split)) <;> first | omega | skip
      refine leastFromStart_ok hPl q2 t1 t3 t4 t5 (fun f m => cstU_b hU f m) (fun g3 q3 => ?_)
      have q := hQ g3 ρ h (hX.kept hW (fun x z1 z2 => by rw [q3 x (by unfold ad at *; omega) (by unfold ad at *; omega), q1 x (by unfold ad at *; omega)])) ⟨rfl, fun x z => ⟨rfl, by rw [q3 x (by unfold ad at *; omega) (by unfold ad at *; omega), q1 x (by unfold ad at *; omega)]⟩⟩
      simp only [m_L_least, b_L_least_0, P_L_least_11, b_L_least_11, P_L_least_39, b_L_least_39, P_L_least_46, b_L_least_46, wp_abs, wp_aln0, wp_copy, wp_cs1, wp_cs2, wp_cs3, wp_cs4, wp_cs5, wp_cs6, wp_cs7, wp_cv1, wp_cv2, wp_cv3, wp_cv4, wp_cv5, wp_cv6, wp_cv7, wp_goto, wp_iconst, wp_iln1, wp_iret, wp_izeq, wp_izne, wp_max, wp_min, wp_nop, wp_zret, qpl_kd, qpl_k1, qpl_l1, qpl_gf0, qpl_k2, qpl_l2, qpl_gf1, qpl_k3, qpl_l3, qpl_gf2, qpl_k4, qpl_l4, qpl_gf3, qpl_k5, qpl_l5, qpl_gf4, qpl_k6, qpl_l6, qpl_gf5, qpl_gf6, qpl_pf6, qpl_gf7, qpl_pf7, qpl_gf8, qpl_pf8, qlf_kd, qlf_gf0, qlf_k31, qlf_l31, qlf_gf1, qlf_gf3, qlf_gf4, qlf_gf5, qlf_gf6, qlf_k203, qlf_l203, qlf_gf7, qlf_gf2, qlf_pf2, qlf_gf8, qlf_pf8, wrI_row, cpI_row, row_s, row_n, row_ss, row_sw, upd_s, upd_n, ad_inj, ad_z, ad_z2, Nat.reduceEqDiff, reduceCtorEq, List.cons_append, List.nil_append, Option.toList_some, Option.toList_none, Int.toNat_natCast, List.length_cons, List.length_nil, Int.cast_ofNat_Int, Nat.reduceAdd, Nat.reduceLeDiff, Nat.reduceLT, Nat.reduceMul, Int.reduceAdd, Int.reduceSub, Int.reduceMul, Int.reduceNeg, Int.reduceLT, Int.reduceLE, Int.reduceEq, Int.reduceToNat, eq_self, true_and, and_true, true_or, or_true, false_or, or_false, if_true, if_false, not_true_eq_false, not_false_eq_true, and_self, ne_eq, hPl]
      (repeat' (first | apply And.intro | split)) <;> first | omega | exact q
  · rw [if_neg c] at hQ
    have q := hQ.ro hX
    have ho := fun Q => lk_out (zt := zt) (g := g) (ρ := ρ) (lo := 0) (hi := 1) hw (by omega) (by omega) c Q
    simp only [m_L_least, b_L_least_0, P_L_least_11, b_L_least_11, P_L_least_39, b_L_least_39, P_L_least_46, b_L_least_46, wp_abs, wp_aln0, wp_copy, wp_cs1, wp_cs2, wp_cs3, wp_cs4, wp_cs5, wp_cs6, wp_cs7, wp_cv1, wp_cv2, wp_cv3, wp_cv4, wp_cv5, wp_cv6, wp_cv7, wp_goto, wp_iconst, wp_iln1, wp_iret, wp_izeq, wp_izne, wp_max, wp_min, wp_nop, wp_zret, qsc_kd, qsc_k1, qsc_l1, qsc_gf1, qsc_k2, qsc_l2, qsc_gf2, qsc_k3, qsc_l3, qsc_gf3, qsc_k4, qsc_l4, qsc_gf4, qsc_k5, qsc_l5, qsc_gf6, qsc_k6, qsc_l6, qsc_gf7, qsc_k7, qsc_l7, qsc_gf9, qsc_k8, qsc_l8, qsc_gf10, qsc_gf0, qsc_pf0, qsc_gf5, qsc_pf5, qsc_gf8, qsc_pf8, qst_kd, qst_gf0, qst_k10, qst_l10, qst_gf1, qst_k29, qst_l29, qst_gf2, qlf_kd, qlf_gf0, qlf_k31, qlf_l31, qlf_gf1, qlf_gf3, qlf_gf4, qlf_gf5, qlf_gf6, qlf_k203, qlf_l203, qlf_gf7, qlf_gf2, qlf_pf2, qlf_gf8, qlf_pf8, wrI_row, cpI_row, row_s, row_n, row_ss, row_sw, upd_s, upd_n, ad_inj, ad_z, ad_z2, Nat.reduceEqDiff, reduceCtorEq, List.cons_append, List.nil_append, Option.toList_some, Option.toList_none, Int.toNat_natCast, List.length_cons, List.length_nil, Int.cast_ofNat_Int, Nat.reduceAdd, Nat.reduceLeDiff, Nat.reduceLT, Nat.reduceMul, Int.reduceAdd, Int.reduceSub, Int.reduceMul, Int.reduceNeg, Int.reduceLT, Int.reduceLE, Int.reduceEq, Int.reduceToNat, eq_self, true_and, and_true, true_or, or_true, false_or, or_false, if_true, if_false, not_true_eq_false, not_false_eq_true, and_self, ne_eq, hLf, hN1, hS, ho]
    (repeat' (first | apply And.intro | split)) <;> first | omega | exact q
/-- the costs with a frame's mouth given -/
def cstB (U : Vw) (f mo : Nat) : Nat → Nat → Int := fun f' m => if f' = f ∧ m ≠ mo then 1000000 else cstV (-1) U f' m
theorem cstB_b {U : Vw} (hU : WFV (-1) U) {f mo : Nat} (f' m : Nat) : 0 ≤ cstB U f mo f' m ∧ cstB U f mo f' m ≤ 1000000 := by
  have := cstU_b hU f' m
  unfold cstB
  split <;> omega
def sLeastWith (f m : Int) (X : XV) : Int := if (0 ≤ f ∧ f < X.1.1 8 0) ∧ 0 ≤ m ∧ m < X.1.1 0 0 then lstV (pF X.1.1) (pM X.1.1) (pH X.1.1) (cstB X.1.1 f.toNat m.toNat) (clsV X.1.1 (X.1.1 4 0)) else -1
theorem c_leastWith (hX : RepC g ρ L h X) (hW : WFX X) {f m : Int} (hf : i32 f) (hm : i32 m) (hQ : CQ g ρ L (sLeastWith f m X, X) Q) : WpM zt 75 [AR L, AI f, AI m] (g, ρ) Q := by
  obtain ⟨hLf, hN, -⟩ := id hX.1
  obtain ⟨hR, -⟩ := id hX.2.1
  have hU := hW.1.1
  have hWV := hR.wf (by omega) hU
  have hN1 := hN.1
  have hS := hN.2.1
  have e0 : g (ad (ad L 1) 1) 0 = X.1.1 0 0 := hR.l0
  have e5 : g (ad (ad L 1) 1) 5 = X.1.1 5 0 := hR.l5
  have e8 : g (ad (ad L 1) 1) 8 = X.1.1 8 0 := hR.l8
  have b0 := hU.1
  have b5 := hU.2.2.2.2.1
  have b8 := hU.2.2.2.2.2.2.1
  obtain ⟨t1, t2, t3, t4, t5⟩ := plan_b hW
  have hPl := hX.1.2.2.2.2.2.1
  unfold sLeastWith at hQ
  have hm1 := hasFrame_ok (zt := zt) (ρ := ρ) hS hWV (m := f) hf.1 hf.2
  have hm2 := hasMouth_ok (zt := zt) (ρ := ρ) hS hWV (m := m) hm.1 hm.2
  rw [e8] at hm1
  rw [e0] at hm2
  by_cases c1 : 0 ≤ f ∧ f < X.1.1 8 0
  · rw [b2_t c1] at hm1
    by_cases c2 : 0 ≤ m ∧ m < X.1.1 0 0
    · rw [b2_t c2] at hm2
      rw [if_pos ⟨c1, c2⟩] at hQ
      have lb := lstV_b (F := pF X.1.1) (M := pM X.1.1) (h := pH X.1.1) (c := cstB X.1.1 f.toNat m.toNat) (cl := clsV X.1.1 (X.1.1 4 0)) (fun f' m' => (cstB_b hU f' m').1)
      simp only [m_L_leastWith, b_L_leastWith_0, P_L_leastWith_28, b_L_leastWith_28, P_L_leastWith_30, b_L_leastWith_30, wp_aln0, wp_cv1, wp_cv2, wp_cv3, wp_cv4, wp_cv5, wp_cv6, wp_cv7, wp_iconst, wp_iln1, wp_iln2, wp_iret, wp_izeq, wp_izne, wp_nop, wp_zret, qsc_kd, qsc_k1, qsc_l1, qsc_gf1, qsc_k2, qsc_l2, qsc_gf2, qsc_k3, qsc_l3, qsc_gf3, qsc_k4, qsc_l4, qsc_gf4, qsc_k5, qsc_l5, qsc_gf6, qsc_k6, qsc_l6, qsc_gf7, qsc_k7, qsc_l7, qsc_gf9, qsc_k8, qsc_l8, qsc_gf10, qsc_gf0, qsc_pf0, qsc_gf5, qsc_pf5, qsc_gf8, qsc_pf8, qpl_kd, qpl_k1, qpl_l1, qpl_gf0, qpl_k2, qpl_l2, qpl_gf1, qpl_k3, qpl_l3, qpl_gf2, qpl_k4, qpl_l4, qpl_gf3, qpl_k5, qpl_l5, qpl_gf4, qpl_k6, qpl_l6, qpl_gf5, qpl_gf6, qpl_pf6, qpl_gf7, qpl_pf7, qpl_gf8, qpl_pf8, qst_kd, qst_gf0, qst_k10, qst_l10, qst_gf1, qst_k29, qst_l29, qst_gf2, qlf_kd, qlf_gf0, qlf_k31, qlf_l31, qlf_gf1, qlf_gf3, qlf_gf4, qlf_gf5, qlf_gf6, qlf_k203, qlf_l203, qlf_gf7, qlf_gf2, qlf_pf2, qlf_gf8, qlf_pf8, wrI_row, cpI_row, row_s, row_n, row_ss, row_sw, upd_s, upd_n, ad_inj, ad_z, ad_z2, Nat.reduceEqDiff, reduceCtorEq, List.cons_append, List.nil_append, Option.toList_some, Option.toList_none, Int.toNat_natCast, List.length_cons, List.length_nil, Int.cast_ofNat_Int, Nat.reduceAdd, Nat.reduceLeDiff, Nat.reduceLT, Nat.reduceMul, Int.reduceAdd, Int.reduceSub, Int.reduceMul, Int.reduceNeg, Int.reduceLT, Int.reduceLE, Int.reduceEq, Int.reduceToNat, eq_self, true_and, and_true, true_or, or_true, false_or, or_false, if_true, if_false, not_true_eq_false, not_false_eq_true, and_self, ne_eq, hLf, hN1, hPl, hS, hm1, hm2]
      refine prep_c hX hW (fun g2 q1 q2 => ?_)
      have ef : ((f.toNat : Nat) : Int) = f := by omega
      have hbo := barOthers_ok (zt := zt) (ρ := ρ) (g := g2) hPl q2.2.1 t1 (f := f.toNat) (by omega) (x := m) (by omega)
      rw [ef] at hbo
      simp only [m_L_leastWith, b_L_leastWith_0, P_L_leastWith_28, b_L_leastWith_28, P_L_leastWith_30, b_L_leastWith_30, wp_aln0, wp_cv1, wp_cv2, wp_cv3, wp_cv4, wp_cv5, wp_cv6, wp_cv7, wp_iconst, wp_iln1, wp_iln2, wp_iret, wp_izeq, wp_izne, wp_nop, wp_zret, qsc_kd, qsc_k1, qsc_l1, qsc_gf1, qsc_k2, qsc_l2, qsc_gf2, qsc_k3, qsc_l3, qsc_gf3, qsc_k4, qsc_l4, qsc_gf4, qsc_k5, qsc_l5, qsc_gf6, qsc_k6, qsc_l6, qsc_gf7, qsc_k7, qsc_l7, qsc_gf9, qsc_k8, qsc_l8, qsc_gf10, qsc_gf0, qsc_pf0, qsc_gf5, qsc_pf5, qsc_gf8, qsc_pf8, qpl_kd, qpl_k1, qpl_l1, qpl_gf0, qpl_k2, qpl_l2, qpl_gf1, qpl_k3, qpl_l3, qpl_gf2, qpl_k4, qpl_l4, qpl_gf3, qpl_k5, qpl_l5, qpl_gf4, qpl_k6, qpl_l6, qpl_gf5, qpl_gf6, qpl_pf6, qpl_gf7, qpl_pf7, qpl_gf8, qpl_pf8, qst_kd, qst_gf0, qst_k10, qst_l10, qst_gf1, qst_k29, qst_l29, qst_gf2, qlf_kd, qlf_gf0, qlf_k31, qlf_l31, qlf_gf1, qlf_gf3, qlf_gf4, qlf_gf5, qlf_gf6, qlf_k203, qlf_l203, qlf_gf7, qlf_gf2, qlf_pf2, qlf_gf8, qlf_pf8, wrI_row, cpI_row, row_s, row_n, row_ss, row_sw, upd_s, upd_n, ad_inj, ad_z, ad_z2, Nat.reduceEqDiff, reduceCtorEq, List.cons_append, List.nil_append, Option.toList_some, Option.toList_none, Int.toNat_natCast, List.length_cons, List.length_nil, Int.cast_ofNat_Int, Nat.reduceAdd, Nat.reduceLeDiff, Nat.reduceLT, Nat.reduceMul, Int.reduceAdd, Int.reduceSub, Int.reduceMul, Int.reduceNeg, Int.reduceLT, Int.reduceLE, Int.reduceEq, Int.reduceToNat, eq_self, true_and, and_true, true_or, or_true, false_or, or_false, if_true, if_false, not_true_eq_false, not_false_eq_true, and_self, ne_eq, hLf, hN1, hPl, hS, hbo]
      have q3 : plI (setRow g2 (ad (ad L 194) 2) (barR (g2 (ad (ad L 194) 2)) f.toNat m (pM X.1.1))) (ad L 194) (pF X.1.1) (pM X.1.1) (pH X.1.1) (cstB X.1.1 f.toNat m.toNat) (clsV X.1.1 (X.1.1 4 0)) := by
        obtain ⟨p1, p2, p3, p4, p5⟩ := q2
        have z0 : setRow g2 (ad (ad L 194) 2) (barR (g2 (ad (ad L 194) 2)) f.toNat m (pM X.1.1)) (ad L 194) = g2 (ad L 194) := row_n (by unfold ad; omega)
        have z3 : setRow g2 (ad (ad L 194) 2) (barR (g2 (ad (ad L 194) 2)) f.toNat m (pM X.1.1)) (ad (ad L 194) 3) = g2 (ad (ad L 194) 3) := row_n (by unfold ad; omega)
        unfold plI
        rw [z0, z3, row_s]
        refine ⟨p1, p2, p3, fun f' m' y1 y2 => ?_, p5⟩
        unfold barR cstB
        by_cases e : f' = f.toNat ∧ m' ≠ m.toNat
        · rw [if_pos e, if_pos (by omega)]
        · rw [if_neg e, if_neg (by omega)]
          exact p4 f' m' y1 y2
      refine leastFromEnd_ok hPl q3 t1 t3 t4 t5 (fun f' m' => cstB_b hU f' m') (fun R hR2 => ?_)
      have q := hQ _ ρ h (hX.kept (g' := setRow (setRow g2 (ad (ad L 194) 2) (barR (g2 (ad (ad L 194) 2)) f.toNat m (pM X.1.1))) (ad (ad L 194) 4) R) hW (fun x z1 z2 => by rw [row_n (by unfold ad at *; omega), row_n (by unfold ad at *; omega), q1 x (by unfold ad at *; omega)])) ⟨rfl, fun x z => ⟨rfl, by rw [row_n (by unfold ad at *; omega), row_n (by unfold ad at *; omega), q1 x (by unfold ad at *; omega)]⟩⟩
      simp only [m_L_leastWith, b_L_leastWith_0, P_L_leastWith_28, b_L_leastWith_28, P_L_leastWith_30, b_L_leastWith_30, wp_aln0, wp_cv1, wp_cv2, wp_cv3, wp_cv4, wp_cv5, wp_cv6, wp_cv7, wp_iconst, wp_iln1, wp_iln2, wp_iret, wp_izeq, wp_izne, wp_nop, wp_zret, qpl_kd, qpl_k1, qpl_l1, qpl_gf0, qpl_k2, qpl_l2, qpl_gf1, qpl_k3, qpl_l3, qpl_gf2, qpl_k4, qpl_l4, qpl_gf3, qpl_k5, qpl_l5, qpl_gf4, qpl_k6, qpl_l6, qpl_gf5, qpl_gf6, qpl_pf6, qpl_gf7, qpl_pf7, qpl_gf8, qpl_pf8, qlf_kd, qlf_gf0, qlf_k31, qlf_l31, qlf_gf1, qlf_gf3, qlf_gf4, qlf_gf5, qlf_gf6, qlf_k203, qlf_l203, qlf_gf7, qlf_gf2, qlf_pf2, qlf_gf8, qlf_pf8, wrI_row, cpI_row, row_s, row_n, row_ss, row_sw, upd_s, upd_n, ad_inj, ad_z, ad_z2, Nat.reduceEqDiff, reduceCtorEq, List.cons_append, List.nil_append, Option.toList_some, Option.toList_none, Int.toNat_natCast, List.length_cons, List.length_nil, Int.cast_ofNat_Int, Nat.reduceAdd, Nat.reduceLeDiff, Nat.reduceLT, Nat.reduceMul, Int.reduceAdd, Int.reduceSub, Int.reduceMul, Int.reduceNeg, Int.reduceLT, Int.reduceLE, Int.reduceEq, Int.reduceToNat, eq_self, true_and, and_true, true_or, or_true, false_or, or_false, if_true, if_false, not_true_eq_false, not_false_eq_true, and_self, ne_eq, hPl]
      (repeat' (first | apply And.intro | split)) <;> first | omega | exact q
    · rw [b2_f c2] at hm2
      rw [if_neg (fun z => c2 z.2)] at hQ
      have q := hQ.ro hX
      simp only [m_L_leastWith, b_L_leastWith_0, P_L_leastWith_28, b_L_leastWith_28, P_L_leastWith_30, b_L_leastWith_30, wp_aln0, wp_cv1, wp_cv2, wp_cv3, wp_cv4, wp_cv5, wp_cv6, wp_cv7, wp_iconst, wp_iln1, wp_iln2, wp_iret, wp_izeq, wp_izne, wp_nop, wp_zret, qsc_kd, qsc_k1, qsc_l1, qsc_gf1, qsc_k2, qsc_l2, qsc_gf2, qsc_k3, qsc_l3, qsc_gf3, qsc_k4, qsc_l4, qsc_gf4, qsc_k5, qsc_l5, qsc_gf6, qsc_k6, qsc_l6, qsc_gf7, qsc_k7, qsc_l7, qsc_gf9, qsc_k8, qsc_l8, qsc_gf10, qsc_gf0, qsc_pf0, qsc_gf5, qsc_pf5, qsc_gf8, qsc_pf8, qst_kd, qst_gf0, qst_k10, qst_l10, qst_gf1, qst_k29, qst_l29, qst_gf2, qlf_kd, qlf_gf0, qlf_k31, qlf_l31, qlf_gf1, qlf_gf3, qlf_gf4, qlf_gf5, qlf_gf6, qlf_k203, qlf_l203, qlf_gf7, qlf_gf2, qlf_pf2, qlf_gf8, qlf_pf8, wrI_row, cpI_row, row_s, row_n, row_ss, row_sw, upd_s, upd_n, ad_inj, ad_z, ad_z2, Nat.reduceEqDiff, reduceCtorEq, List.cons_append, List.nil_append, Option.toList_some, Option.toList_none, Int.toNat_natCast, List.length_cons, List.length_nil, Int.cast_ofNat_Int, Nat.reduceAdd, Nat.reduceLeDiff, Nat.reduceLT, Nat.reduceMul, Int.reduceAdd, Int.reduceSub, Int.reduceMul, Int.reduceNeg, Int.reduceLT, Int.reduceLE, Int.reduceEq, Int.reduceToNat, eq_self, true_and, and_true, true_or, or_true, false_or, or_false, if_true, if_false, not_true_eq_false, not_false_eq_true, and_self, ne_eq, hLf, hN1, hS, hm1, hm2]
      (repeat' (first | apply And.intro | split)) <;> first | omega | exact q
  · rw [b2_f c1] at hm1
    rw [if_neg (fun z => c1 z.1)] at hQ
    have q := hQ.ro hX
    simp only [m_L_leastWith, b_L_leastWith_0, P_L_leastWith_28, b_L_leastWith_28, P_L_leastWith_30, b_L_leastWith_30, wp_aln0, wp_cv1, wp_cv2, wp_cv3, wp_cv4, wp_cv5, wp_cv6, wp_cv7, wp_iconst, wp_iln1, wp_iln2, wp_iret, wp_izeq, wp_izne, wp_nop, wp_zret, qsc_kd, qsc_k1, qsc_l1, qsc_gf1, qsc_k2, qsc_l2, qsc_gf2, qsc_k3, qsc_l3, qsc_gf3, qsc_k4, qsc_l4, qsc_gf4, qsc_k5, qsc_l5, qsc_gf6, qsc_k6, qsc_l6, qsc_gf7, qsc_k7, qsc_l7, qsc_gf9, qsc_k8, qsc_l8, qsc_gf10, qsc_gf0, qsc_pf0, qsc_gf5, qsc_pf5, qsc_gf8, qsc_pf8, qst_kd, qst_gf0, qst_k10, qst_l10, qst_gf1, qst_k29, qst_l29, qst_gf2, qlf_kd, qlf_gf0, qlf_k31, qlf_l31, qlf_gf1, qlf_gf3, qlf_gf4, qlf_gf5, qlf_gf6, qlf_k203, qlf_l203, qlf_gf7, qlf_gf2, qlf_pf2, qlf_gf8, qlf_pf8, wrI_row, cpI_row, row_s, row_n, row_ss, row_sw, upd_s, upd_n, ad_inj, ad_z, ad_z2, Nat.reduceEqDiff, reduceCtorEq, List.cons_append, List.nil_append, Option.toList_some, Option.toList_none, Int.toNat_natCast, List.length_cons, List.length_nil, Int.cast_ofNat_Int, Nat.reduceAdd, Nat.reduceLeDiff, Nat.reduceLT, Nat.reduceMul, Int.reduceAdd, Int.reduceSub, Int.reduceMul, Int.reduceNeg, Int.reduceLT, Int.reduceLE, Int.reduceEq, Int.reduceToNat, eq_self, true_and, and_true, true_or, or_true, false_or, or_false, if_true, if_false, not_true_eq_false, not_false_eq_true, and_self, ne_eq, hLf, hN1, hS, hm1]
    (repeat' (first | apply And.intro | split)) <;> first | omega | exact q
/-- the class's constant rows -/
def zrR (g : Nat → Nat → Int) (ρ : Ri) (x : Nat) (v : List Int) : Prop := kdI ρ x 4 ∧ lnA ρ x = v.length ∧ ∀ j, j < v.length → g x j = v.getD j 0
def zrI (g : Nat → Nat → Int) (ρ : Ri) (zt : Nat → Nat) (L : Nat) : Prop := (∀ i, i < 5 → zt i < L) ∧ zrR g ρ (zt 0) [3, 4, 1, 1] ∧ zrR g ρ (zt 1) [3, 1, 5, 40, 8] ∧ zrR g ρ (zt 2) [9, 9, 9, 3] ∧ zrR g ρ (zt 3) [1, 1, 0, 1, 1] ∧ zrR g ρ (zt 4) [9, 3, 9, 99, 20]
/-- the first speed from s on (d of them) with a plan of at most t -/
def spF (U : Vw) (t : Int) : Nat → Nat → Int
  | 0, _ => -99
  | d + 1, s => if lsU U s ≠ -99 ∧ lsU U s ≤ t then (s : Int) else spF U t d (s + 1)
def sSpeedFor (t : Int) (X : XV) : Int := if 0 ≤ t ∧ t ≤ 99999 then spF X.1.1 t 9 1 else -1
theorem speedFor_loop (hX : RepC g ρ L h X) (hW : WFX X) (hZ : zrI g ρ zt L) {t : Int} (ht : 0 ≤ t ∧ t ≤ 99999) (hQ : CQ g ρ L (spF X.1.1 t 9 1, X) Q) :
    ∀ (d s : Nat) (g1 : Nat → Nat → Int) (o3 : Option AV) (c0 : Nat → Nat → Bool), s + d = 10 → 1 ≤ s → spF X.1.1 t d s = spF X.1.1 t 9 1 → (∀ x, (x < ad L 194 ∨ ad L 201 ≤ x) → g1 x = g x) → plI g1 (ad L 194) (pF X.1.1) (pM X.1.1) (pH X.1.1) (cstV (-1) X.1.1) c0 → Wp zt 79 (P 79 32) [some (AR L), some (AI t), some (AI s), o3] [] (g1, ρ) Q := by
  obtain ⟨hLf, hN, -⟩ := id hX.1
  obtain ⟨hR, -⟩ := id hX.2.1
  have hU := hW.1.1
  have hWV := hR.wf (by omega) hU
  have hN1 := hN.1
  have hS := hN.2.1
  have e0 : g (ad (ad L 1) 1) 0 = X.1.1 0 0 := hR.l0
  have e5 : g (ad (ad L 1) 1) 5 = X.1.1 5 0 := hR.l5
  have e8 : g (ad (ad L 1) 1) 8 = X.1.1 8 0 := hR.l8
  have b0 := hU.1
  have b5 := hU.2.2.2.2.1
  have b8 := hU.2.2.2.2.2.2.1
  obtain ⟨t1, t2, t3, t4, t5⟩ := plan_b hW
  have hPl := hX.1.2.2.2.2.2.1
  obtain ⟨hzt, -, -, -, -, y1, y2, y3⟩ := id hZ
  have hz4 := hzt 4 (by omega)
  have hfin : ∀ g3 : Nat → Nat → Int, (∀ x, (x < ad L 194 ∨ ad L 201 ≤ x) → g3 x = g x) → Q (some (AI (spF X.1.1 t 9 1))) (g3, ρ) := fun g3 q1 => hQ g3 ρ h (hX.kept hW (fun x z1 z2 => q1 x (by unfold ad at *; omega))) ⟨rfl, fun x z => ⟨rfl, q1 x (by unfold ad at *; omega)⟩⟩
  intro d
  induction d with
  | zero =>
    intro s g1 o3 c0 hs hs1 hv hfr hP
    have es : s = 10 := by omega
    subst es
    have r4 : g1 (zt 4) 0 = 9 := by
      rw [hfr _ (by unfold ad; omega)]
      exact y3 0 (by decide)
    have q := hfin g1 hfr
    rw [← hv] at q
    rw [P_L_speedFor_32]
    simp only [m_L_speedFor, b_L_speedFor_0, P_L_speedFor_12, b_L_speedFor_12, P_L_speedFor_77, b_L_speedFor_77, P_L_speedFor_83, b_L_speedFor_83, wp_abs, wp_aln0, wp_bipush, wp_copy, wp_cs1, wp_cs2, wp_cs3, wp_cs4, wp_cs5, wp_cs6, wp_cs7, wp_cv1, wp_cv2, wp_cv3, wp_cv4, wp_cv5, wp_cv6, wp_cv7, wp_goto, wp_iald, wp_iceq, wp_icgt, wp_iconst, wp_iln1, wp_iln2, wp_iln3, wp_inc2, wp_iret, wp_isn2, wp_isn3, wp_izeq, wp_ldc, wp_max, wp_min, wp_nop, wp_zret, qpl_kd, qpl_k1, qpl_l1, qpl_gf0, qpl_k2, qpl_l2, qpl_gf1, qpl_k3, qpl_l3, qpl_gf2, qpl_k4, qpl_l4, qpl_gf3, qpl_k5, qpl_l5, qpl_gf4, qpl_k6, qpl_l6, qpl_gf5, qpl_gf6, qpl_pf6, qpl_gf7, qpl_pf7, qpl_gf8, qpl_pf8, qst_kd, qst_gf0, qst_k10, qst_l10, qst_gf1, qst_k29, qst_l29, qst_gf2, qlf_kd, qlf_gf0, qlf_k31, qlf_l31, qlf_gf1, qlf_gf3, qlf_gf4, qlf_gf5, qlf_gf6, qlf_k203, qlf_l203, qlf_gf7, qlf_gf2, qlf_pf2, qlf_gf8, qlf_pf8, wrI_row, cpI_row, row_s, row_n, row_ss, row_sw, upd_s, upd_n, ad_inj, ad_z, ad_z2, Nat.reduceEqDiff, reduceCtorEq, List.cons_append, List.nil_append, Option.toList_some, Option.toList_none, Int.toNat_natCast, List.length_cons, List.length_nil, Int.cast_ofNat_Int, Nat.reduceAdd, Nat.reduceLeDiff, Nat.reduceLT, Nat.reduceMul, Int.reduceAdd, Int.reduceSub, Int.reduceMul, Int.reduceNeg, Int.reduceLT, Int.reduceLE, Int.reduceEq, Int.reduceToNat, eq_self, true_and, and_true, true_or, or_true, false_or, or_false, if_true, if_false, not_true_eq_false, not_false_eq_true, and_self, ne_eq, b_L_speedFor_32, hLf, hN1, hPl, wp_gst, wp_iald4 y1, y2, r4]
    exact q
  | succ d ih =>
    intro s g1 o3 c0 hs hs1 hv hfr hP
    have r4 : g1 (zt 4) 0 = 9 := by
      rw [hfr _ (by unfold ad; omega)]
      exact y3 0 (by decide)
    have hv1 : vwC g1 (ad (ad L 1) 1) = vwC g (ad (ad L 1) 1) := vwC_kept (fun x z1 z2 => hfr x (by unfold ad at *; omega))
    have ea : g1 (ad (ad L 1) 1) = g (ad (ad L 1) 1) := hfr _ (by unfold ad; omega)
    have lb := lstV_b (F := pF X.1.1) (M := pM X.1.1) (h := pH X.1.1) (c := cstV (-1) X.1.1) (cl := clsV X.1.1 s) (fun f m => (cstU_b hU f m).1)
    have hsl : ¬ (9 : Int) < (s : Int) := by omega
    rw [P_L_speedFor_32]
    simp only [m_L_speedFor, b_L_speedFor_0, P_L_speedFor_12, b_L_speedFor_12, P_L_speedFor_77, b_L_speedFor_77, P_L_speedFor_83, b_L_speedFor_83, wp_abs, wp_aln0, wp_bipush, wp_copy, wp_cs1, wp_cs2, wp_cs3, wp_cs4, wp_cs5, wp_cs6, wp_cs7, wp_cv1, wp_cv2, wp_cv3, wp_cv4, wp_cv5, wp_cv6, wp_cv7, wp_goto, wp_iald, wp_iceq, wp_icgt, wp_iconst, wp_iln1, wp_iln2, wp_iln3, wp_inc2, wp_iret, wp_isn2, wp_isn3, wp_izeq, wp_ldc, wp_max, wp_min, wp_nop, wp_zret, qpl_kd, qpl_k1, qpl_l1, qpl_gf0, qpl_k2, qpl_l2, qpl_gf1, qpl_k3, qpl_l3, qpl_gf2, qpl_k4, qpl_l4, qpl_gf3, qpl_k5, qpl_l5, qpl_gf4, qpl_k6, qpl_l6, qpl_gf5, qpl_gf6, qpl_pf6, qpl_gf7, qpl_pf7, qpl_gf8, qpl_pf8, qst_kd, qst_gf0, qst_k10, qst_l10, qst_gf1, qst_k29, qst_l29, qst_gf2, qlf_kd, qlf_gf0, qlf_k31, qlf_l31, qlf_gf1, qlf_gf3, qlf_gf4, qlf_gf5, qlf_gf6, qlf_k203, qlf_l203, qlf_gf7, qlf_gf2, qlf_pf2, qlf_gf8, qlf_pf8, wrI_row, cpI_row, row_s, row_n, row_ss, row_sw, upd_s, upd_n, ad_inj, ad_z, ad_z2, Nat.reduceEqDiff, reduceCtorEq, List.cons_append, List.nil_append, Option.toList_some, Option.toList_none, Int.toNat_natCast, List.length_cons, List.length_nil, Int.cast_ofNat_Int, Nat.reduceAdd, Nat.reduceLeDiff, Nat.reduceLT, Nat.reduceMul, Int.reduceAdd, Int.reduceSub, Int.reduceMul, Int.reduceNeg, Int.reduceLT, Int.reduceLE, Int.reduceEq, Int.reduceToNat, eq_self, true_and, and_true, true_or, or_true, false_or, or_false, if_true, if_false, not_true_eq_false, not_false_eq_true, and_self, ne_eq, b_L_speedFor_32, hLf, hN1, hPl, wp_gst, wp_iald4 y1, y2, r4, hsl]
    (repeat' (first | apply And.intro | split)) <;> first | omega | skip
    refine useSpeed_ok hS hPl (by unfold ad; omega) (by rw [hv1]; exact hWV) (by rw [hP.2.1, ea, e0]; unfold pM; omega) (sp := s) (by omega) (fun R hR2 => ?_)
    rw [hv1, hR.cls, ea, e0] at hR2
    have q3 : plI (setRow g1 (ad (ad L 194) 3) R) (ad L 194) (pF X.1.1) (pM X.1.1) (pH X.1.1) (cstV (-1) X.1.1) (clsV X.1.1 s) := by
      obtain ⟨p1, p2, p3, p4, p5⟩ := hP
      have z0 : setRow g1 (ad (ad L 194) 3) R (ad L 194) = g1 (ad L 194) := row_n (by unfold ad; omega)
      have z2 : setRow g1 (ad (ad L 194) 3) R (ad (ad L 194) 2) = g1 (ad (ad L 194) 2) := row_n (by unfold ad; omega)
      unfold plI
      rw [z0, z2, row_s]
      exact ⟨p1, p2, p3, p4, fun x y w1 w2 => hR2 x y (by unfold pM at w1; omega) (by unfold pM at w2; omega)⟩
    simp only [m_L_speedFor, b_L_speedFor_0, P_L_speedFor_12, b_L_speedFor_12, P_L_speedFor_77, b_L_speedFor_77, P_L_speedFor_83, b_L_speedFor_83, wp_abs, wp_aln0, wp_bipush, wp_copy, wp_cs1, wp_cs2, wp_cs3, wp_cs4, wp_cs5, wp_cs6, wp_cs7, wp_cv1, wp_cv2, wp_cv3, wp_cv4, wp_cv5, wp_cv6, wp_cv7, wp_goto, wp_iald, wp_iceq, wp_icgt, wp_iconst, wp_iln1, wp_iln2, wp_iln3, wp_inc2, wp_iret, wp_isn2, wp_isn3, wp_izeq, wp_ldc, wp_max, wp_min, wp_nop, wp_zret, qpl_kd, qpl_k1, qpl_l1, qpl_gf0, qpl_k2, qpl_l2, qpl_gf1, qpl_k3, qpl_l3, qpl_gf2, qpl_k4, qpl_l4, qpl_gf3, qpl_k5, qpl_l5, qpl_gf4, qpl_k6, qpl_l6, qpl_gf5, qpl_gf6, qpl_pf6, qpl_gf7, qpl_pf7, qpl_gf8, qpl_pf8, qst_kd, qst_gf0, qst_k10, qst_l10, qst_gf1, qst_k29, qst_l29, qst_gf2, qlf_kd, qlf_gf0, qlf_k31, qlf_l31, qlf_gf1, qlf_gf3, qlf_gf4, qlf_gf5, qlf_gf6, qlf_k203, qlf_l203, qlf_gf7, qlf_gf2, qlf_pf2, qlf_gf8, qlf_pf8, wrI_row, cpI_row, row_s, row_n, row_ss, row_sw, upd_s, upd_n, ad_inj, ad_z, ad_z2, Nat.reduceEqDiff, reduceCtorEq, List.cons_append, List.nil_append, Option.toList_some, Option.toList_none, Int.toNat_natCast, List.length_cons, List.length_nil, Int.cast_ofNat_Int, Nat.reduceAdd, Nat.reduceLeDiff, Nat.reduceLT, Nat.reduceMul, Int.reduceAdd, Int.reduceSub, Int.reduceMul, Int.reduceNeg, Int.reduceLT, Int.reduceLE, Int.reduceEq, Int.reduceToNat, eq_self, true_and, and_true, true_or, or_true, false_or, or_false, if_true, if_false, not_true_eq_false, not_false_eq_true, and_self, ne_eq, hLf, hN1, hPl]
    refine leastFromStart_ok hPl q3 t1 t3 t4 t5 (fun f m => cstU_b hU f m) (fun g3 q4 => ?_)
    have hfr3 : ∀ x, (x < ad L 194 ∨ ad L 201 ≤ x) → g3 x = g x := fun x z => by
      rw [q4 x (by unfold ad at *; omega) (by unfold ad at *; omega), row_n (by unfold ad at *; omega)]
      exact hfr x z
    have hlu : lstV (pF X.1.1) (pM X.1.1) (pH X.1.1) (cstV (-1) X.1.1) (clsV X.1.1 s) = lsU X.1.1 s := rfl
    rw [hlu] at lb ⊢
    by_cases c1 : lsU X.1.1 s ≠ -99 ∧ lsU X.1.1 s ≤ t
    · have q := hfin g3 hfr3
      rw [← hv] at q
      simp only [spF] at q
      rw [if_pos c1] at q
      simp only [m_L_speedFor, b_L_speedFor_0, P_L_speedFor_12, b_L_speedFor_12, P_L_speedFor_77, b_L_speedFor_77, P_L_speedFor_83, b_L_speedFor_83, wp_abs, wp_aln0, wp_bipush, wp_copy, wp_cs1, wp_cs2, wp_cs3, wp_cs4, wp_cs5, wp_cs6, wp_cs7, wp_cv1, wp_cv2, wp_cv3, wp_cv4, wp_cv5, wp_cv6, wp_cv7, wp_goto, wp_iald, wp_iceq, wp_icgt, wp_iconst, wp_iln1, wp_iln2, wp_iln3, wp_inc2, wp_iret, wp_isn2, wp_isn3, wp_izeq, wp_ldc, wp_max, wp_min, wp_nop, wp_zret, qpl_kd, qpl_k1, qpl_l1, qpl_gf0, qpl_k2, qpl_l2, qpl_gf1, qpl_k3, qpl_l3, qpl_gf2, qpl_k4, qpl_l4, qpl_gf3, qpl_k5, qpl_l5, qpl_gf4, qpl_k6, qpl_l6, qpl_gf5, qpl_gf6, qpl_pf6, qpl_gf7, qpl_pf7, qpl_gf8, qpl_pf8, qst_kd, qst_gf0, qst_k10, qst_l10, qst_gf1, qst_k29, qst_l29, qst_gf2, qlf_kd, qlf_gf0, qlf_k31, qlf_l31, qlf_gf1, qlf_gf3, qlf_gf4, qlf_gf5, qlf_gf6, qlf_k203, qlf_l203, qlf_gf7, qlf_gf2, qlf_pf2, qlf_gf8, qlf_pf8, wrI_row, cpI_row, row_s, row_n, row_ss, row_sw, upd_s, upd_n, ad_inj, ad_z, ad_z2, Nat.reduceEqDiff, reduceCtorEq, List.cons_append, List.nil_append, Option.toList_some, Option.toList_none, Int.toNat_natCast, List.length_cons, List.length_nil, Int.cast_ofNat_Int, Nat.reduceAdd, Nat.reduceLeDiff, Nat.reduceLT, Nat.reduceMul, Int.reduceAdd, Int.reduceSub, Int.reduceMul, Int.reduceNeg, Int.reduceLT, Int.reduceLE, Int.reduceEq, Int.reduceToNat, eq_self, true_and, and_true, true_or, or_true, false_or, or_false, if_true, if_false, not_true_eq_false, not_false_eq_true, and_self, ne_eq, hLf, hN1, hPl]
      (repeat' (first | apply And.intro | split)) <;> first | omega | exact q
    · have hv2 := hv
      simp only [spF] at hv2
      rw [if_neg c1] at hv2
      have k1 := ih (s + 1) g3 (some (AI (lsU X.1.1 s))) (clsV X.1.1 s) (by omega) (by omega) hv2 hfr3 (plI_fw q3 q4)
      simp only [m_L_speedFor, b_L_speedFor_0, P_L_speedFor_12, b_L_speedFor_12, P_L_speedFor_77, b_L_speedFor_77, P_L_speedFor_83, b_L_speedFor_83, wp_abs, wp_aln0, wp_bipush, wp_copy, wp_cs1, wp_cs2, wp_cs3, wp_cs4, wp_cs5, wp_cs6, wp_cs7, wp_cv1, wp_cv2, wp_cv3, wp_cv4, wp_cv5, wp_cv6, wp_cv7, wp_goto, wp_iald, wp_iceq, wp_icgt, wp_iconst, wp_iln1, wp_iln2, wp_iln3, wp_inc2, wp_iret, wp_isn2, wp_isn3, wp_izeq, wp_ldc, wp_max, wp_min, wp_nop, wp_zret, qpl_kd, qpl_k1, qpl_l1, qpl_gf0, qpl_k2, qpl_l2, qpl_gf1, qpl_k3, qpl_l3, qpl_gf2, qpl_k4, qpl_l4, qpl_gf3, qpl_k5, qpl_l5, qpl_gf4, qpl_k6, qpl_l6, qpl_gf5, qpl_gf6, qpl_pf6, qpl_gf7, qpl_pf7, qpl_gf8, qpl_pf8, qst_kd, qst_gf0, qst_k10, qst_l10, qst_gf1, qst_k29, qst_l29, qst_gf2, qlf_kd, qlf_gf0, qlf_k31, qlf_l31, qlf_gf1, qlf_gf3, qlf_gf4, qlf_gf5, qlf_gf6, qlf_k203, qlf_l203, qlf_gf7, qlf_gf2, qlf_pf2, qlf_gf8, qlf_pf8, wrI_row, cpI_row, row_s, row_n, row_ss, row_sw, upd_s, upd_n, ad_inj, ad_z, ad_z2, Nat.reduceEqDiff, reduceCtorEq, List.cons_append, List.nil_append, Option.toList_some, Option.toList_none, Int.toNat_natCast, List.length_cons, List.length_nil, Int.cast_ofNat_Int, Nat.reduceAdd, Nat.reduceLeDiff, Nat.reduceLT, Nat.reduceMul, Int.reduceAdd, Int.reduceSub, Int.reduceMul, Int.reduceNeg, Int.reduceLT, Int.reduceLE, Int.reduceEq, Int.reduceToNat, eq_self, true_and, and_true, true_or, or_true, false_or, or_false, if_true, if_false, not_true_eq_false, not_false_eq_true, and_self, ne_eq, hLf, hN1, hPl]
      (repeat' (first | apply And.intro | split)) <;> first | omega | exact k1
theorem c_speedFor (hX : RepC g ρ L h X) (hW : WFX X) (hZ : zrI g ρ zt L) {t : Int} (ht : i32 t) (hQ : CQ g ρ L (sSpeedFor t X, X) Q) : WpM zt 79 [AR L, AI t] (g, ρ) Q := by
  obtain ⟨hLf, hN, -⟩ := id hX.1
  obtain ⟨hR, -⟩ := id hX.2.1
  have hU := hW.1.1
  have hWV := hR.wf (by omega) hU
  have hN1 := hN.1
  have hS := hN.2.1
  have e0 : g (ad (ad L 1) 1) 0 = X.1.1 0 0 := hR.l0
  have e5 : g (ad (ad L 1) 1) 5 = X.1.1 5 0 := hR.l5
  have e8 : g (ad (ad L 1) 1) 8 = X.1.1 8 0 := hR.l8
  have b0 := hU.1
  have b5 := hU.2.2.2.2.1
  have b8 := hU.2.2.2.2.2.2.1
  have hPl := hX.1.2.2.2.2.2.1
  obtain ⟨hzt, -, -, -, ⟨y1, y2, y3⟩, -⟩ := id hZ
  have hz3 := hzt 3 (by omega)
  unfold sSpeedFor at hQ
  by_cases c : 0 ≤ t ∧ t ≤ 99999
  · rw [if_pos c] at hQ
    have ho := fun Q => lk_in (zt := zt) (g := g) (ρ := ρ) (lo := 0) (hi := 99999) (by omega) (by omega) c Q
    simp only [m_L_speedFor, b_L_speedFor_0, P_L_speedFor_12, b_L_speedFor_12, P_L_speedFor_77, b_L_speedFor_77, P_L_speedFor_83, b_L_speedFor_83, wp_abs, wp_aln0, wp_bipush, wp_copy, wp_cs1, wp_cs2, wp_cs3, wp_cs4, wp_cs5, wp_cs6, wp_cs7, wp_cv1, wp_cv2, wp_cv3, wp_cv4, wp_cv5, wp_cv6, wp_cv7, wp_goto, wp_iald, wp_iceq, wp_icgt, wp_iconst, wp_iln1, wp_iln2, wp_iln3, wp_inc2, wp_iret, wp_isn2, wp_isn3, wp_izeq, wp_ldc, wp_max, wp_min, wp_nop, wp_zret, qpl_kd, qpl_k1, qpl_l1, qpl_gf0, qpl_k2, qpl_l2, qpl_gf1, qpl_k3, qpl_l3, qpl_gf2, qpl_k4, qpl_l4, qpl_gf3, qpl_k5, qpl_l5, qpl_gf4, qpl_k6, qpl_l6, qpl_gf5, qpl_gf6, qpl_pf6, qpl_gf7, qpl_pf7, qpl_gf8, qpl_pf8, qst_kd, qst_gf0, qst_k10, qst_l10, qst_gf1, qst_k29, qst_l29, qst_gf2, qlf_kd, qlf_gf0, qlf_k31, qlf_l31, qlf_gf1, qlf_gf3, qlf_gf4, qlf_gf5, qlf_gf6, qlf_k203, qlf_l203, qlf_gf7, qlf_gf2, qlf_pf2, qlf_gf8, qlf_pf8, wrI_row, cpI_row, row_s, row_n, row_ss, row_sw, upd_s, upd_n, ad_inj, ad_z, ad_z2, Nat.reduceEqDiff, reduceCtorEq, List.cons_append, List.nil_append, Option.toList_some, Option.toList_none, Int.toNat_natCast, List.length_cons, List.length_nil, Int.cast_ofNat_Int, Nat.reduceAdd, Nat.reduceLeDiff, Nat.reduceLT, Nat.reduceMul, Int.reduceAdd, Int.reduceSub, Int.reduceMul, Int.reduceNeg, Int.reduceLT, Int.reduceLE, Int.reduceEq, Int.reduceToNat, eq_self, true_and, and_true, true_or, or_true, false_or, or_false, if_true, if_false, not_true_eq_false, not_false_eq_true, and_self, ne_eq, hLf, hN1, hPl, ho]
    refine prep_c hX hW (fun g2 q1 q2 => ?_)
    have r3 : g2 (zt 3) 0 = 1 := by
      rw [q1 _ (by unfold ad; omega)]
      exact y3 0 (by decide)
    have k1 := speedFor_loop (zt := zt) hX hW hZ c hQ 9 1 g2 none _ (by omega) (by omega) rfl q1 q2
    simp only [m_L_speedFor, b_L_speedFor_0, P_L_speedFor_12, b_L_speedFor_12, P_L_speedFor_77, b_L_speedFor_77, P_L_speedFor_83, b_L_speedFor_83, wp_abs, wp_aln0, wp_bipush, wp_copy, wp_cs1, wp_cs2, wp_cs3, wp_cs4, wp_cs5, wp_cs6, wp_cs7, wp_cv1, wp_cv2, wp_cv3, wp_cv4, wp_cv5, wp_cv6, wp_cv7, wp_goto, wp_iald, wp_iceq, wp_icgt, wp_iconst, wp_iln1, wp_iln2, wp_iln3, wp_inc2, wp_iret, wp_isn2, wp_isn3, wp_izeq, wp_ldc, wp_max, wp_min, wp_nop, wp_zret, qpl_kd, qpl_k1, qpl_l1, qpl_gf0, qpl_k2, qpl_l2, qpl_gf1, qpl_k3, qpl_l3, qpl_gf2, qpl_k4, qpl_l4, qpl_gf3, qpl_k5, qpl_l5, qpl_gf4, qpl_k6, qpl_l6, qpl_gf5, qpl_gf6, qpl_pf6, qpl_gf7, qpl_pf7, qpl_gf8, qpl_pf8, qst_kd, qst_gf0, qst_k10, qst_l10, qst_gf1, qst_k29, qst_l29, qst_gf2, qlf_kd, qlf_gf0, qlf_k31, qlf_l31, qlf_gf1, qlf_gf3, qlf_gf4, qlf_gf5, qlf_gf6, qlf_k203, qlf_l203, qlf_gf7, qlf_gf2, qlf_pf2, qlf_gf8, qlf_pf8, wrI_row, cpI_row, row_s, row_n, row_ss, row_sw, upd_s, upd_n, ad_inj, ad_z, ad_z2, Nat.reduceEqDiff, reduceCtorEq, List.cons_append, List.nil_append, Option.toList_some, Option.toList_none, Int.toNat_natCast, List.length_cons, List.length_nil, Int.cast_ofNat_Int, Nat.reduceAdd, Nat.reduceLeDiff, Nat.reduceLT, Nat.reduceMul, Int.reduceAdd, Int.reduceSub, Int.reduceMul, Int.reduceNeg, Int.reduceLT, Int.reduceLE, Int.reduceEq, Int.reduceToNat, eq_self, true_and, and_true, true_or, or_true, false_or, or_false, if_true, if_false, not_true_eq_false, not_false_eq_true, and_self, ne_eq, hLf, hN1, hPl, wp_gst, wp_iald4 y1, y2, r3]
    (repeat' (first | apply And.intro | split)) <;> first | omega | exact k1
  · rw [if_neg c] at hQ
    have q := hQ.ro hX
    have ho := fun Q => lk_out (zt := zt) (g := g) (ρ := ρ) (lo := 0) (hi := 99999) ht (by omega) (by omega) c Q
    simp only [m_L_speedFor, b_L_speedFor_0, P_L_speedFor_12, b_L_speedFor_12, P_L_speedFor_77, b_L_speedFor_77, P_L_speedFor_83, b_L_speedFor_83, wp_abs, wp_aln0, wp_bipush, wp_copy, wp_cs1, wp_cs2, wp_cs3, wp_cs4, wp_cs5, wp_cs6, wp_cs7, wp_cv1, wp_cv2, wp_cv3, wp_cv4, wp_cv5, wp_cv6, wp_cv7, wp_goto, wp_iald, wp_iceq, wp_icgt, wp_iconst, wp_iln1, wp_iln2, wp_iln3, wp_inc2, wp_iret, wp_isn2, wp_isn3, wp_izeq, wp_ldc, wp_max, wp_min, wp_nop, wp_zret, qsc_kd, qsc_k1, qsc_l1, qsc_gf1, qsc_k2, qsc_l2, qsc_gf2, qsc_k3, qsc_l3, qsc_gf3, qsc_k4, qsc_l4, qsc_gf4, qsc_k5, qsc_l5, qsc_gf6, qsc_k6, qsc_l6, qsc_gf7, qsc_k7, qsc_l7, qsc_gf9, qsc_k8, qsc_l8, qsc_gf10, qsc_gf0, qsc_pf0, qsc_gf5, qsc_pf5, qsc_gf8, qsc_pf8, qst_kd, qst_gf0, qst_k10, qst_l10, qst_gf1, qst_k29, qst_l29, qst_gf2, qlf_kd, qlf_gf0, qlf_k31, qlf_l31, qlf_gf1, qlf_gf3, qlf_gf4, qlf_gf5, qlf_gf6, qlf_k203, qlf_l203, qlf_gf7, qlf_gf2, qlf_pf2, qlf_gf8, qlf_pf8, wrI_row, cpI_row, row_s, row_n, row_ss, row_sw, upd_s, upd_n, ad_inj, ad_z, ad_z2, Nat.reduceEqDiff, reduceCtorEq, List.cons_append, List.nil_append, Option.toList_some, Option.toList_none, Int.toNat_natCast, List.length_cons, List.length_nil, Int.cast_ofNat_Int, Nat.reduceAdd, Nat.reduceLeDiff, Nat.reduceLT, Nat.reduceMul, Int.reduceAdd, Int.reduceSub, Int.reduceMul, Int.reduceNeg, Int.reduceLT, Int.reduceLE, Int.reduceEq, Int.reduceToNat, eq_self, true_and, and_true, true_or, or_true, false_or, or_false, if_true, if_false, not_true_eq_false, not_false_eq_true, and_self, ne_eq, hLf, hN1, hS, ho]
    (repeat' (first | apply And.intro | split)) <;> first | omega | exact q
end PLC
