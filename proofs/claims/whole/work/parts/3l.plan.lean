/-! THE CLASS'S CALLS THAT PLAN -/
def pF (U : Vw) : Nat := (U 8 0).toNat
def pM (U : Vw) : Nat := (U 0 0).toNat
def pH (U : Vw) : Nat := (U 4 1).toNat
/-- the least sum with a speed -/
def lsU (U : Vw) (s : Int) : Int := lstV (pF U) (pM U) (pH U) (cstV (-1) U) (clsV U s)
theorem cstU_b {U : Vw} (hU : WFV (-1) U) (f m : Nat) : 0 ≤ cstV (-1) U f m ∧ cstV (-1) U f m ≤ 1000000 := by
  unfold cstV
  split
  next hc =>
    have k := kndV_lt hU hc.1
    have h3 := fun j hj => hU.2.2.1 j hj
    have h1 := hU.2.1 m hc.2
    have h4 := hU.2.2.2.1
    have hw : 0 ≤ wrgV U (kndV U f) m ∧ wrgV U (kndV U f) m ≤ 1000000 := by
      unfold wrgV
      split
      next e => omega
      next e =>
        have a1 := h3 (kndV U f * 4 + 2).toNat (by omega)
        have a2 := h3 (kndV U f * 4 + 0).toNat (by omega)
        have a3 := h3 (kndV U f * 4 + 1).toNat (by omega)
        generalize hd : (((U 1 m - U 3 (kndV U f * 4 + 0).toNat).natAbs : Int) + ((U 2 m - U 3 (kndV U f * 4 + 1).toNat).natAbs : Int)) = y at *
        have hD : 0 ≤ y ∧ y ≤ 18 := by omega
        generalize U 3 (kndV U f * 4 + 2).toNat = x at *
        refine ⟨Int.mul_nonneg a1.1 hD.1, ?_⟩
        have := Int.mul_le_mul a1.2 hD.2 hD.1 (by omega : (0 : Int) ≤ 9)
        omega
    split <;> omega
  next hc => omega
section PLC
variable {zt : Nat → Nat} {g : Nat → Nat → Int} {ρ : Ri} {L : Nat} {h : Nat → Nat} {X : XV} {Q : Option AV → Sto → Prop}
theorem prep_c (hX : RepC g ρ L h X) (hW : WFX X) (hQ : ∀ g2 : Nat → Nat → Int, (∀ x, (x < ad L 194 ∨ ad L 201 ≤ x) → g2 x = g x) → plI g2 (ad L 194) (pF X.1.1) (pM X.1.1) (pH X.1.1) (cstV (-1) X.1.1) (clsV X.1.1 (X.1.1 4 0)) → Q none (g2, ρ)) : WpM zt 4 [AR (ad L 194), AR (ad (ad L 1) 1)] (g, ρ) Q := by
  obtain ⟨hLf, hN, -⟩ := id hX.1
  obtain ⟨hR, -⟩ := id hX.2.1
  have hU := hW.1.1
  have hWV := hR.wf (by omega) hU
  have hN1 := hN.1
  have hS := hN.2.1
  have e0 : g (ad (ad L 1) 1) 0 = X.1.1 0 0 := hR.l0
  have e5 : g (ad (ad L 1) 1) 5 = X.1.1 5 0 := hR.l5
  have e8 : g (ad (ad L 1) 1) 8 = X.1.1 8 0 := hR.l8
  have b0 := hU.1
  have b5 := hU.2.2.2.2.1
  have b8 := hU.2.2.2.2.2.2.1
  have hPl := hX.1.2.2.2.2.2.1
  have e4 : g (ad (ad (ad L 1) 1) 4) 1 = X.1.1 4 1 := hR.l4 (by omega)
  have e40 : g (ad (ad (ad L 1) 1) 4) 0 = X.1.1 4 0 := hR.l4 (by omega)
  refine prepare_ok hS hPl (by unfold ad; omega) hWV (fun g2 q1 q2 => hQ g2 (fun x z => q1 x (by unfold ad at *; omega)) ?_)
  rw [e8, e0, e4, e40, hR.cst (by omega) hU, hR.cls] at q2
  exact q2
theorem plan_b (hW : WFX X) : pM X.1.1 ≤ 8 ∧ 1 ≤ pM X.1.1 ∧ 1 ≤ pH X.1.1 ∧ pH X.1.1 ≤ 3 ∧ pF X.1.1 ≤ 99 := by
  have hU := hW.1.1
  have b0 := hU.1
  have b4 := hU.2.2.2.1
  have b8 := hU.2.2.2.2.2.2.1
  unfold pM pH pF
  omega
def sLeast (w : Int) (X : XV) : Int := if 0 ≤ w ∧ w ≤ 1 then lsU X.1.1 (X.1.1 4 0) else -1
theorem c_least (hX : RepC g ρ L h X) (hW : WFX X) {w : Int} (hw : i32 w) (hQ : CQ g ρ L (sLeast w X, X) Q) : WpM zt 75 [AR L, AI w] (g, ρ) Q := by
  obtain ⟨hLf, hN, -⟩ := id hX.1
  obtain ⟨hR, -⟩ := id hX.2.1
  have hU := hW.1.1
  have hWV := hR.wf (by omega) hU
  have hN1 := hN.1
  have hS := hN.2.1
  have e0 : g (ad (ad L 1) 1) 0 = X.1.1 0 0 := hR.l0
  have e5 : g (ad (ad L 1) 1) 5 = X.1.1 5 0 := hR.l5
  have e8 : g (ad (ad L 1) 1) 8 = X.1.1 8 0 := hR.l8
  have b0 := hU.1
  have b5 := hU.2.2.2.2.1
  have b8 := hU.2.2.2.2.2.2.1
  obtain ⟨t1, t2, t3, t4, t5⟩ := plan_b hW
  have hPl := hX.1.2.2.2.2.2.1
  have lb := lstV_b (F := pF X.1.1) (M := pM X.1.1) (h := pH X.1.1) (c := cstV (-1) X.1.1) (cl := clsV X.1.1 (X.1.1 4 0)) (fun f m => (cstU_b hU f m).1)
  unfold sLeast at hQ
  by_cases c : 0 ≤ w ∧ w ≤ 1
  · rw [if_pos c] at hQ
    have ho := fun Q => lk_in (zt := zt) (g := g) (ρ := ρ) (lo := 0) (hi := 1) (by omega) (by omega) c Q
    by_cases c0 : w = 0
    · subst c0
      simp only [m_L_least, b_L_least_0, P_L_least_11, b_L_least_11, P_L_least_39, b_L_least_39, P_L_least_46, b_L_least_46, wp_abs, wp_aln0, wp_copy, wp_cs1, wp_cs2, wp_cs3, wp_cs4, wp_cs5, wp_cs6, wp_cs7, wp_cv1, wp_cv2, wp_cv3, wp_cv4, wp_cv5, wp_cv6, wp_cv7, wp_goto, wp_iconst, wp_iln1, wp_iret, wp_izeq, wp_izne, wp_max, wp_min, wp_nop, wp_zret, qpl_kd, qpl_k1, qpl_l1, qpl_gf0, qpl_k2, qpl_l2, qpl_gf1, qpl_k3, qpl_l3, qpl_gf2, qpl_k4, qpl_l4, qpl_gf3, qpl_k5, qpl_l5, qpl_gf4, qpl_k6, qpl_l6, qpl_gf5, qpl_gf6, qpl_pf6, qpl_gf7, qpl_pf7, qpl_gf8, qpl_pf8, qst_kd, qst_gf0, qst_k10, qst_l10, qst_gf1, qst_k29, qst_l29, qst_gf2, qlf_kd, qlf_gf0, qlf_k31, qlf_l31, qlf_gf1, qlf_gf3, qlf_gf4, qlf_gf5, qlf_gf6, qlf_k203, qlf_l203, qlf_gf7, qlf_gf2, qlf_pf2, qlf_gf8, qlf_pf8, wrI_row, cpI_row, row_s, row_n, row_ss, row_sw, upd_s, upd_n, ad_inj, ad_z, ad_z2, Nat.reduceEqDiff, reduceCtorEq, List.cons_append, List.nil_append, Option.toList_some, Option.toList_none, Int.toNat_natCast, List.length_cons, List.length_nil, Int.cast_ofNat_Int, Nat.reduceAdd, Nat.reduceLeDiff, Nat.reduceLT, Nat.reduceMul, Int.reduceAdd, Int.reduceSub, Int.reduceMul, Int.reduceNeg, Int.reduceLT, Int.reduceLE, Int.reduceEq, Int.reduceToNat, eq_self, true_and, and_true, true_or, or_true, false_or, or_false, if_true, if_false, not_true_eq_false, not_false_eq_true, and_self, ne_eq, hLf, hN1, hPl, ho]
      refine prep_c hX hW (fun g2 q1 q2 => ?_)
      simp only [m_L_least, b_L_least_0, P_L_least_11, b_L_least_11, P_L_least_39, b_L_least_39, P_L_least_46, b_L_least_46, wp_abs, wp_aln0, wp_copy, wp_cs1, wp_cs2, wp_cs3, wp_cs4, wp_cs5, wp_cs6, wp_cs7, wp_cv1, wp_cv2, wp_cv3, wp_cv4, wp_cv5, wp_cv6, wp_cv7, wp_goto, wp_iconst, wp_iln1, wp_iret, wp_izeq, wp_izne, wp_max, wp_min, wp_nop, wp_zret, qpl_kd, qpl_k1, qpl_l1, qpl_gf0, qpl_k2, qpl_l2, qpl_gf1, qpl_k3, qpl_l3, qpl_gf2, qpl_k4, qpl_l4, qpl_gf3, qpl_k5, qpl_l5, qpl_gf4, qpl_k6, qpl_l6, qpl_gf5, qpl_gf6, qpl_pf6, qpl_gf7, qpl_pf7, qpl_gf8, qpl_pf8, qst_kd, qst_gf0, qst_k10, qst_l10, qst_gf1, qst_k29, qst_l29, qst_gf2, qlf_kd, qlf_gf0, qlf_k31, qlf_l31, qlf_gf1, qlf_gf3, qlf_gf4, qlf_gf5, qlf_gf6, qlf_k203, qlf_l203, qlf_gf7, qlf_gf2, qlf_pf2, qlf_gf8, qlf_pf8, wrI_row, cpI_row, row_s, row_n, row_ss, row_sw, upd_s, upd_n, ad_inj, ad_z, ad_z2, Nat.reduceEqDiff, reduceCtorEq, List.cons_append, List.nil_append, Option.toList_some, Option.toList_none, Int.toNat_natCast, List.length_cons, List.length_nil, Int.cast_ofNat_Int, Nat.reduceAdd, Nat.reduceLeDiff, Nat.reduceLT, Nat.reduceMul, Int.reduceAdd, Int.reduceSub, Int.reduceMul, Int.reduceNeg, Int.reduceLT, Int.reduceLE, Int.reduceEq, Int.reduceToNat, eq_self, true_and, and_true, true_or, or_true, false_or, or_false, if_true, if_false, not_true_eq_false, not_false_eq_true, and_self, ne_eq, hLf, hN1, hPl]
      refine leastFromEnd_ok hPl q2 t1 t3 t4 t5 (fun f m => cstU_b hU f m) (fun R hR2 => ?_)
      have q := hQ (setRow g2 (ad (ad L 194) 4) R) ρ h (hX.kept hW (fun x z1 z2 => by rw [row_n (by unfold ad at *; omega), q1 x (by unfold ad at *; omega)])) ⟨rfl, fun x z => ⟨rfl, by rw [row_n (by unfold ad at *; omega), q1 x (by unfold ad at *; omega)]⟩⟩
      simp only [m_L_least, b_L_least_0, P_L_least_11, b_L_least_11, P_L_least_39, b_L_least_39, P_L_least_46, b_L_least_46, wp_abs, wp_aln0, wp_copy, wp_cs1, wp_cs2, wp_cs3, wp_cs4, wp_cs5, wp_cs6, wp_cs7, wp_cv1, wp_cv2, wp_cv3, wp_cv4, wp_cv5, wp_cv6, wp_cv7, wp_goto, wp_iconst, wp_iln1, wp_iret, wp_izeq, wp_izne, wp_max, wp_min, wp_nop, wp_zret, qpl_kd, qpl_k1, qpl_l1, qpl_gf0, qpl_k2, qpl_l2, qpl_gf1, qpl_k3, qpl_l3, qpl_gf2, qpl_k4, qpl_l4, qpl_gf3, qpl_k5, qpl_l5, qpl_gf4, qpl_k6, qpl_l6, qpl_gf5, qpl_gf6, qpl_pf6, qpl_gf7, qpl_pf7, qpl_gf8, qpl_pf8, qlf_kd, qlf_gf0, qlf_k31, qlf_l31, qlf_gf1, qlf_gf3, qlf_gf4, qlf_gf5, qlf_gf6, qlf_k203, qlf_l203, qlf_gf7, qlf_gf2, qlf_pf2, qlf_gf8, qlf_pf8, wrI_row, cpI_row, row_s, row_n, row_ss, row_sw, upd_s, upd_n, ad_inj, ad_z, ad_z2, Nat.reduceEqDiff, reduceCtorEq, List.cons_append, List.nil_append, Option.toList_some, Option.toList_none, Int.toNat_natCast, List.length_cons, List.length_nil, Int.cast_ofNat_Int, Nat.reduceAdd, Nat.reduceLeDiff, Nat.reduceLT, Nat.reduceMul, Int.reduceAdd, Int.reduceSub, Int.reduceMul, Int.reduceNeg, Int.reduceLT, Int.reduceLE, Int.reduceEq, Int.reduceToNat, eq_self, true_and, and_true, true_or, or_true, false_or, or_false, if_true, if_false, not_true_eq_false, not_false_eq_true, and_self, ne_eq, hPl]
      (repeat' (first | apply And.intro | split)) <;> first | omega | exact q
    · simp only [m_L_least, b_L_least_0, P_L_least_11, b_L_least_11, P_L_least_39, b_L_least_39, P_L_least_46, b_L_least_46, wp_abs, wp_aln0, wp_copy, wp_cs1, wp_cs2, wp_cs3, wp_cs4, wp_cs5, wp_cs6, wp_cs7, wp_cv1, wp_cv2, wp_cv3, wp_cv4, wp_cv5, wp_cv6, wp_cv7, wp_goto, wp_iconst, wp_iln1, wp_iret, wp_izeq, wp_izne, wp_max, wp_min, wp_nop, wp_zret, qpl_kd, qpl_k1, qpl_l1, qpl_gf0, qpl_k2, qpl_l2, qpl_gf1, qpl_k3, qpl_l3, qpl_gf2, qpl_k4, qpl_l4, qpl_gf3, qpl_k5, qpl_l5, qpl_gf4, qpl_k6, qpl_l6, qpl_gf5, qpl_gf6, qpl_pf6, qpl_gf7, qpl_pf7, qpl_gf8, qpl_pf8, qst_kd, qst_gf0, qst_k10, qst_l10, qst_gf1, qst_k29, qst_l29, qst_gf2, qlf_kd, qlf_gf0, qlf_k31, qlf_l31, qlf_gf1, qlf_gf3, qlf_gf4, qlf_gf5, qlf_gf6, qlf_k203, qlf_l203, qlf_gf7, qlf_gf2, qlf_pf2, qlf_gf8, qlf_pf8, wrI_row, cpI_row, row_s, row_n, row_ss, row_sw, upd_s, upd_n, ad_inj, ad_z, ad_z2, Nat.reduceEqDiff, reduceCtorEq, List.cons_append, List.nil_append, Option.toList_some, Option.toList_none, Int.toNat_natCast, List.length_cons, List.length_nil, Int.cast_ofNat_Int, Nat.reduceAdd, Nat.reduceLeDiff, Nat.reduceLT, Nat.reduceMul, Int.reduceAdd, Int.reduceSub, Int.reduceMul, Int.reduceNeg, Int.reduceLT, Int.reduceLE, Int.reduceEq, Int.reduceToNat, eq_self, true_and, and_true, true_or, or_true, false_or, or_false, if_true, if_false, not_true_eq_false, not_false_eq_true, and_self, ne_eq, hLf, hN1, hPl, ho]
      refine prep_c hX hW (fun g2 q1 q2 => ?_)
      simp only [m_L_least, b_L_least_0, P_L_least_11, b_L_least_11, P_L_least_39, b_L_least_39, P_L_least_46, b_L_least_46, wp_abs, wp_aln0, wp_copy, wp_cs1, wp_cs2, wp_cs3, wp_cs4, wp_cs5, wp_cs6, wp_cs7, wp_cv1, wp_cv2, wp_cv3, wp_cv4, wp_cv5, wp_cv6, wp_cv7, wp_goto, wp_iconst, wp_iln1, wp_iret, wp_izeq, wp_izne, wp_max, wp_min, wp_nop, wp_zret, qpl_kd, qpl_k1, qpl_l1, qpl_gf0, qpl_k2, qpl_l2, qpl_gf1, qpl_k3, qpl_l3, qpl_gf2, qpl_k4, qpl_l4, qpl_gf3, qpl_k5, qpl_l5, qpl_gf4, qpl_k6, qpl_l6, qpl_gf5, qpl_gf6, qpl_pf6, qpl_gf7, qpl_pf7, qpl_gf8, qpl_pf8, qst_kd, qst_gf0, qst_k10, qst_l10, qst_gf1, qst_k29, qst_l29, qst_gf2, qlf_kd, qlf_gf0, qlf_k31, qlf_l31, qlf_gf1, qlf_gf3, qlf_gf4, qlf_gf5, qlf_gf6, qlf_k203, qlf_l203, qlf_gf7, qlf_gf2, qlf_pf2, qlf_gf8, qlf_pf8, wrI_row, cpI_row, row_s, row_n, row_ss, row_sw, upd_s, upd_n, ad_inj, ad_z, ad_z2, Nat.reduceEqDiff, reduceCtorEq, List.cons_append, List.nil_append, Option.toList_some, Option.toList_none, Int.toNat_natCast, List.length_cons, List.length_nil, Int.cast_ofNat_Int, Nat.reduceAdd, Nat.reduceLeDiff, Nat.reduceLT, Nat.reduceMul, Int.reduceAdd, Int.reduceSub, Int.reduceMul, Int.reduceNeg, Int.reduceLT, Int.reduceLE, Int.reduceEq, Int.reduceToNat, eq_self, true_and, and_true, true_or, or_true, false_or, or_false, if_true, if_false, not_true_eq_false, not_false_eq_true, and_self, ne_eq, hLf, hN1, hPl, c0]
      (repeat' (first | apply And.intro | split)) <;> first | omega | skip
      refine leastFromStart_ok hPl q2 t1 t3 t4 t5 (fun f m => cstU_b hU f m) (fun g3 q3 => ?_)
      have q := hQ g3 ρ h (hX.kept hW (fun x z1 z2 => by rw [q3 x (by unfold ad at *; omega) (by unfold ad at *; omega), q1 x (by unfold ad at *; omega)])) ⟨rfl, fun x z => ⟨rfl, by rw [q3 x (by unfold ad at *; omega) (by unfold ad at *; omega), q1 x (by unfold ad at *; omega)]⟩⟩
      simp only [m_L_least, b_L_least_0, P_L_least_11, b_L_least_11, P_L_least_39, b_L_least_39, P_L_least_46, b_L_least_46, wp_abs, wp_aln0, wp_copy, wp_cs1, wp_cs2, wp_cs3, wp_cs4, wp_cs5, wp_cs6, wp_cs7, wp_cv1, wp_cv2, wp_cv3, wp_cv4, wp_cv5, wp_cv6, wp_cv7, wp_goto, wp_iconst, wp_iln1, wp_iret, wp_izeq, wp_izne, wp_max, wp_min, wp_nop, wp_zret, qpl_kd, qpl_k1, qpl_l1, qpl_gf0, qpl_k2, qpl_l2, qpl_gf1, qpl_k3, qpl_l3, qpl_gf2, qpl_k4, qpl_l4, qpl_gf3, qpl_k5, qpl_l5, qpl_gf4, qpl_k6, qpl_l6, qpl_gf5, qpl_gf6, qpl_pf6, qpl_gf7, qpl_pf7, qpl_gf8, qpl_pf8, qlf_kd, qlf_gf0, qlf_k31, qlf_l31, qlf_gf1, qlf_gf3, qlf_gf4, qlf_gf5, qlf_gf6, qlf_k203, qlf_l203, qlf_gf7, qlf_gf2, qlf_pf2, qlf_gf8, qlf_pf8, wrI_row, cpI_row, row_s, row_n, row_ss, row_sw, upd_s, upd_n, ad_inj, ad_z, ad_z2, Nat.reduceEqDiff, reduceCtorEq, List.cons_append, List.nil_append, Option.toList_some, Option.toList_none, Int.toNat_natCast, List.length_cons, List.length_nil, Int.cast_ofNat_Int, Nat.reduceAdd, Nat.reduceLeDiff, Nat.reduceLT, Nat.reduceMul, Int.reduceAdd, Int.reduceSub, Int.reduceMul, Int.reduceNeg, Int.reduceLT, Int.reduceLE, Int.reduceEq, Int.reduceToNat, eq_self, true_and, and_true, true_or, or_true, false_or, or_false, if_true, if_false, not_true_eq_false, not_false_eq_true, and_self, ne_eq, hPl]
      (repeat' (first | apply And.intro | split)) <;> first | omega | exact q
  · rw [if_neg c] at hQ
    have q := hQ.ro hX
    have ho := fun Q => lk_out (zt := zt) (g := g) (ρ := ρ) (lo := 0) (hi := 1) hw (by omega) (by omega) c Q
    simp only [m_L_least, b_L_least_0, P_L_least_11, b_L_least_11, P_L_least_39, b_L_least_39, P_L_least_46, b_L_least_46, wp_abs, wp_aln0, wp_copy, wp_cs1, wp_cs2, wp_cs3, wp_cs4, wp_cs5, wp_cs6, wp_cs7, wp_cv1, wp_cv2, wp_cv3, wp_cv4, wp_cv5, wp_cv6, wp_cv7, wp_goto, wp_iconst, wp_iln1, wp_iret, wp_izeq, wp_izne, wp_max, wp_min, wp_nop, wp_zret, qsc_kd, qsc_k1, qsc_l1, qsc_gf1, qsc_k2, qsc_l2, qsc_gf2, qsc_k3, qsc_l3, qsc_gf3, qsc_k4, qsc_l4, qsc_gf4, qsc_k5, qsc_l5, qsc_gf6, qsc_k6, qsc_l6, qsc_gf7, qsc_k7, qsc_l7, qsc_gf9, qsc_k8, qsc_l8, qsc_gf10, qsc_gf0, qsc_pf0, qsc_gf5, qsc_pf5, qsc_gf8, qsc_pf8, qst_kd, qst_gf0, qst_k10, qst_l10, qst_gf1, qst_k29, qst_l29, qst_gf2, qlf_kd, qlf_gf0, qlf_k31, qlf_l31, qlf_gf1, qlf_gf3, qlf_gf4, qlf_gf5, qlf_gf6, qlf_k203, qlf_l203, qlf_gf7, qlf_gf2, qlf_pf2, qlf_gf8, qlf_pf8, wrI_row, cpI_row, row_s, row_n, row_ss, row_sw, upd_s, upd_n, ad_inj, ad_z, ad_z2, Nat.reduceEqDiff, reduceCtorEq, List.cons_append, List.nil_append, Option.toList_some, Option.toList_none, Int.toNat_natCast, List.length_cons, List.length_nil, Int.cast_ofNat_Int, Nat.reduceAdd, Nat.reduceLeDiff, Nat.reduceLT, Nat.reduceMul, Int.reduceAdd, Int.reduceSub, Int.reduceMul, Int.reduceNeg, Int.reduceLT, Int.reduceLE, Int.reduceEq, Int.reduceToNat, eq_self, true_and, and_true, true_or, or_true, false_or, or_false, if_true, if_false, not_true_eq_false, not_false_eq_true, and_self, ne_eq, hLf, hN1, hS, ho]
    (repeat' (first | apply And.intro | split)) <;> first | omega | exact q
end PLC
