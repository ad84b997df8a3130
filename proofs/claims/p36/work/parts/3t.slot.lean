/-! take, restore -/
section SLT
variable {zt : Nat → Nat} {g : Nat → Nat → Int} {ρ : Ri} {L : Nat} {h : Nat → Nat} {X : XV} {Q : Option AV → Sto → Prop}
def takX (X : XV) (i : Nat) : XV := ((X.1.1, (fun j => if j = i then true else X.1.2.1 j), fun j => if j = i then X.1.1 else X.1.2.2 j), (recX X).2)
def sTake (i : Int) (X : XV) : Int × XV := if 0 ≤ i ∧ i ≤ 1 then (X.1.1 8 0, takX X i.toNat) else (-1, X)
def sRestore (i : Int) (X : XV) : Int × XV := if 0 ≤ i ∧ i ≤ 1 then (if X.1.2.1 i.toNat = true then (X.1.2.2 i.toNat 8 0, actX X (X.1.2.2 i.toNat)) else (-2, X)) else (-1, X)
theorem sTake_wf {i : Int} (hW : WFX X) : WFX (sTake i X).2 := by
  unfold sTake
  split
  next c =>
    obtain ⟨h1, h2⟩ := recX_wf hW
    refine ⟨⟨hW.1.1, fun j hj hq => ?_⟩, h2⟩
    show WFV (-1) (if j = i.toNat then X.1.1 else X.1.2.2 j)
    replace hq : (if j = i.toNat then true else X.1.2.1 j) = true := hq
    by_cases e : j = i.toNat
    · rw [if_pos e]
      exact hW.1.1
    · rw [if_neg e] at hq ⊢
      exact hW.1.2 j hj hq
  next c => exact hW
theorem sRestore_wf {i : Int} (hW : WFX X) : WFX (sRestore i X).2 := by
  unfold sRestore
  split
  next c =>
    split
    next c2 => exact actX_wf hW (hW.1.2 _ (by omega) c2)
    next c2 => exact hW
  next c => exact hW
theorem c_restore (hX : RepC g ρ L h X) (hW : WFX X) {i : Int} (hi : i32 i) (hQ : CQ g ρ L (sRestore i X) Q) : WpM zt 62 [AR L, AI i] (g, ρ) Q := by
  obtain ⟨hLf, hN, -⟩ := id hX.1
  obtain ⟨hR, -⟩ := id hX.2.1
  have hU := hW.1.1
  have hWV := hR.wf (by omega) hU
  have hN1 := hN.1
  have hS := hN.2.1
  have e0 : g (ad (ad L 1) 1) 0 = X.1.1 0 0 := hR.l0
  have e5 : g (ad (ad L 1) 1) 5 = X.1.1 5 0 := hR.l5
  have e8 : g (ad (ad L 1) 1) 8 = X.1.1 8 0 := hR.l8
  have b0 := hU.1
  have b5 := hU.2.2.2.2.1
  have b8 := hU.2.2.2.2.2.2.1
  unfold sRestore at hQ
  obtain ⟨-, k0, k1, -, -⟩ := id hX.2.1
  by_cases c1 : 0 ≤ i ∧ i ≤ 1
  · have ho1 := fun Q => lk_in (zt := zt) (g := g) (ρ := ρ) (lo := 0) (hi := 1) (by omega) (by omega) c1 Q
    rw [if_pos c1] at hQ
    have kk : g (ad (ad L 1) 29) i.toNat = if X.1.2.1 i.toNat = true then 1 else 0 := by
      rcases (by omega : i = 0 ∨ i = 1) with rfl | rfl
      · exact k0
      · exact k1
    by_cases c2 : X.1.2.1 i.toNat = true
    · rw [if_pos c2] at hQ kk
      simp only [m_L_restore, b_L_restore_0, P_L_restore_11, b_L_restore_11, P_L_restore_26, b_L_restore_26, wp_abs, wp_aln0, wp_bald, wp_bipush, wp_copy, wp_cs1, wp_cs2, wp_cs3, wp_cs4, wp_cs5, wp_cs6, wp_cs7, wp_cv1, wp_cv2, wp_cv3, wp_cv4, wp_cv5, wp_cv6, wp_cv7, wp_iconst, wp_iln1, wp_iret, wp_izeq, wp_izne, wp_max, wp_min, wp_qald2, wp_qald3, wp_zret, qsc_kd, qsc_k1, qsc_l1, qsc_gf1, qsc_k2, qsc_l2, qsc_gf2, qsc_k3, qsc_l3, qsc_gf3, qsc_k4, qsc_l4, qsc_gf4, qsc_k5, qsc_l5, qsc_gf6, qsc_k6, qsc_l6, qsc_gf7, qsc_k7, qsc_l7, qsc_gf9, qsc_k8, qsc_l8, qsc_gf10, qsc_gf0, qsc_pf0, qsc_gf5, qsc_pf5, qsc_gf8, qsc_pf8, qst_kd, qst_gf0, qst_k10, qst_l10, qst_gf1, qst_k29, qst_l29, qst_gf2, qlf_kd, qlf_gf0, qlf_k31, qlf_l31, qlf_gf1, qlf_gf3, qlf_gf4, qlf_gf5, qlf_gf6, qlf_k203, qlf_l203, qlf_gf7, qlf_gf2, qlf_pf2, qlf_gf8, qlf_pf8, wrI_row, cpI_row, row_s, row_n, row_ss, row_sw, upd_s, upd_n, ad_inj, ad_z, ad_z2, Nat.reduceEqDiff, reduceCtorEq, List.cons_append, List.nil_append, Option.toList_some, Option.toList_none, Int.toNat_natCast, List.length_cons, List.length_nil, Int.cast_ofNat_Int, Nat.reduceAdd, Nat.reduceLeDiff, Nat.reduceLT, Nat.reduceMul, Int.reduceAdd, Int.reduceSub, Int.reduceMul, Int.reduceNeg, Int.reduceLT, Int.reduceLE, Int.reduceEq, Int.reduceToNat, eq_self, true_and, and_true, true_or, or_true, false_or, or_false, if_true, if_false, not_true_eq_false, not_false_eq_true, and_self, ne_eq, hLf, hN1, hS, ho1, kk]
      (repeat' (first | apply And.intro | split)) <;> first | omega | skip
      refine recordState_ok hX hW (fun g' ρ' h' j1 j2 j3 j4 => ?_)
      have hLf' := j1.1.1
      have hN' := j1.1.2.1
      have hN1' := hN'.1
      have hS' := hN'.2.1
      have key : ∃ u, ρ'.1 (ad (ad L 1) 10) i.toNat = some (ad (ad L 1) u) ∧ isSc ρ' (ad (ad L 1) u) ∧ (u = 11 ∨ u = 20) ∧ LR (-99) (vwC g' (ad (ad L 1) u)) (X.1.2.2 i.toNat) := by
        rcases (by omega : i = 0 ∨ i = 1) with rfl | rfl
        · exact ⟨11, hN'.2.2.2.2.1, hN'.2.2.1, Or.inl rfl, j1.2.1.2.2.2.1 c2⟩
        · exact ⟨20, hN'.2.2.2.2.2, hN'.2.2.2.1, Or.inr rfl, j1.2.1.2.2.2.2 c2⟩
      obtain ⟨u, u1, u2, u3, u4⟩ := key
      simp only [m_L_restore, b_L_restore_0, P_L_restore_11, b_L_restore_11, P_L_restore_26, b_L_restore_26, wp_abs, wp_aln0, wp_bald, wp_bipush, wp_copy, wp_cs1, wp_cs2, wp_cs3, wp_cs4, wp_cs5, wp_cs6, wp_cs7, wp_cv1, wp_cv2, wp_cv3, wp_cv4, wp_cv5, wp_cv6, wp_cv7, wp_iconst, wp_iln1, wp_iret, wp_izeq, wp_izne, wp_max, wp_min, wp_qald2, wp_qald3, wp_zret, qsc_kd, qsc_k1, qsc_l1, qsc_gf1, qsc_k2, qsc_l2, qsc_gf2, qsc_k3, qsc_l3, qsc_gf3, qsc_k4, qsc_l4, qsc_gf4, qsc_k5, qsc_l5, qsc_gf6, qsc_k6, qsc_l6, qsc_gf7, qsc_k7, qsc_l7, qsc_gf9, qsc_k8, qsc_l8, qsc_gf10, qsc_gf0, qsc_pf0, qsc_gf5, qsc_pf5, qsc_gf8, qsc_pf8, qst_kd, qst_gf0, qst_k10, qst_l10, qst_gf1, qst_k29, qst_l29, qst_gf2, qlf_kd, qlf_gf0, qlf_k31, qlf_l31, qlf_gf1, qlf_gf3, qlf_gf4, qlf_gf5, qlf_gf6, qlf_k203, qlf_l203, qlf_gf7, qlf_gf2, qlf_pf2, qlf_gf8, qlf_pf8, wrI_row, cpI_row, row_s, row_n, row_ss, row_sw, upd_s, upd_n, ad_inj, ad_z, ad_z2, Nat.reduceEqDiff, reduceCtorEq, List.cons_append, List.nil_append, Option.toList_some, Option.toList_none, Int.toNat_natCast, List.length_cons, List.length_nil, Int.cast_ofNat_Int, Nat.reduceAdd, Nat.reduceLeDiff, Nat.reduceLT, Nat.reduceMul, Int.reduceAdd, Int.reduceSub, Int.reduceMul, Int.reduceNeg, Int.reduceLT, Int.reduceLE, Int.reduceEq, Int.reduceToNat, eq_self, true_and, and_true, true_or, or_true, false_or, or_false, if_true, if_false, not_true_eq_false, not_false_eq_true, and_self, ne_eq, hLf', hN1', hS', u1]
      (repeat' (first | apply And.intro | split)) <;> first | omega | skip
      refine copyFrom_ok hS' u2 (by unfold ad; omega) (fun g2 he hf => ?_)
      have hl := u4.eq (hW.1.2 _ (by omega) c2) he
      have r8 : g2 (ad (ad L 1) 1) 8 = X.1.2.2 i.toNat 8 0 := hl.l8
      have q := hQ g2 ρ' h' (j1.now hW hl (fun x z => hf x (by unfold ad at *; omega))) (Fr.of j2 j3 j4 (fun x z => hf x (by unfold ad at *; omega)))
      simp only [m_L_restore, b_L_restore_0, P_L_restore_11, b_L_restore_11, P_L_restore_26, b_L_restore_26, wp_abs, wp_aln0, wp_bald, wp_bipush, wp_copy, wp_cs1, wp_cs2, wp_cs3, wp_cs4, wp_cs5, wp_cs6, wp_cs7, wp_cv1, wp_cv2, wp_cv3, wp_cv4, wp_cv5, wp_cv6, wp_cv7, wp_iconst, wp_iln1, wp_iret, wp_izeq, wp_izne, wp_max, wp_min, wp_qald2, wp_qald3, wp_zret, qsc_kd, qsc_k1, qsc_l1, qsc_gf1, qsc_k2, qsc_l2, qsc_gf2, qsc_k3, qsc_l3, qsc_gf3, qsc_k4, qsc_l4, qsc_gf4, qsc_k5, qsc_l5, qsc_gf6, qsc_k6, qsc_l6, qsc_gf7, qsc_k7, qsc_l7, qsc_gf9, qsc_k8, qsc_l8, qsc_gf10, qsc_gf0, qsc_pf0, qsc_gf5, qsc_pf5, qsc_gf8, qsc_pf8, qst_kd, qst_gf0, qst_k10, qst_l10, qst_gf1, qst_k29, qst_l29, qst_gf2, qlf_kd, qlf_gf0, qlf_k31, qlf_l31, qlf_gf1, qlf_gf3, qlf_gf4, qlf_gf5, qlf_gf6, qlf_k203, qlf_l203, qlf_gf7, qlf_gf2, qlf_pf2, qlf_gf8, qlf_pf8, wrI_row, cpI_row, row_s, row_n, row_ss, row_sw, upd_s, upd_n, ad_inj, ad_z, ad_z2, Nat.reduceEqDiff, reduceCtorEq, List.cons_append, List.nil_append, Option.toList_some, Option.toList_none, Int.toNat_natCast, List.length_cons, List.length_nil, Int.cast_ofNat_Int, Nat.reduceAdd, Nat.reduceLeDiff, Nat.reduceLT, Nat.reduceMul, Int.reduceAdd, Int.reduceSub, Int.reduceMul, Int.reduceNeg, Int.reduceLT, Int.reduceLE, Int.reduceEq, Int.reduceToNat, eq_self, true_and, and_true, true_or, or_true, false_or, or_false, if_true, if_false, not_true_eq_false, not_false_eq_true, and_self, ne_eq, hLf', hN1', hS', r8]
      (repeat' (first | apply And.intro | split)) <;> first | omega | exact q
    · rw [if_neg c2] at hQ kk
      have q := hQ.ro hX
      simp only [m_L_restore, b_L_restore_0, P_L_restore_11, b_L_restore_11, P_L_restore_26, b_L_restore_26, wp_abs, wp_aln0, wp_bald, wp_bipush, wp_copy, wp_cs1, wp_cs2, wp_cs3, wp_cs4, wp_cs5, wp_cs6, wp_cs7, wp_cv1, wp_cv2, wp_cv3, wp_cv4, wp_cv5, wp_cv6, wp_cv7, wp_iconst, wp_iln1, wp_iret, wp_izeq, wp_izne, wp_max, wp_min, wp_qald2, wp_qald3, wp_zret, qsc_kd, qsc_k1, qsc_l1, qsc_gf1, qsc_k2, qsc_l2, qsc_gf2, qsc_k3, qsc_l3, qsc_gf3, qsc_k4, qsc_l4, qsc_gf4, qsc_k5, qsc_l5, qsc_gf6, qsc_k6, qsc_l6, qsc_gf7, qsc_k7, qsc_l7, qsc_gf9, qsc_k8, qsc_l8, qsc_gf10, qsc_gf0, qsc_pf0, qsc_gf5, qsc_pf5, qsc_gf8, qsc_pf8, qst_kd, qst_gf0, qst_k10, qst_l10, qst_gf1, qst_k29, qst_l29, qst_gf2, qlf_kd, qlf_gf0, qlf_k31, qlf_l31, qlf_gf1, qlf_gf3, qlf_gf4, qlf_gf5, qlf_gf6, qlf_k203, qlf_l203, qlf_gf7, qlf_gf2, qlf_pf2, qlf_gf8, qlf_pf8, wrI_row, cpI_row, row_s, row_n, row_ss, row_sw, upd_s, upd_n, ad_inj, ad_z, ad_z2, Nat.reduceEqDiff, reduceCtorEq, List.cons_append, List.nil_append, Option.toList_some, Option.toList_none, Int.toNat_natCast, List.length_cons, List.length_nil, Int.cast_ofNat_Int, Nat.reduceAdd, Nat.reduceLeDiff, Nat.reduceLT, Nat.reduceMul, Int.reduceAdd, Int.reduceSub, Int.reduceMul, Int.reduceNeg, Int.reduceLT, Int.reduceLE, Int.reduceEq, Int.reduceToNat, eq_self, true_and, and_true, true_or, or_true, false_or, or_false, if_true, if_false, not_true_eq_false, not_false_eq_true, and_self, ne_eq, hLf, hN1, hS, ho1, kk]
      (repeat' (first | apply And.intro | split)) <;> first | omega | exact q
  · have ho1 := fun Q => lk_out (zt := zt) (g := g) (ρ := ρ) (lo := 0) (hi := 1) hi (by omega) (by omega) c1 Q
    rw [if_neg c1] at hQ
    have q := hQ.ro hX
    simp only [m_L_restore, b_L_restore_0, P_L_restore_11, b_L_restore_11, P_L_restore_26, b_L_restore_26, wp_abs, wp_aln0, wp_bald, wp_bipush, wp_copy, wp_cs1, wp_cs2, wp_cs3, wp_cs4, wp_cs5, wp_cs6, wp_cs7, wp_cv1, wp_cv2, wp_cv3, wp_cv4, wp_cv5, wp_cv6, wp_cv7, wp_iconst, wp_iln1, wp_iret, wp_izeq, wp_izne, wp_max, wp_min, wp_qald2, wp_qald3, wp_zret, qsc_kd, qsc_k1, qsc_l1, qsc_gf1, qsc_k2, qsc_l2, qsc_gf2, qsc_k3, qsc_l3, qsc_gf3, qsc_k4, qsc_l4, qsc_gf4, qsc_k5, qsc_l5, qsc_gf6, qsc_k6, qsc_l6, qsc_gf7, qsc_k7, qsc_l7, qsc_gf9, qsc_k8, qsc_l8, qsc_gf10, qsc_gf0, qsc_pf0, qsc_gf5, qsc_pf5, qsc_gf8, qsc_pf8, qst_kd, qst_gf0, qst_k10, qst_l10, qst_gf1, qst_k29, qst_l29, qst_gf2, qlf_kd, qlf_gf0, qlf_k31, qlf_l31, qlf_gf1, qlf_gf3, qlf_gf4, qlf_gf5, qlf_gf6, qlf_k203, qlf_l203, qlf_gf7, qlf_gf2, qlf_pf2, qlf_gf8, qlf_pf8, wrI_row, cpI_row, row_s, row_n, row_ss, row_sw, upd_s, upd_n, ad_inj, ad_z, ad_z2, Nat.reduceEqDiff, reduceCtorEq, List.cons_append, List.nil_append, Option.toList_some, Option.toList_none, Int.toNat_natCast, List.length_cons, List.length_nil, Int.cast_ofNat_Int, Nat.reduceAdd, Nat.reduceLeDiff, Nat.reduceLT, Nat.reduceMul, Int.reduceAdd, Int.reduceSub, Int.reduceMul, Int.reduceNeg, Int.reduceLT, Int.reduceLE, Int.reduceEq, Int.reduceToNat, eq_self, true_and, and_true, true_or, or_true, false_or, or_false, if_true, if_false, not_true_eq_false, not_false_eq_true, and_self, ne_eq, hLf, hN1, hS, ho1]
    (repeat' (first | apply And.intro | split)) <;> first | omega | exact q
theorem c_take (hX : RepC g ρ L h X) (hW : WFX X) {i : Int} (hi : i32 i) (hQ : CQ g ρ L (sTake i X) Q) : WpM zt 61 [AR L, AI i] (g, ρ) Q := by
  obtain ⟨hLf, hN, -⟩ := id hX.1
  obtain ⟨hR, -⟩ := id hX.2.1
  have hU := hW.1.1
  have hWV := hR.wf (by omega) hU
  have hN1 := hN.1
  have hS := hN.2.1
  have e0 : g (ad (ad L 1) 1) 0 = X.1.1 0 0 := hR.l0
  have e5 : g (ad (ad L 1) 1) 5 = X.1.1 5 0 := hR.l5
  have e8 : g (ad (ad L 1) 1) 8 = X.1.1 8 0 := hR.l8
  have b0 := hU.1
  have b5 := hU.2.2.2.2.1
  have b8 := hU.2.2.2.2.2.2.1
  unfold sTake at hQ
  by_cases c1 : 0 ≤ i ∧ i ≤ 1
  · have ho1 := fun Q => lk_in (zt := zt) (g := g) (ρ := ρ) (lo := 0) (hi := 1) (by omega) (by omega) c1 Q
    rw [if_pos c1] at hQ
    simp only [m_L_take, b_L_take_0, P_L_take_11, b_L_take_11, wp_abs, wp_aln0, wp_bast, wp_copy, wp_cs1, wp_cs2, wp_cs3, wp_cs4, wp_cs5, wp_cs6, wp_cs7, wp_cv1, wp_cv2, wp_cv3, wp_cv4, wp_cv5, wp_cv6, wp_cv7, wp_iconst, wp_iln1, wp_iret, wp_izeq, wp_max, wp_min, wp_qald2, wp_qald3, wp_zret, qsc_kd, qsc_k1, qsc_l1, qsc_gf1, qsc_k2, qsc_l2, qsc_gf2, qsc_k3, qsc_l3, qsc_gf3, qsc_k4, qsc_l4, qsc_gf4, qsc_k5, qsc_l5, qsc_gf6, qsc_k6, qsc_l6, qsc_gf7, qsc_k7, qsc_l7, qsc_gf9, qsc_k8, qsc_l8, qsc_gf10, qsc_gf0, qsc_pf0, qsc_gf5, qsc_pf5, qsc_gf8, qsc_pf8, qst_kd, qst_gf0, qst_k10, qst_l10, qst_gf1, qst_k29, qst_l29, qst_gf2, qlf_kd, qlf_gf0, qlf_k31, qlf_l31, qlf_gf1, qlf_gf3, qlf_gf4, qlf_gf5, qlf_gf6, qlf_k203, qlf_l203, qlf_gf7, qlf_gf2, qlf_pf2, qlf_gf8, qlf_pf8, wrI_row, cpI_row, row_s, row_n, row_ss, row_sw, upd_s, upd_n, ad_inj, ad_z, ad_z2, Nat.reduceEqDiff, reduceCtorEq, List.cons_append, List.nil_append, Option.toList_some, Option.toList_none, Int.toNat_natCast, List.length_cons, List.length_nil, Int.cast_ofNat_Int, Nat.reduceAdd, Nat.reduceLeDiff, Nat.reduceLT, Nat.reduceMul, Int.reduceAdd, Int.reduceSub, Int.reduceMul, Int.reduceNeg, Int.reduceLT, Int.reduceLE, Int.reduceEq, Int.reduceToNat, eq_self, true_and, and_true, true_or, or_true, false_or, or_false, if_true, if_false, not_true_eq_false, not_false_eq_true, and_self, ne_eq, hLf, hN1, hS, ho1]
    refine recordState_ok hX hW (fun g' ρ' h' j1 j2 j3 j4 => ?_)
    have hLf' := j1.1.1
    have hN' := j1.1.2.1
    have hN1' := hN'.1
    have hS' := hN'.2.1
    obtain ⟨a1, a2, a3, a4, a5⟩ := j1.2.1
    have hU1 : WFV (-1) (recX X).1.1 := hU
    have key : ∃ u, ρ'.1 (ad (ad L 1) 10) i.toNat = some (ad (ad L 1) u) ∧ isSc ρ' (ad (ad L 1) u) ∧ ((i = 0 ∧ u = 11) ∨ (i = 1 ∧ u = 20)) := by
      rcases (by omega : i = 0 ∨ i = 1) with rfl | rfl
      · exact ⟨11, hN'.2.2.2.2.1, hN'.2.2.1, Or.inl ⟨rfl, rfl⟩⟩
      · exact ⟨20, hN'.2.2.2.2.2, hN'.2.2.2.1, Or.inr ⟨rfl, rfl⟩⟩
    obtain ⟨u, u1, u2, u3⟩ := key
    simp only [m_L_take, b_L_take_0, P_L_take_11, b_L_take_11, wp_abs, wp_aln0, wp_bast, wp_copy, wp_cs1, wp_cs2, wp_cs3, wp_cs4, wp_cs5, wp_cs6, wp_cs7, wp_cv1, wp_cv2, wp_cv3, wp_cv4, wp_cv5, wp_cv6, wp_cv7, wp_iconst, wp_iln1, wp_iret, wp_izeq, wp_max, wp_min, wp_qald2, wp_qald3, wp_zret, qsc_kd, qsc_k1, qsc_l1, qsc_gf1, qsc_k2, qsc_l2, qsc_gf2, qsc_k3, qsc_l3, qsc_gf3, qsc_k4, qsc_l4, qsc_gf4, qsc_k5, qsc_l5, qsc_gf6, qsc_k6, qsc_l6, qsc_gf7, qsc_k7, qsc_l7, qsc_gf9, qsc_k8, qsc_l8, qsc_gf10, qsc_gf0, qsc_pf0, qsc_gf5, qsc_pf5, qsc_gf8, qsc_pf8, qst_kd, qst_gf0, qst_k10, qst_l10, qst_gf1, qst_k29, qst_l29, qst_gf2, qlf_kd, qlf_gf0, qlf_k31, qlf_l31, qlf_gf1, qlf_gf3, qlf_gf4, qlf_gf5, qlf_gf6, qlf_k203, qlf_l203, qlf_gf7, qlf_gf2, qlf_pf2, qlf_gf8, qlf_pf8, wrI_row, cpI_row, row_s, row_n, row_ss, row_sw, upd_s, upd_n, ad_inj, ad_z, ad_z2, Nat.reduceEqDiff, reduceCtorEq, List.cons_append, List.nil_append, Option.toList_some, Option.toList_none, Int.toNat_natCast, List.length_cons, List.length_nil, Int.cast_ofNat_Int, Nat.reduceAdd, Nat.reduceLeDiff, Nat.reduceLT, Nat.reduceMul, Int.reduceAdd, Int.reduceSub, Int.reduceMul, Int.reduceNeg, Int.reduceLT, Int.reduceLE, Int.reduceEq, Int.reduceToNat, eq_self, true_and, and_true, true_or, or_true, false_or, or_false, if_true, if_false, not_true_eq_false, not_false_eq_true, and_self, ne_eq, hLf', hN1', hS', u1, u2]
    (repeat' (first | apply And.intro | split)) <;> first | omega | skip
    refine copyFrom_ok u2 hS' (by unfold ad; omega) (fun g2 he hf => ?_)
    have hl : LR (-99) (vwC g2 (ad (ad L 1) u)) X.1.1 := a1.eq hU he
    have fr : ∀ x, (x < ad (ad L 1) 11 ∨ ad (ad L 1) 29 ≤ x) → g2 x = g' x := fun x z => hf x (by unfold ad at *; omega)
    have ev1 : vwC g2 (ad (ad L 1) 1) = vwC g' (ad (ad L 1) 1) := vwC_kept (fun x z1 z2 => fr x (by unfold ad at *; omega))
    have e29 : g2 (ad (ad L 1) 29) = g' (ad (ad L 1) 29) := fr _ (by unfold ad; omega)
    have r8 : g2 (ad (ad L 1) 1) 8 = X.1.1 8 0 := by
      rw [fr _ (by unfold ad; omega)]
      exact a1.l8
    have frr : ∀ x, (x < ad (ad L 1) 11 ∨ ad (ad L 1) 30 ≤ x) → setRow g2 (ad (ad L 1) 29) (upd1 (g2 (ad (ad L 1) 29)) i.toNat 1) x = g' x := fun x z => by
      rw [row_n (by unfold ad at *; omega)]
      exact fr x (by unfold ad at *; omega)
    have vk : ∀ b, (b + 9 ≤ ad (ad L 1) 29) → vwC (setRow g2 (ad (ad L 1) 29) (upd1 (g2 (ad (ad L 1) 29)) i.toNat 1)) b = vwC g2 b := fun b hb => vwC_kept (fun x z1 z2 => row_n (by omega))
    have hs3 : SRC (setRow g2 (ad (ad L 1) 29) (upd1 (g2 (ad (ad L 1) 29)) i.toNat 1)) (ad L 1) (takX X i.toNat).1 := by
      unfold SRC
      rw [vk _ (by unfold ad; omega), vk _ (by unfold ad; omega), vk _ (by unfold ad; omega), ev1, row_s, e29]
      rcases u3 with ⟨rfl, rfl⟩ | ⟨rfl, rfl⟩
      · have ev2 : vwC g2 (ad (ad L 1) 20) = vwC g' (ad (ad L 1) 20) := vwC_kept (fun x z1 z2 => hf x (by unfold ad at *; omega))
        refine ⟨a1, upd_s, ?_, fun _ => hl, fun q => ?_⟩
        · rw [upd_n (by decide)]
          exact a3
        · rw [ev2]
          exact a5 q
      · have ev2 : vwC g2 (ad (ad L 1) 11) = vwC g' (ad (ad L 1) 11) := vwC_kept (fun x z1 z2 => hf x (by unfold ad at *; omega))
        refine ⟨a1, ?_, upd_s, fun q => ?_, fun _ => hl⟩
        · rw [upd_n (by decide)]
          exact a2
        · rw [ev2]
          exact a4 q
    have hrep : RepC (setRow g2 (ad (ad L 1) 29) (upd1 (g2 (ad (ad L 1) 29)) i.toNat 1)) ρ' L h' (takX X i.toNat) := by
      obtain ⟨k1, k2, k3, k4, k5, k6⟩ := id j1
      obtain ⟨-, -, -, -, -, -, -, hh, -⟩ := id k1
      have wn := (recX_wf hW).2.1
      refine ⟨k1, hs3, fun t ht => ?_, ?_, ?_, fun j hj => ?_⟩
      · replace ht : t < (recX X).2.1 := ht
        have := (hh t (by omega)).2
        exact (k3 t ht).kept (fun x z1 z2 => frr x (by unfold ad at *; omega))
      · rw [frr L (by unfold ad; omega)]
        exact k4
      · rw [frr L (by unfold ad; omega)]
        exact k5
      · rw [frr (ad L 203) (by unfold ad; omega)]
        exact k6 j hj
    have q := hQ _ ρ' h' hrep ⟨j2, fun x z => ⟨j3 x (by unfold ad at *; omega), by
      rw [frr x (by unfold ad at *; omega)]
      exact j4 x (by unfold ad at *; omega)⟩⟩
    simp only [m_L_take, b_L_take_0, P_L_take_11, b_L_take_11, wp_abs, wp_aln0, wp_bast, wp_copy, wp_cs1, wp_cs2, wp_cs3, wp_cs4, wp_cs5, wp_cs6, wp_cs7, wp_cv1, wp_cv2, wp_cv3, wp_cv4, wp_cv5, wp_cv6, wp_cv7, wp_iconst, wp_iln1, wp_iret, wp_izeq, wp_max, wp_min, wp_qald2, wp_qald3, wp_zret, qsc_kd, qsc_k1, qsc_l1, qsc_gf1, qsc_k2, qsc_l2, qsc_gf2, qsc_k3, qsc_l3, qsc_gf3, qsc_k4, qsc_l4, qsc_gf4, qsc_k5, qsc_l5, qsc_gf6, qsc_k6, qsc_l6, qsc_gf7, qsc_k7, qsc_l7, qsc_gf9, qsc_k8, qsc_l8, qsc_gf10, qsc_gf0, qsc_pf0, qsc_gf5, qsc_pf5, qsc_gf8, qsc_pf8, qst_kd, qst_gf0, qst_k10, qst_l10, qst_gf1, qst_k29, qst_l29, qst_gf2, qlf_kd, qlf_gf0, qlf_k31, qlf_l31, qlf_gf1, qlf_gf3, qlf_gf4, qlf_gf5, qlf_gf6, qlf_k203, qlf_l203, qlf_gf7, qlf_gf2, qlf_pf2, qlf_gf8, qlf_pf8, wrI_row, cpI_row, row_s, row_n, row_ss, row_sw, upd_s, upd_n, ad_inj, ad_z, ad_z2, Nat.reduceEqDiff, reduceCtorEq, List.cons_append, List.nil_append, Option.toList_some, Option.toList_none, Int.toNat_natCast, List.length_cons, List.length_nil, Int.cast_ofNat_Int, Nat.reduceAdd, Nat.reduceLeDiff, Nat.reduceLT, Nat.reduceMul, Int.reduceAdd, Int.reduceSub, Int.reduceMul, Int.reduceNeg, Int.reduceLT, Int.reduceLE, Int.reduceEq, Int.reduceToNat, eq_self, true_and, and_true, true_or, or_true, false_or, or_false, if_true, if_false, not_true_eq_false, not_false_eq_true, and_self, ne_eq, hLf', hN1', hS', r8]
    (repeat' (first | apply And.intro | split)) <;> first | omega | exact q
  · have ho1 := fun Q => lk_out (zt := zt) (g := g) (ρ := ρ) (lo := 0) (hi := 1) hi (by omega) (by omega) c1 Q
    rw [if_neg c1] at hQ
    have q := hQ.ro hX
    simp only [m_L_take, b_L_take_0, P_L_take_11, b_L_take_11, wp_abs, wp_aln0, wp_bast, wp_copy, wp_cs1, wp_cs2, wp_cs3, wp_cs4, wp_cs5, wp_cs6, wp_cs7, wp_cv1, wp_cv2, wp_cv3, wp_cv4, wp_cv5, wp_cv6, wp_cv7, wp_iconst, wp_iln1, wp_iret, wp_izeq, wp_max, wp_min, wp_qald2, wp_qald3, wp_zret, qsc_kd, qsc_k1, qsc_l1, qsc_gf1, qsc_k2, qsc_l2, qsc_gf2, qsc_k3, qsc_l3, qsc_gf3, qsc_k4, qsc_l4, qsc_gf4, qsc_k5, qsc_l5, qsc_gf6, qsc_k6, qsc_l6, qsc_gf7, qsc_k7, qsc_l7, qsc_gf9, qsc_k8, qsc_l8, qsc_gf10, qsc_gf0, qsc_pf0, qsc_gf5, qsc_pf5, qsc_gf8, qsc_pf8, qst_kd, qst_gf0, qst_k10, qst_l10, qst_gf1, qst_k29, qst_l29, qst_gf2, qlf_kd, qlf_gf0, qlf_k31, qlf_l31, qlf_gf1, qlf_gf3, qlf_gf4, qlf_gf5, qlf_gf6, qlf_k203, qlf_l203, qlf_gf7, qlf_gf2, qlf_pf2, qlf_gf8, qlf_pf8, wrI_row, cpI_row, row_s, row_n, row_ss, row_sw, upd_s, upd_n, ad_inj, ad_z, ad_z2, Nat.reduceEqDiff, reduceCtorEq, List.cons_append, List.nil_append, Option.toList_some, Option.toList_none, Int.toNat_natCast, List.length_cons, List.length_nil, Int.cast_ofNat_Int, Nat.reduceAdd, Nat.reduceLeDiff, Nat.reduceLT, Nat.reduceMul, Int.reduceAdd, Int.reduceSub, Int.reduceMul, Int.reduceNeg, Int.reduceLT, Int.reduceLE, Int.reduceEq, Int.reduceToNat, eq_self, true_and, and_true, true_or, or_true, false_or, or_false, if_true, if_false, not_true_eq_false, not_false_eq_true, and_self, ne_eq, hLf, hN1, hS, ho1]
    (repeat' (first | apply And.intro | split)) <;> first | omega | exact q
end SLT
