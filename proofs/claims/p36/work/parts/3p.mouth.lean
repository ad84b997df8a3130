/-! THE CLASS'S CALLS THAT CHANGE: mouths, sounds, settings -/
def addV (U : Vw) (o w : Int) : Vw := fun k j => if k = 0 then (if j = 0 then U 0 0 + 1 else U 0 j) else if k = 1 ∧ j = (U 0 0).toNat then o else if k = 2 ∧ j = (U 0 0).toNat then w else U k j
theorem addV_n {U : Vw} {o w : Int} {k j : Nat} (h0 : k ≠ 0) (h1 : k ≠ 1) (h2 : k ≠ 2) : addV U o w k j = U k j := by
  unfold addV
  rw [if_neg h0, if_neg (fun q => h1 q.1), if_neg (fun q => h2 q.1)]
theorem addV_0 {U : Vw} {o w : Int} : addV U o w 0 0 = U 0 0 + 1 := rfl
theorem addV_1 {U : Vw} {o w : Int} {j : Nat} : addV U o w 1 j = if j = (U 0 0).toNat then o else U 1 j := by
  unfold addV
  rw [if_neg (by decide)]
  by_cases e : j = (U 0 0).toNat
  · rw [if_pos ⟨rfl, e⟩, if_pos e]
  · rw [if_neg (fun q => e q.2), if_neg (fun q => e q.2), if_neg e]
theorem addV_2 {U : Vw} {o w : Int} {j : Nat} : addV U o w 2 j = if j = (U 0 0).toNat then w else U 2 j := by
  unfold addV
  rw [if_neg (by decide), if_neg (fun q => absurd q.1 (by decide))]
  by_cases e : j = (U 0 0).toNat
  · rw [if_pos ⟨rfl, e⟩, if_pos e]
  · rw [if_neg (fun q => e q.2), if_neg e]
theorem sumL_eq7 {V U : Vw} (h : ∀ j, V 7 j = U 7 j) : ∀ s, sumL V s = sumL U s
  | 0 => rfl
  | s + 1 => by
    simp only [sumL]
    rw [sumL_eq7 h s, h s]
theorem addV_wf {U : Vw} (hW : WFV (-1) U) {o w : Int} (ho : 0 ≤ o ∧ o ≤ 9) (hw : 0 ≤ w ∧ w ≤ 9) (hM : U 0 0 < 8) : WFV (-1) (addV U o w) := by
  obtain ⟨w1, w2, w3, w4, w5, w6, w7, w8, w9⟩ := hW
  have z : ∀ k j, k ≠ 0 → k ≠ 1 → k ≠ 2 → addV U o w k j = U k j := fun k j a1 a2 a3 => addV_n a1 a2 a3
  unfold WFV
  rw [sumL_eq7 (U := U) (fun j => z 7 j (by decide) (by decide) (by decide)), addV_0]
  simp only [z, ne_eq, Nat.reduceEqDiff, not_false_eq_true, addV_1, addV_2]
  refine ⟨by omega, fun j hj => ?_, w3, w4, w5, w6, w7, w8, fun j hj => ?_⟩
  · by_cases e : j = (U 0 0).toNat
    · rw [if_pos e, if_pos e]
      exact ⟨ho, hw⟩
    · rw [if_neg e, if_neg e]
      exact w2 j (by omega)
  · have := w9 j hj
    omega
theorem lr_add {n : Int} {V V' U : Vw} (h : LR n V U) {o w : Int} (q0 : V' 0 0 = U 0 0 + 1) (q1 : ∀ j, V' 1 j = if j = (U 0 0).toNat then o else V 1 j) (q2 : ∀ j, V' 2 j = if j = (U 0 0).toNat then w else V 2 j) (q : ∀ k j, 3 ≤ k → k ≤ 10 → V' k j = V k j) : LR n V' (addV U o w) := by
  have z : ∀ k j, 3 ≤ k → addV U o w k j = U k j := fun k j a1 => addV_n (by omega) (by omega) (by omega)
  unfold LR
  rw [z 5 0 (by omega), z 8 0 (by omega), addV_0]
  refine ⟨q0, ?_, ?_, fun j hj => ?_, fun j hj => ?_, fun j hj => ?_, fun j hj => ?_, fun j hj => ?_⟩
  · rw [q 5 0 (by omega) (by omega)]
    exact h.l5
  · rw [q 8 0 (by omega) (by omega)]
    exact h.l8
  · rw [q1, q2, addV_1, addV_2]
    by_cases e : j = (U 0 0).toNat
    · rw [if_pos e, if_pos e, if_pos e, if_pos e]
      exact ⟨rfl, rfl⟩
    · rw [if_neg e, if_neg e, if_neg e, if_neg e]
      exact ⟨h.l1 (by omega), h.l2 (by omega)⟩
  · rw [q 3 j (by omega) (by omega), z 3 j (by omega)]
    exact h.l3 hj
  · rw [q 4 j (by omega) (by omega), z 4 j (by omega)]
    exact h.l4 hj
  · rw [q 6 j (by omega) (by omega), q 7 j (by omega) (by omega), z 6 j (by omega), z 7 j (by omega)]
    exact ⟨h.l6 hj, h.l7 hj⟩
  · rw [q 9 j (by omega) (by omega), q 10 j (by omega) (by omega), z 9 j (by omega), z 10 j (by omega)]
    exact ⟨h.l9 hj, h.l10 hj⟩
section MTH
variable {zt : Nat → Nat} {g : Nat → Nat → Int} {ρ : Ri} {L : Nat} {h : Nat → Nat} {X : XV} {Q : Option AV → Sto → Prop}
def sAddMouth (o w : Int) (X : XV) : Int × XV := if (0 ≤ o ∧ o ≤ 9) ∧ 0 ≤ w ∧ w ≤ 9 then (if X.1.1 0 0 < 8 then (X.1.1 0 0, actX X (addV X.1.1 o w)) else (-3, X)) else (-1, X)
theorem sAddMouth_wf {o w : Int} (hW : WFX X) : WFX (sAddMouth o w X).2 := by
  unfold sAddMouth
  split
  next c =>
    split
    next c2 => exact actX_wf hW (addV_wf hW.1.1 c.1 c.2 c2)
    next c2 => exact hW
  next c => exact hW
theorem c_addMouth (hX : RepC g ρ L h X) (hW : WFX X) {o w : Int} (hoo : i32 o) (hw : i32 w) (hQ : CQ g ρ L (sAddMouth o w X) Q) : WpM zt 49 [AR L, AI o, AI w] (g, ρ) Q := by
  obtain ⟨hLf, hN, -⟩ := id hX.1
  obtain ⟨hR, -⟩ := id hX.2.1
  have hU := hW.1.1
  have hWV := hR.wf (by omega) hU
  have hN1 := hN.1
  have hS := hN.2.1
  have e0 : g (ad (ad L 1) 1) 0 = X.1.1 0 0 := hR.l0
  have e5 : g (ad (ad L 1) 1) 5 = X.1.1 5 0 := hR.l5
  have e8 : g (ad (ad L 1) 1) 8 = X.1.1 8 0 := hR.l8
  have b0 := hU.1
  have b5 := hU.2.2.2.2.1
  have b8 := hU.2.2.2.2.2.2.1
  unfold sAddMouth at hQ
  by_cases c1 : 0 ≤ o ∧ o ≤ 9
  · have ho1 := fun Q => lk_in (zt := zt) (g := g) (ρ := ρ) (lo := 0) (hi := 9) (by omega) (by omega) c1 Q
    by_cases c2 : 0 ≤ w ∧ w ≤ 9
    · have ho2 := fun Q => lk_in (zt := zt) (g := g) (ρ := ρ) (lo := 0) (hi := 9) (by omega) (by omega) c2 Q
      rw [if_pos ⟨c1, c2⟩] at hQ
      by_cases c3 : X.1.1 0 0 < 8
      · rw [if_pos c3] at hQ
        simp only [m_L_addMouth, b_L_addMouth_0, P_L_addMouth_28, b_L_addMouth_28, P_L_addMouth_30, b_L_addMouth_30, P_L_addMouth_42, b_L_addMouth_42, wp_abs, wp_aln0, wp_aln3, wp_asn3, wp_bipush, wp_copy, wp_cs1, wp_cs2, wp_cs3, wp_cs4, wp_cs5, wp_cs6, wp_cs7, wp_cv1, wp_cv2, wp_cv3, wp_cv4, wp_cv5, wp_cv6, wp_cv7, wp_dup, wp_iadd, wp_iast, wp_iclt, wp_iconst, wp_iln1, wp_iln2, wp_iret, wp_isub, wp_izeq, wp_izne, wp_max, wp_min, wp_nop, wp_zret, qsc_kd, qsc_k1, qsc_l1, qsc_gf1, qsc_k2, qsc_l2, qsc_gf2, qsc_k3, qsc_l3, qsc_gf3, qsc_k4, qsc_l4, qsc_gf4, qsc_k5, qsc_l5, qsc_gf6, qsc_k6, qsc_l6, qsc_gf7, qsc_k7, qsc_l7, qsc_gf9, qsc_k8, qsc_l8, qsc_gf10, qsc_gf0, qsc_pf0, qsc_gf5, qsc_pf5, qsc_gf8, qsc_pf8, qst_kd, qst_gf0, qst_k10, qst_l10, qst_gf1, qst_k29, qst_l29, qst_gf2, qlf_kd, qlf_gf0, qlf_k31, qlf_l31, qlf_gf1, qlf_gf3, qlf_gf4, qlf_gf5, qlf_gf6, qlf_k203, qlf_l203, qlf_gf7, qlf_gf2, qlf_pf2, qlf_gf8, qlf_pf8, wrI_row, cpI_row, row_s, row_n, row_ss, row_sw, upd_s, upd_n, ad_inj, ad_z, ad_z2, Nat.reduceEqDiff, reduceCtorEq, List.cons_append, List.nil_append, Option.toList_some, Option.toList_none, Int.toNat_natCast, List.length_cons, List.length_nil, Int.cast_ofNat_Int, Nat.reduceAdd, Nat.reduceLeDiff, Nat.reduceLT, Nat.reduceMul, Int.reduceAdd, Int.reduceSub, Int.reduceMul, Int.reduceNeg, Int.reduceLT, Int.reduceLE, Int.reduceEq, Int.reduceToNat, eq_self, true_and, and_true, true_or, or_true, false_or, or_false, if_true, if_false, not_true_eq_false, not_false_eq_true, and_self, ne_eq, hLf, hN1, hS, ho1, ho2, e0, c3]
        (repeat' (first | apply And.intro | split)) <;> first | omega | skip
        refine recordState_ok hX hW (fun g' ρ' h' j1 j2 j3 j4 => ?_)
        have hS' := j1.1.2.1.2.1
        have hR' : LR (-99) (vwC g' (ad (ad L 1) 1)) X.1.1 := j1.2.1.1
        have f0 : g' (ad (ad L 1) 1) 0 = X.1.1 0 0 := hR'.l0
        have q := hQ (setRow (setRow (setRow g' (ad (ad (ad L 1) 1) 1) (upd1 (g' (ad (ad (ad L 1) 1) 1)) (X.1.1 0 0).toNat o)) (ad (ad (ad L 1) 1) 2) (upd1 (g' (ad (ad (ad L 1) 1) 2)) (X.1.1 0 0).toNat w)) (ad (ad L 1) 1) (upd1 (g' (ad (ad L 1) 1)) 0 (X.1.1 0 0 + 1))) ρ' h' (j1.now hW (lr_add hR' ?_ (fun j => ?_) (fun j => ?_) (fun k j z1 z2 => ?_)) (fun x z => ?_)) (Fr.of j2 j3 j4 (fun x z => ?_))
        · have e9 : X.1.1 0 0 + 1 - 1 = X.1.1 0 0 := by omega
          simp only [m_L_addMouth, b_L_addMouth_0, P_L_addMouth_28, b_L_addMouth_28, P_L_addMouth_30, b_L_addMouth_30, P_L_addMouth_42, b_L_addMouth_42, wp_abs, wp_aln0, wp_aln3, wp_asn3, wp_bipush, wp_copy, wp_cs1, wp_cs2, wp_cs3, wp_cs4, wp_cs5, wp_cs6, wp_cs7, wp_cv1, wp_cv2, wp_cv3, wp_cv4, wp_cv5, wp_cv6, wp_cv7, wp_dup, wp_iadd, wp_iast, wp_iclt, wp_iconst, wp_iln1, wp_iln2, wp_iret, wp_isub, wp_izeq, wp_izne, wp_max, wp_min, wp_nop, wp_zret, qsc_kd, qsc_k1, qsc_l1, qsc_gf1, qsc_k2, qsc_l2, qsc_gf2, qsc_k3, qsc_l3, qsc_gf3, qsc_k4, qsc_l4, qsc_gf4, qsc_k5, qsc_l5, qsc_gf6, qsc_k6, qsc_l6, qsc_gf7, qsc_k7, qsc_l7, qsc_gf9, qsc_k8, qsc_l8, qsc_gf10, qsc_gf0, qsc_pf0, qsc_gf5, qsc_pf5, qsc_gf8, qsc_pf8, qst_kd, qst_gf0, qst_k10, qst_l10, qst_gf1, qst_k29, qst_l29, qst_gf2, qlf_kd, qlf_gf0, qlf_k31, qlf_l31, qlf_gf1, qlf_gf3, qlf_gf4, qlf_gf5, qlf_gf6, qlf_k203, qlf_l203, qlf_gf7, qlf_gf2, qlf_pf2, qlf_gf8, qlf_pf8, wrI_row, cpI_row, row_s, row_n, row_ss, row_sw, upd_s, upd_n, ad_inj, ad_z, ad_z2, Nat.reduceEqDiff, reduceCtorEq, List.cons_append, List.nil_append, Option.toList_some, Option.toList_none, Int.toNat_natCast, List.length_cons, List.length_nil, Int.cast_ofNat_Int, Nat.reduceAdd, Nat.reduceLeDiff, Nat.reduceLT, Nat.reduceMul, Int.reduceAdd, Int.reduceSub, Int.reduceMul, Int.reduceNeg, Int.reduceLT, Int.reduceLE, Int.reduceEq, Int.reduceToNat, eq_self, true_and, and_true, true_or, or_true, false_or, or_false, if_true, if_false, not_true_eq_false, not_false_eq_true, and_self, ne_eq, hS', f0, e9]
          (repeat' (first | apply And.intro | split)) <;> first | omega | exact q
        · simp only [vwC, row_s, upd_s]
        · simp only [vwC, row_s, row_n, ad_inj, ad_z, ad_z2, Nat.reduceEqDiff, not_false_eq_true, upd1]
        · simp only [vwC, row_s, row_n, ad_inj, ad_z, ad_z2, Nat.reduceEqDiff, not_false_eq_true, upd1]
        · rcases k_cases z2 with rfl | rfl | rfl | rfl | rfl | rfl | rfl | rfl | rfl | rfl | rfl <;> first | omega | simp only [vwC, row_s, row_n, ad_inj, ad_z, ad_z2, Nat.reduceEqDiff, not_false_eq_true, upd1, if_false]
        · rw [row_n (by unfold ad at *; omega), row_n (by unfold ad at *; omega), row_n (by unfold ad at *; omega)]
        · rw [row_n (by unfold ad at *; omega), row_n (by unfold ad at *; omega), row_n (by unfold ad at *; omega)]
      · rw [if_neg c3] at hQ
        have q := hQ.ro hX
        simp only [m_L_addMouth, b_L_addMouth_0, P_L_addMouth_28, b_L_addMouth_28, P_L_addMouth_30, b_L_addMouth_30, P_L_addMouth_42, b_L_addMouth_42, wp_abs, wp_aln0, wp_aln3, wp_asn3, wp_bipush, wp_copy, wp_cs1, wp_cs2, wp_cs3, wp_cs4, wp_cs5, wp_cs6, wp_cs7, wp_cv1, wp_cv2, wp_cv3, wp_cv4, wp_cv5, wp_cv6, wp_cv7, wp_dup, wp_iadd, wp_iast, wp_iclt, wp_iconst, wp_iln1, wp_iln2, wp_iret, wp_isub, wp_izeq, wp_izne, wp_max, wp_min, wp_nop, wp_zret, qsc_kd, qsc_k1, qsc_l1, qsc_gf1, qsc_k2, qsc_l2, qsc_gf2, qsc_k3, qsc_l3, qsc_gf3, qsc_k4, qsc_l4, qsc_gf4, qsc_k5, qsc_l5, qsc_gf6, qsc_k6, qsc_l6, qsc_gf7, qsc_k7, qsc_l7, qsc_gf9, qsc_k8, qsc_l8, qsc_gf10, qsc_gf0, qsc_pf0, qsc_gf5, qsc_pf5, qsc_gf8, qsc_pf8, qst_kd, qst_gf0, qst_k10, qst_l10, qst_gf1, qst_k29, qst_l29, qst_gf2, qlf_kd, qlf_gf0, qlf_k31, qlf_l31, qlf_gf1, qlf_gf3, qlf_gf4, qlf_gf5, qlf_gf6, qlf_k203, qlf_l203, qlf_gf7, qlf_gf2, qlf_pf2, qlf_gf8, qlf_pf8, wrI_row, cpI_row, row_s, row_n, row_ss, row_sw, upd_s, upd_n, ad_inj, ad_z, ad_z2, Nat.reduceEqDiff, reduceCtorEq, List.cons_append, List.nil_append, Option.toList_some, Option.toList_none, Int.toNat_natCast, List.length_cons, List.length_nil, Int.cast_ofNat_Int, Nat.reduceAdd, Nat.reduceLeDiff, Nat.reduceLT, Nat.reduceMul, Int.reduceAdd, Int.reduceSub, Int.reduceMul, Int.reduceNeg, Int.reduceLT, Int.reduceLE, Int.reduceEq, Int.reduceToNat, eq_self, true_and, and_true, true_or, or_true, false_or, or_false, if_true, if_false, not_true_eq_false, not_false_eq_true, and_self, ne_eq, hLf, hN1, hS, ho1, ho2, e0, c3]
        (repeat' (first | apply And.intro | split)) <;> first | omega | exact q
    · have ho2 := fun Q => lk_out (zt := zt) (g := g) (ρ := ρ) (lo := 0) (hi := 9) hw (by omega) (by omega) c2 Q
      rw [if_neg (fun z => c2 z.2)] at hQ
      have q := hQ.ro hX
      simp only [m_L_addMouth, b_L_addMouth_0, P_L_addMouth_28, b_L_addMouth_28, P_L_addMouth_30, b_L_addMouth_30, P_L_addMouth_42, b_L_addMouth_42, wp_abs, wp_aln0, wp_aln3, wp_asn3, wp_bipush, wp_copy, wp_cs1, wp_cs2, wp_cs3, wp_cs4, wp_cs5, wp_cs6, wp_cs7, wp_cv1, wp_cv2, wp_cv3, wp_cv4, wp_cv5, wp_cv6, wp_cv7, wp_dup, wp_iadd, wp_iast, wp_iclt, wp_iconst, wp_iln1, wp_iln2, wp_iret, wp_isub, wp_izeq, wp_izne, wp_max, wp_min, wp_nop, wp_zret, qsc_kd, qsc_k1, qsc_l1, qsc_gf1, qsc_k2, qsc_l2, qsc_gf2, qsc_k3, qsc_l3, qsc_gf3, qsc_k4, qsc_l4, qsc_gf4, qsc_k5, qsc_l5, qsc_gf6, qsc_k6, qsc_l6, qsc_gf7, qsc_k7, qsc_l7, qsc_gf9, qsc_k8, qsc_l8, qsc_gf10, qsc_gf0, qsc_pf0, qsc_gf5, qsc_pf5, qsc_gf8, qsc_pf8, qst_kd, qst_gf0, qst_k10, qst_l10, qst_gf1, qst_k29, qst_l29, qst_gf2, qlf_kd, qlf_gf0, qlf_k31, qlf_l31, qlf_gf1, qlf_gf3, qlf_gf4, qlf_gf5, qlf_gf6, qlf_k203, qlf_l203, qlf_gf7, qlf_gf2, qlf_pf2, qlf_gf8, qlf_pf8, wrI_row, cpI_row, row_s, row_n, row_ss, row_sw, upd_s, upd_n, ad_inj, ad_z, ad_z2, Nat.reduceEqDiff, reduceCtorEq, List.cons_append, List.nil_append, Option.toList_some, Option.toList_none, Int.toNat_natCast, List.length_cons, List.length_nil, Int.cast_ofNat_Int, Nat.reduceAdd, Nat.reduceLeDiff, Nat.reduceLT, Nat.reduceMul, Int.reduceAdd, Int.reduceSub, Int.reduceMul, Int.reduceNeg, Int.reduceLT, Int.reduceLE, Int.reduceEq, Int.reduceToNat, eq_self, true_and, and_true, true_or, or_true, false_or, or_false, if_true, if_false, not_true_eq_false, not_false_eq_true, and_self, ne_eq, hLf, hN1, hS, ho1, ho2]
      (repeat' (first | apply And.intro | split)) <;> first | omega | exact q
  · have ho1 := fun Q => lk_out (zt := zt) (g := g) (ρ := ρ) (lo := 0) (hi := 9) hoo (by omega) (by omega) c1 Q
    rw [if_neg (fun z => c1 z.1)] at hQ
    have q := hQ.ro hX
    simp only [m_L_addMouth, b_L_addMouth_0, P_L_addMouth_28, b_L_addMouth_28, P_L_addMouth_30, b_L_addMouth_30, P_L_addMouth_42, b_L_addMouth_42, wp_abs, wp_aln0, wp_aln3, wp_asn3, wp_bipush, wp_copy, wp_cs1, wp_cs2, wp_cs3, wp_cs4, wp_cs5, wp_cs6, wp_cs7, wp_cv1, wp_cv2, wp_cv3, wp_cv4, wp_cv5, wp_cv6, wp_cv7, wp_dup, wp_iadd, wp_iast, wp_iclt, wp_iconst, wp_iln1, wp_iln2, wp_iret, wp_isub, wp_izeq, wp_izne, wp_max, wp_min, wp_nop, wp_zret, qsc_kd, qsc_k1, qsc_l1, qsc_gf1, qsc_k2, qsc_l2, qsc_gf2, qsc_k3, qsc_l3, qsc_gf3, qsc_k4, qsc_l4, qsc_gf4, qsc_k5, qsc_l5, qsc_gf6, qsc_k6, qsc_l6, qsc_gf7, qsc_k7, qsc_l7, qsc_gf9, qsc_k8, qsc_l8, qsc_gf10, qsc_gf0, qsc_pf0, qsc_gf5, qsc_pf5, qsc_gf8, qsc_pf8, qst_kd, qst_gf0, qst_k10, qst_l10, qst_gf1, qst_k29, qst_l29, qst_gf2, qlf_kd, qlf_gf0, qlf_k31, qlf_l31, qlf_gf1, qlf_gf3, qlf_gf4, qlf_gf5, qlf_gf6, qlf_k203, qlf_l203, qlf_gf7, qlf_gf2, qlf_pf2, qlf_gf8, qlf_pf8, wrI_row, cpI_row, row_s, row_n, row_ss, row_sw, upd_s, upd_n, ad_inj, ad_z, ad_z2, Nat.reduceEqDiff, reduceCtorEq, List.cons_append, List.nil_append, Option.toList_some, Option.toList_none, Int.toNat_natCast, List.length_cons, List.length_nil, Int.cast_ofNat_Int, Nat.reduceAdd, Nat.reduceLeDiff, Nat.reduceLT, Nat.reduceMul, Int.reduceAdd, Int.reduceSub, Int.reduceMul, Int.reduceNeg, Int.reduceLT, Int.reduceLE, Int.reduceEq, Int.reduceToNat, eq_self, true_and, and_true, true_or, or_true, false_or, or_false, if_true, if_false, not_true_eq_false, not_false_eq_true, and_self, ne_eq, hLf, hN1, hS, ho1]
    (repeat' (first | apply And.intro | split)) <;> first | omega | exact q
def sSetMouth (m o w : Int) (X : XV) : Int × XV := if (0 ≤ m ∧ m < X.1.1 0 0) ∧ (0 ≤ o ∧ o ≤ 9) ∧ 0 ≤ w ∧ w ≤ 9 then (dstV X.1.1 m.toNat o w, actX X (setV (setV X.1.1 1 m.toNat o) 2 m.toNat w)) else (-1, X)
theorem sSetMouth_wf {m o w : Int} (hW : WFX X) : WFX (sSetMouth m o w X).2 := by
  unfold sSetMouth
  split
  next c => exact actX_wf hW (set_wf12 (set_wf12 hW.1.1 (Or.inl rfl) c.2.1) (Or.inr rfl) c.2.2)
  next c => exact hW
theorem c_setMouth (hX : RepC g ρ L h X) (hW : WFX X) {m o w : Int} (hm : i32 m) (hoo : i32 o) (hw : i32 w) (hQ : CQ g ρ L (sSetMouth m o w X) Q) : WpM zt 50 [AR L, AI m, AI o, AI w] (g, ρ) Q := by
  obtain ⟨hLf, hN, -⟩ := id hX.1
  obtain ⟨hR, -⟩ := id hX.2.1
  have hU := hW.1.1
  have hWV := hR.wf (by omega) hU
  have hN1 := hN.1
  have hS := hN.2.1
  have e0 : g (ad (ad L 1) 1) 0 = X.1.1 0 0 := hR.l0
  have e5 : g (ad (ad L 1) 1) 5 = X.1.1 5 0 := hR.l5
  have e8 : g (ad (ad L 1) 1) 8 = X.1.1 8 0 := hR.l8
  have b0 := hU.1
  have b5 := hU.2.2.2.2.1
  have b8 := hU.2.2.2.2.2.2.1
  unfold sSetMouth at hQ
  have hm1 := hasMouth_ok (zt := zt) (ρ := ρ) hS hWV (m := m) hm.1 hm.2
  rw [e0] at hm1
  by_cases c0 : 0 ≤ m ∧ m < X.1.1 0 0
  · rw [b2_t c0] at hm1
    by_cases c1 : 0 ≤ o ∧ o ≤ 9
    · have ho1 := fun Q => lk_in (zt := zt) (g := g) (ρ := ρ) (lo := 0) (hi := 9) (by omega) (by omega) c1 Q
      by_cases c2 : 0 ≤ w ∧ w ≤ 9
      · have ho2 := fun Q => lk_in (zt := zt) (g := g) (ρ := ρ) (lo := 0) (hi := 9) (by omega) (by omega) c2 Q
        rw [if_pos ⟨c0, c1, c2⟩] at hQ
        simp only [m_L_setMouth, b_L_setMouth_0, P_L_setMouth_38, b_L_setMouth_38, P_L_setMouth_40, b_L_setMouth_40, wp_abs, wp_al4, wp_aln0, wp_as4, wp_bipush, wp_copy, wp_cs1, wp_cs2, wp_cs3, wp_cs4, wp_cs5, wp_cs6, wp_cs7, wp_cv1, wp_cv2, wp_cv3, wp_cv4, wp_cv5, wp_cv6, wp_cv7, wp_iast, wp_iconst, wp_il5, wp_iln1, wp_iln2, wp_iln3, wp_iret, wp_is5, wp_izeq, wp_izne, wp_max, wp_min, wp_nop, wp_zret, qsc_kd, qsc_k1, qsc_l1, qsc_gf1, qsc_k2, qsc_l2, qsc_gf2, qsc_k3, qsc_l3, qsc_gf3, qsc_k4, qsc_l4, qsc_gf4, qsc_k5, qsc_l5, qsc_gf6, qsc_k6, qsc_l6, qsc_gf7, qsc_k7, qsc_l7, qsc_gf9, qsc_k8, qsc_l8, qsc_gf10, qsc_gf0, qsc_pf0, qsc_gf5, qsc_pf5, qsc_gf8, qsc_pf8, qst_kd, qst_gf0, qst_k10, qst_l10, qst_gf1, qst_k29, qst_l29, qst_gf2, qlf_kd, qlf_gf0, qlf_k31, qlf_l31, qlf_gf1, qlf_gf3, qlf_gf4, qlf_gf5, qlf_gf6, qlf_k203, qlf_l203, qlf_gf7, qlf_gf2, qlf_pf2, qlf_gf8, qlf_pf8, wrI_row, cpI_row, row_s, row_n, row_ss, row_sw, upd_s, upd_n, ad_inj, ad_z, ad_z2, Nat.reduceEqDiff, reduceCtorEq, List.cons_append, List.nil_append, Option.toList_some, Option.toList_none, Int.toNat_natCast, List.length_cons, List.length_nil, Int.cast_ofNat_Int, Nat.reduceAdd, Nat.reduceLeDiff, Nat.reduceLT, Nat.reduceMul, Int.reduceAdd, Int.reduceSub, Int.reduceMul, Int.reduceNeg, Int.reduceLT, Int.reduceLE, Int.reduceEq, Int.reduceToNat, eq_self, true_and, and_true, true_or, or_true, false_or, or_false, if_true, if_false, not_true_eq_false, not_false_eq_true, and_self, ne_eq, hLf, hN1, hS, hm1, ho1, ho2]
        refine recordState_ok hX hW (fun g' ρ' h' j1 j2 j3 j4 => ?_)
        have hS' := j1.1.2.1.2.1
        have hR' : LR (-99) (vwC g' (ad (ad L 1) 1)) X.1.1 := j1.2.1.1
        have hWV' := hR'.wf (by omega) hU
        have f0 : g' (ad (ad L 1) 1) 0 = X.1.1 0 0 := hR'.l0
        have hds := distanceOf_ok (zt := zt) (ρ := ρ') (g := g') hS' hWV' (m := m) (o := o) (w := w) c0.1 (by rw [f0]; exact c0.2) (by omega) (by omega)
        rw [hR'.dst (by omega)] at hds
        have er : setRow g' (ad (ad (ad L 1) 1) 1) (upd1 (g' (ad (ad (ad L 1) 1) 1)) m.toNat o) (ad (ad (ad L 1) 1) 2) = g' (ad (ad (ad L 1) 1) 2) := row_n (by unfold ad; omega)
        have hl1 : LR (-99) (vwC (setRow g' (ad (ad (ad L 1) 1) 1) (upd1 (g' (ad (ad (ad L 1) 1) 1)) m.toNat o)) (ad (ad L 1) 1)) (setV X.1.1 1 m.toNat o) := lr_set hR' (Or.inl rfl) (fun k' j' z1 z2 => by rw [vw_p (kk := 1) (by omega) z1, if_neg z2]) (by rw [vw_p (kk := 1) (by omega) (by omega), if_pos ⟨rfl, rfl⟩])
        have hl2 := lr_set (V' := vwC (setRow (setRow g' (ad (ad (ad L 1) 1) 1) (upd1 (g' (ad (ad (ad L 1) 1) 1)) m.toNat o)) (ad (ad (ad L 1) 1) 2) (upd1 (setRow g' (ad (ad (ad L 1) 1) 1) (upd1 (g' (ad (ad (ad L 1) 1) 1)) m.toNat o) (ad (ad (ad L 1) 1) 2)) m.toNat w)) (ad (ad L 1) 1)) (v := w) hl1 (k := 2) (j := m.toNat) (by omega) (fun k' j' z1 z2 => by rw [vw_p (kk := 2) (by omega) z1, if_neg z2]) (by rw [vw_p (kk := 2) (by omega) (by omega), if_pos ⟨rfl, rfl⟩])
        rw [er] at hl2
        have q := hQ (setRow (setRow g' (ad (ad (ad L 1) 1) 1) (upd1 (g' (ad (ad (ad L 1) 1) 1)) m.toNat o)) (ad (ad (ad L 1) 1) 2) (upd1 (g' (ad (ad (ad L 1) 1) 2)) m.toNat w)) ρ' h' (j1.now hW hl2 (fun x z => by rw [row_n (by unfold ad at *; omega), row_n (by unfold ad at *; omega)])) (Fr.of j2 j3 j4 (fun x z => by rw [row_n (by unfold ad at *; omega), row_n (by unfold ad at *; omega)]))
        simp only [m_L_setMouth, b_L_setMouth_0, P_L_setMouth_38, b_L_setMouth_38, P_L_setMouth_40, b_L_setMouth_40, wp_abs, wp_al4, wp_aln0, wp_as4, wp_bipush, wp_copy, wp_cs1, wp_cs2, wp_cs3, wp_cs4, wp_cs5, wp_cs6, wp_cs7, wp_cv1, wp_cv2, wp_cv3, wp_cv4, wp_cv5, wp_cv6, wp_cv7, wp_iast, wp_iconst, wp_il5, wp_iln1, wp_iln2, wp_iln3, wp_iret, wp_is5, wp_izeq, wp_izne, wp_max, wp_min, wp_nop, wp_zret, qsc_kd, qsc_k1, qsc_l1, qsc_gf1, qsc_k2, qsc_l2, qsc_gf2, qsc_k3, qsc_l3, qsc_gf3, qsc_k4, qsc_l4, qsc_gf4, qsc_k5, qsc_l5, qsc_gf6, qsc_k6, qsc_l6, qsc_gf7, qsc_k7, qsc_l7, qsc_gf9, qsc_k8, qsc_l8, qsc_gf10, qsc_gf0, qsc_pf0, qsc_gf5, qsc_pf5, qsc_gf8, qsc_pf8, qst_kd, qst_gf0, qst_k10, qst_l10, qst_gf1, qst_k29, qst_l29, qst_gf2, qlf_kd, qlf_gf0, qlf_k31, qlf_l31, qlf_gf1, qlf_gf3, qlf_gf4, qlf_gf5, qlf_gf6, qlf_k203, qlf_l203, qlf_gf7, qlf_gf2, qlf_pf2, qlf_gf8, qlf_pf8, wrI_row, cpI_row, row_s, row_n, row_ss, row_sw, upd_s, upd_n, ad_inj, ad_z, ad_z2, Nat.reduceEqDiff, reduceCtorEq, List.cons_append, List.nil_append, Option.toList_some, Option.toList_none, Int.toNat_natCast, List.length_cons, List.length_nil, Int.cast_ofNat_Int, Nat.reduceAdd, Nat.reduceLeDiff, Nat.reduceLT, Nat.reduceMul, Int.reduceAdd, Int.reduceSub, Int.reduceMul, Int.reduceNeg, Int.reduceLT, Int.reduceLE, Int.reduceEq, Int.reduceToNat, eq_self, true_and, and_true, true_or, or_true, false_or, or_false, if_true, if_false, not_true_eq_false, not_false_eq_true, and_self, ne_eq, hS', hds]
        (repeat' (first | apply And.intro | split)) <;> first | omega | exact q
      · have ho2 := fun Q => lk_out (zt := zt) (g := g) (ρ := ρ) (lo := 0) (hi := 9) hw (by omega) (by omega) c2 Q
        rw [if_neg (fun z => c2 z.2.2)] at hQ
        have q := hQ.ro hX
        simp only [m_L_setMouth, b_L_setMouth_0, P_L_setMouth_38, b_L_setMouth_38, P_L_setMouth_40, b_L_setMouth_40, wp_abs, wp_al4, wp_aln0, wp_as4, wp_bipush, wp_copy, wp_cs1, wp_cs2, wp_cs3, wp_cs4, wp_cs5, wp_cs6, wp_cs7, wp_cv1, wp_cv2, wp_cv3, wp_cv4, wp_cv5, wp_cv6, wp_cv7, wp_iast, wp_iconst, wp_il5, wp_iln1, wp_iln2, wp_iln3, wp_iret, wp_is5, wp_izeq, wp_izne, wp_max, wp_min, wp_nop, wp_zret, qsc_kd, qsc_k1, qsc_l1, qsc_gf1, qsc_k2, qsc_l2, qsc_gf2, qsc_k3, qsc_l3, qsc_gf3, qsc_k4, qsc_l4, qsc_gf4, qsc_k5, qsc_l5, qsc_gf6, qsc_k6, qsc_l6, qsc_gf7, qsc_k7, qsc_l7, qsc_gf9, qsc_k8, qsc_l8, qsc_gf10, qsc_gf0, qsc_pf0, qsc_gf5, qsc_pf5, qsc_gf8, qsc_pf8, qst_kd, qst_gf0, qst_k10, qst_l10, qst_gf1, qst_k29, qst_l29, qst_gf2, qlf_kd, qlf_gf0, qlf_k31, qlf_l31, qlf_gf1, qlf_gf3, qlf_gf4, qlf_gf5, qlf_gf6, qlf_k203, qlf_l203, qlf_gf7, qlf_gf2, qlf_pf2, qlf_gf8, qlf_pf8, wrI_row, cpI_row, row_s, row_n, row_ss, row_sw, upd_s, upd_n, ad_inj, ad_z, ad_z2, Nat.reduceEqDiff, reduceCtorEq, List.cons_append, List.nil_append, Option.toList_some, Option.toList_none, Int.toNat_natCast, List.length_cons, List.length_nil, Int.cast_ofNat_Int, Nat.reduceAdd, Nat.reduceLeDiff, Nat.reduceLT, Nat.reduceMul, Int.reduceAdd, Int.reduceSub, Int.reduceMul, Int.reduceNeg, Int.reduceLT, Int.reduceLE, Int.reduceEq, Int.reduceToNat, eq_self, true_and, and_true, true_or, or_true, false_or, or_false, if_true, if_false, not_true_eq_false, not_false_eq_true, and_self, ne_eq, hLf, hN1, hS, hm1, ho1, ho2]
        (repeat' (first | apply And.intro | split)) <;> first | omega | exact q
    · have ho1 := fun Q => lk_out (zt := zt) (g := g) (ρ := ρ) (lo := 0) (hi := 9) hoo (by omega) (by omega) c1 Q
      rw [if_neg (fun z => c1 z.2.1)] at hQ
      have q := hQ.ro hX
      simp only [m_L_setMouth, b_L_setMouth_0, P_L_setMouth_38, b_L_setMouth_38, P_L_setMouth_40, b_L_setMouth_40, wp_abs, wp_al4, wp_aln0, wp_as4, wp_bipush, wp_copy, wp_cs1, wp_cs2, wp_cs3, wp_cs4, wp_cs5, wp_cs6, wp_cs7, wp_cv1, wp_cv2, wp_cv3, wp_cv4, wp_cv5, wp_cv6, wp_cv7, wp_iast, wp_iconst, wp_il5, wp_iln1, wp_iln2, wp_iln3, wp_iret, wp_is5, wp_izeq, wp_izne, wp_max, wp_min, wp_nop, wp_zret, qsc_kd, qsc_k1, qsc_l1, qsc_gf1, qsc_k2, qsc_l2, qsc_gf2, qsc_k3, qsc_l3, qsc_gf3, qsc_k4, qsc_l4, qsc_gf4, qsc_k5, qsc_l5, qsc_gf6, qsc_k6, qsc_l6, qsc_gf7, qsc_k7, qsc_l7, qsc_gf9, qsc_k8, qsc_l8, qsc_gf10, qsc_gf0, qsc_pf0, qsc_gf5, qsc_pf5, qsc_gf8, qsc_pf8, qst_kd, qst_gf0, qst_k10, qst_l10, qst_gf1, qst_k29, qst_l29, qst_gf2, qlf_kd, qlf_gf0, qlf_k31, qlf_l31, qlf_gf1, qlf_gf3, qlf_gf4, qlf_gf5, qlf_gf6, qlf_k203, qlf_l203, qlf_gf7, qlf_gf2, qlf_pf2, qlf_gf8, qlf_pf8, wrI_row, cpI_row, row_s, row_n, row_ss, row_sw, upd_s, upd_n, ad_inj, ad_z, ad_z2, Nat.reduceEqDiff, reduceCtorEq, List.cons_append, List.nil_append, Option.toList_some, Option.toList_none, Int.toNat_natCast, List.length_cons, List.length_nil, Int.cast_ofNat_Int, Nat.reduceAdd, Nat.reduceLeDiff, Nat.reduceLT, Nat.reduceMul, Int.reduceAdd, Int.reduceSub, Int.reduceMul, Int.reduceNeg, Int.reduceLT, Int.reduceLE, Int.reduceEq, Int.reduceToNat, eq_self, true_and, and_true, true_or, or_true, false_or, or_false, if_true, if_false, not_true_eq_false, not_false_eq_true, and_self, ne_eq, hLf, hN1, hS, hm1, ho1]
      (repeat' (first | apply And.intro | split)) <;> first | omega | exact q
  · rw [b2_f c0] at hm1
    rw [if_neg (fun z => c0 z.1)] at hQ
    have q := hQ.ro hX
    simp only [m_L_setMouth, b_L_setMouth_0, P_L_setMouth_38, b_L_setMouth_38, P_L_setMouth_40, b_L_setMouth_40, wp_abs, wp_al4, wp_aln0, wp_as4, wp_bipush, wp_copy, wp_cs1, wp_cs2, wp_cs3, wp_cs4, wp_cs5, wp_cs6, wp_cs7, wp_cv1, wp_cv2, wp_cv3, wp_cv4, wp_cv5, wp_cv6, wp_cv7, wp_iast, wp_iconst, wp_il5, wp_iln1, wp_iln2, wp_iln3, wp_iret, wp_is5, wp_izeq, wp_izne, wp_max, wp_min, wp_nop, wp_zret, qsc_kd, qsc_k1, qsc_l1, qsc_gf1, qsc_k2, qsc_l2, qsc_gf2, qsc_k3, qsc_l3, qsc_gf3, qsc_k4, qsc_l4, qsc_gf4, qsc_k5, qsc_l5, qsc_gf6, qsc_k6, qsc_l6, qsc_gf7, qsc_k7, qsc_l7, qsc_gf9, qsc_k8, qsc_l8, qsc_gf10, qsc_gf0, qsc_pf0, qsc_gf5, qsc_pf5, qsc_gf8, qsc_pf8, qst_kd, qst_gf0, qst_k10, qst_l10, qst_gf1, qst_k29, qst_l29, qst_gf2, qlf_kd, qlf_gf0, qlf_k31, qlf_l31, qlf_gf1, qlf_gf3, qlf_gf4, qlf_gf5, qlf_gf6, qlf_k203, qlf_l203, qlf_gf7, qlf_gf2, qlf_pf2, qlf_gf8, qlf_pf8, wrI_row, cpI_row, row_s, row_n, row_ss, row_sw, upd_s, upd_n, ad_inj, ad_z, ad_z2, Nat.reduceEqDiff, reduceCtorEq, List.cons_append, List.nil_append, Option.toList_some, Option.toList_none, Int.toNat_natCast, List.length_cons, List.length_nil, Int.cast_ofNat_Int, Nat.reduceAdd, Nat.reduceLeDiff, Nat.reduceLT, Nat.reduceMul, Int.reduceAdd, Int.reduceSub, Int.reduceMul, Int.reduceNeg, Int.reduceLT, Int.reduceLE, Int.reduceEq, Int.reduceToNat, eq_self, true_and, and_true, true_or, or_true, false_or, or_false, if_true, if_false, not_true_eq_false, not_false_eq_true, and_self, ne_eq, hLf, hN1, hS, hm1]
    (repeat' (first | apply And.intro | split)) <;> first | omega | exact q
end MTH
