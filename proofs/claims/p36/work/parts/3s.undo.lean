/-! undo -/
section UND
variable {zt : Nat → Nat} {g : Nat → Nat → Int} {ρ : Ri} {L : Nat} {h : Nat → Nat} {X : XV} {Q : Option AV → Sto → Prop}
def sUndo (X : XV) : Int × XV := if X.2.1 = 0 then (-2, X) else ((X.2.1 : Int) - 1, (X.2.2.1 (X.2.1 - 1), X.2.1 - 1, X.2.2))
theorem sUndo_wf (hW : WFX X) : WFX (sUndo X).2 := by
  unfold sUndo
  obtain ⟨w1, w2, w3, w4⟩ := id hW
  split
  next c => exact hW
  next c => exact ⟨w3 _ (by omega), by show X.2.1 - 1 ≤ 5; omega, fun i hi => w3 i (by replace hi : i < X.2.1 - 1 := hi; omega), w4⟩
theorem c_undo (hX : RepC g ρ L h X) (hW : WFX X) (hQ : CQ g ρ L (sUndo X) Q) : WpM zt 63 [AR L] (g, ρ) Q := by
  obtain ⟨hLf, hN, -⟩ := id hX.1
  obtain ⟨hR, -⟩ := id hX.2.1
  have hU := hW.1.1
  have hWV := hR.wf (by omega) hU
  have hN1 := hN.1
  have hS := hN.2.1
  have e0 : g (ad (ad L 1) 1) 0 = X.1.1 0 0 := hR.l0
  have e5 : g (ad (ad L 1) 1) 5 = X.1.1 5 0 := hR.l5
  have e8 : g (ad (ad L 1) 1) 8 = X.1.1 8 0 := hR.l8
  have b0 := hU.1
  have b5 := hU.2.2.2.2.1
  have b8 := hU.2.2.2.2.2.2.1
  have x3 : g L 2 = X.2.1 := hX.2.2.2.1
  have wn := hW.2.1
  unfold sUndo at hQ
  by_cases c : X.2.1 = 0
  · rw [if_pos c] at hQ
    have q := hQ.ro hX
    have x3' : g L 2 = 0 := by rw [x3, c]; rfl
    simp only [m_L_undo, b_L_undo_0, P_L_undo_10, b_L_undo_10, wp_aln0, wp_bipush, wp_cv1, wp_cv2, wp_cv3, wp_cv4, wp_cv5, wp_cv6, wp_cv7, wp_dup, wp_iconst, wp_iret, wp_isub, wp_izgt, wp_qald2, wp_qald3, wp_zret, qst_kd, qst_gf0, qst_k10, qst_l10, qst_gf1, qst_k29, qst_l29, qst_gf2, qlf_kd, qlf_gf0, qlf_k31, qlf_l31, qlf_gf1, qlf_gf3, qlf_gf4, qlf_gf5, qlf_gf6, qlf_k203, qlf_l203, qlf_gf7, qlf_gf2, qlf_pf2, qlf_gf8, qlf_pf8, wrI_row, cpI_row, row_s, row_n, row_ss, row_sw, upd_s, upd_n, ad_inj, ad_z, ad_z2, Nat.reduceEqDiff, reduceCtorEq, List.cons_append, List.nil_append, Option.toList_some, Option.toList_none, Int.toNat_natCast, List.length_cons, List.length_nil, Int.cast_ofNat_Int, Nat.reduceAdd, Nat.reduceLeDiff, Nat.reduceLT, Nat.reduceMul, Int.reduceAdd, Int.reduceSub, Int.reduceMul, Int.reduceNeg, Int.reduceLT, Int.reduceLE, Int.reduceEq, Int.reduceToNat, eq_self, true_and, and_true, true_or, or_true, false_or, or_false, if_true, if_false, not_true_eq_false, not_false_eq_true, and_self, ne_eq, hLf, hN1, x3']
    (repeat' (first | apply And.intro | split)) <;> first | omega | exact q
  · rw [if_neg c] at hQ
    obtain ⟨k1, k2, k3, k4, k5, k6⟩ := id hX
    obtain ⟨l1, l2, l3, l4, l5, l6, l7, hh, hinj⟩ := id k1
    obtain ⟨p1, p2⟩ := hh (X.2.1 - 1) (by omega)
    have hO := l3 _ p2
    have hO1 := hO.1
    have eidx : ((X.2.1 : Int) - 1).toNat = X.2.1 - 1 := by omega
    have x3' : ¬ (X.2.1 : Int) ≤ 0 := by omega
    simp only [m_L_undo, b_L_undo_0, P_L_undo_10, b_L_undo_10, wp_aln0, wp_bipush, wp_cv1, wp_cv2, wp_cv3, wp_cv4, wp_cv5, wp_cv6, wp_cv7, wp_dup, wp_iconst, wp_iret, wp_isub, wp_izgt, wp_qald2, wp_qald3, wp_zret, qst_kd, qst_gf0, qst_k10, qst_l10, qst_gf1, qst_k29, qst_l29, qst_gf2, qlf_kd, qlf_gf0, qlf_k31, qlf_l31, qlf_gf1, qlf_gf3, qlf_gf4, qlf_gf5, qlf_gf6, qlf_k203, qlf_l203, qlf_gf7, qlf_gf2, qlf_pf2, qlf_gf8, qlf_pf8, wrI_row, cpI_row, row_s, row_n, row_ss, row_sw, upd_s, upd_n, ad_inj, ad_z, ad_z2, Nat.reduceEqDiff, reduceCtorEq, List.cons_append, List.nil_append, Option.toList_some, Option.toList_none, Int.toNat_natCast, List.length_cons, List.length_nil, Int.cast_ofNat_Int, Nat.reduceAdd, Nat.reduceLeDiff, Nat.reduceLT, Nat.reduceMul, Int.reduceAdd, Int.reduceSub, Int.reduceMul, Int.reduceNeg, Int.reduceLT, Int.reduceLE, Int.reduceEq, Int.reduceToNat, eq_self, true_and, and_true, true_or, or_true, false_or, or_false, if_true, if_false, not_true_eq_false, not_false_eq_true, and_self, ne_eq, hLf, hN1, x3, x3', eidx, p1, hO1]
    (repeat' (first | apply And.intro | split)) <;> first | omega | skip
    have s1 := k3 (X.2.1 - 1) (by omega)
    have s2 : SRC (setRow g L (upd1 (g L) 2 ((X.2.1 : Int) - 1))) (ad L (32 + 30 * h (X.2.1 - 1))) (X.2.2.1 (X.2.1 - 1)) := s1.kept (fun x z1 z2 => row_n (by unfold ad at z1; omega))
    refine stateCopy_ok l2 hO (by unfold ad; omega) s2.tk (fun g1 he hf => ?_)
    have s3 := s2.cp (hW.2.2.1 _ (by omega)) he
    have fr : ∀ x, (x < ad L 1 ∨ ad L 1 + 30 ≤ x) → x ≠ L → g1 x = g x := fun x z1 z2 => (hf x z1).trans (row_n z2)
    have eL : g1 L = upd1 (g L) 2 ((X.2.1 : Int) - 1) := (hf L (by unfold ad; omega)).trans row_s
    have e2 : g1 L 2 = (X.2.1 : Int) - 1 := by rw [eL, upd_s]
    have q := hQ g1 ρ h ⟨k1, s3, fun i hi => ?_, ?_, ?_, fun j hj => ?_⟩ ⟨rfl, fun x z => ⟨rfl, fr x (by unfold ad at *; omega) (by unfold ad at z; omega)⟩⟩
    · simp only [m_L_undo, b_L_undo_0, P_L_undo_10, b_L_undo_10, wp_aln0, wp_bipush, wp_cv1, wp_cv2, wp_cv3, wp_cv4, wp_cv5, wp_cv6, wp_cv7, wp_dup, wp_iconst, wp_iret, wp_isub, wp_izgt, wp_qald2, wp_qald3, wp_zret, qst_kd, qst_gf0, qst_k10, qst_l10, qst_gf1, qst_k29, qst_l29, qst_gf2, qlf_kd, qlf_gf0, qlf_k31, qlf_l31, qlf_gf1, qlf_gf3, qlf_gf4, qlf_gf5, qlf_gf6, qlf_k203, qlf_l203, qlf_gf7, qlf_gf2, qlf_pf2, qlf_gf8, qlf_pf8, wrI_row, cpI_row, row_s, row_n, row_ss, row_sw, upd_s, upd_n, ad_inj, ad_z, ad_z2, Nat.reduceEqDiff, reduceCtorEq, List.cons_append, List.nil_append, Option.toList_some, Option.toList_none, Int.toNat_natCast, List.length_cons, List.length_nil, Int.cast_ofNat_Int, Nat.reduceAdd, Nat.reduceLeDiff, Nat.reduceLT, Nat.reduceMul, Int.reduceAdd, Int.reduceSub, Int.reduceMul, Int.reduceNeg, Int.reduceLT, Int.reduceLE, Int.reduceEq, Int.reduceToNat, eq_self, true_and, and_true, true_or, or_true, false_or, or_false, if_true, if_false, not_true_eq_false, not_false_eq_true, and_self, ne_eq, hLf, hN1, e2]
      (repeat' (first | apply And.intro | split)) <;> first | omega | exact q
    · replace hi : i < X.2.1 - 1 := hi
      have := (hh i (by omega)).2
      exact (k3 i (by omega)).kept (fun x z1 z2 => fr x (by unfold ad at *; omega) (by unfold ad at z1; omega))
    · rw [e2]
      show (X.2.1 : Int) - 1 = ((X.2.1 - 1 : Nat) : Int)
      omega
    · rw [eL, upd_n (by omega)]
      exact k5
    · rw [fr (ad L 203) (by unfold ad; omega) (by unfold ad; omega)]
      exact k6 j hj
end UND
