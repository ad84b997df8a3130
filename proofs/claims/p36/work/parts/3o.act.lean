/-! THE CLASS'S CALLS THAT CHANGE: the frames -/
/-- the state kept, and a view in the scene's place -/
def actX (X : XV) (U : Vw) : XV := ((U, X.1.2), (recX X).2)
theorem actX_wf {X : XV} {U : Vw} (hW : WFX X) (hU : WFV (-1) U) : WFX (actX X U) := by
  obtain ⟨h1, h2⟩ := recX_wf hW
  exact ⟨⟨hU, h1.2⟩, h2⟩
section ACT
variable {zt : Nat → Nat} {g : Nat → Nat → Int} {ρ : Ri} {L : Nat} {h : Nat → Nat} {X : XV} {Q : Option AV → Sto → Prop}
theorem RepC.now {g'' : Nat → Nat → Int} {U' : Vw} (hX : RepC g ρ L h (recX X)) (hW : WFX X) (hR : LR (-99) (vwC g'' (ad (ad L 1) 1)) U') (hk : ∀ x, (x < ad (ad L 1) 1 ∨ ad (ad L 1) 10 ≤ x) → g'' x = g x) : RepC g'' ρ L h (actX X U') := by
  have hW' := recX_wf hW
  obtain ⟨h1, h2, h3, h4, h5, h6⟩ := hX
  obtain ⟨-, k2, k3, k4, k5⟩ := h2
  have e1 : vwC g'' (ad (ad L 1) 11) = vwC g (ad (ad L 1) 11) := vwC_kept (fun x z1 z2 => hk x (by unfold ad at *; omega))
  have e2 : vwC g'' (ad (ad L 1) 20) = vwC g (ad (ad L 1) 20) := vwC_kept (fun x z1 z2 => hk x (by unfold ad at *; omega))
  have e3 : g'' (ad (ad L 1) 29) = g (ad (ad L 1) 29) := hk _ (by unfold ad; omega)
  refine ⟨h1, ⟨hR, ?_, ?_, ?_, ?_⟩, fun i hi => ?_, ?_, ?_, fun j hj => ?_⟩
  · rw [e3]
    exact k2
  · rw [e3]
    exact k3
  · rw [e1]
    exact k4
  · rw [e2]
    exact k5
  · obtain ⟨-, -, -, -, -, -, -, hh, -⟩ := h1
    have e := hW'.2.1
    have hi2 : i < (recX X).2.1 := hi
    have := (hh i (by omega)).2
    exact (h3 i hi).kept (fun x z1 z2 => hk x (by unfold ad at *; omega))
  · rw [hk L (by unfold ad; omega)]
    exact h4
  · rw [hk L (by unfold ad; omega)]
    exact h5
  · rw [hk (ad L 203) (by unfold ad; omega)]
    exact h6 j hj
theorem Fr.of {g' g'' : Nat → Nat → Int} {ρ' : Ri} (h2 : ρ'.2 = ρ.2) (h1 : ∀ x, x ≠ ad L 31 → ρ'.1 x = ρ.1 x) (hf : ∀ x, (x < L ∨ (L < x ∧ x < ad L 32) ∨ ad L 182 ≤ x) → g' x = g x) (hk : ∀ x, (x < ad (ad L 1) 1 ∨ ad (ad L 1) 10 ≤ x) → g'' x = g' x) : Fr L g ρ g'' ρ' := by
  refine ⟨h2, fun x z => ⟨h1 x (by unfold ad at *; omega), ?_⟩⟩
  rw [hk x (by unfold ad at *; omega)]
  exact hf x (by unfold ad at *; omega)
def sPut (k : Nat) (f m : Int) (X : XV) : Int × XV := if (0 ≤ f ∧ f < X.1.1 8 0) ∧ (m = -1 ∨ (0 ≤ m ∧ m < X.1.1 0 0)) then (nn (-99) (X.1.1 k f.toNat), actX X (setV X.1.1 k f.toNat m)) else (-1, X)
theorem sPut_wf {k : Nat} (hk : k = 9 ∨ k = 10) {f m : Int} (hW : WFX X) : WFX (sPut k f m X).2 := by
  unfold sPut
  split
  next c => exact actX_wf hW (set_wfp hW.1.1 hk c.2)
  next c => exact hW
theorem c_pin (hX : RepC g ρ L h X) (hW : WFX X) {f m : Int} (hf : i32 f) (hm : i32 m) (hQ : CQ g ρ L (sPut 9 f m X) Q) : WpM zt 56 [AR L, AI f, AI m] (g, ρ) Q := by
  obtain ⟨hLf, hN, -⟩ := id hX.1
  obtain ⟨hR, -⟩ := id hX.2.1
  have hU := hW.1.1
  have hWV := hR.wf (by omega) hU
  have hN1 := hN.1
  have hS := hN.2.1
  have e0 : g (ad (ad L 1) 1) 0 = X.1.1 0 0 := hR.l0
  have e5 : g (ad (ad L 1) 1) 5 = X.1.1 5 0 := hR.l5
  have e8 : g (ad (ad L 1) 1) 8 = X.1.1 8 0 := hR.l8
  have b0 := hU.1
  have b5 := hU.2.2.2.2.1
  have b8 := hU.2.2.2.2.2.2.1
  obtain ⟨ma, mb⟩ := id hm
  unfold sPut at hQ
  have hm1 := hasFrame_ok (zt := zt) (ρ := ρ) hS hWV (m := f) hf.1 hf.2
  have hm2 := hasMouth_ok (zt := zt) (ρ := ρ) hS hWV (m := m) hm.1 hm.2
  rw [e8] at hm1
  rw [e0] at hm2
  by_cases c1 : 0 ≤ f ∧ f < X.1.1 8 0
  · rw [b2_t c1] at hm1
    have fin1 : (m = -1 ∨ (0 ≤ m ∧ m < X.1.1 0 0)) → Wp zt 56 (P 56 31) [some (AR L), some (AI f), some (AI m), some (AR (ad (ad L 1) 1)), none] [] (g, ρ) Q := by
      intro c2
      rw [if_pos ⟨c1, c2⟩] at hQ
      rw [P_L_pin_31]
      simp only [m_L_pin, b_L_pin_0, P_L_pin_29, b_L_pin_29, P_L_pin_58, b_L_pin_58, P_L_pin_59, b_L_pin_59, wp_aln0, wp_aln3, wp_asn3, wp_bipush, wp_cv1, wp_cv2, wp_cv3, wp_cv4, wp_cv5, wp_cv6, wp_cv7, wp_goto, wp_iald, wp_iast, wp_iceq, wp_icne, wp_iconst, wp_il4, wp_iln1, wp_iln2, wp_iret, wp_is4, wp_izeq, wp_izne, wp_nop, wp_zret, qsc_kd, qsc_k1, qsc_l1, qsc_gf1, qsc_k2, qsc_l2, qsc_gf2, qsc_k3, qsc_l3, qsc_gf3, qsc_k4, qsc_l4, qsc_gf4, qsc_k5, qsc_l5, qsc_gf6, qsc_k6, qsc_l6, qsc_gf7, qsc_k7, qsc_l7, qsc_gf9, qsc_k8, qsc_l8, qsc_gf10, qsc_gf0, qsc_pf0, qsc_gf5, qsc_pf5, qsc_gf8, qsc_pf8, qst_kd, qst_gf0, qst_k10, qst_l10, qst_gf1, qst_k29, qst_l29, qst_gf2, qlf_kd, qlf_gf0, qlf_k31, qlf_l31, qlf_gf1, qlf_gf3, qlf_gf4, qlf_gf5, qlf_gf6, qlf_k203, qlf_l203, qlf_gf7, qlf_gf2, qlf_pf2, qlf_gf8, qlf_pf8, wrI_row, cpI_row, row_s, row_n, row_ss, row_sw, upd_s, upd_n, ad_inj, ad_z, ad_z2, Nat.reduceEqDiff, reduceCtorEq, List.cons_append, List.nil_append, Option.toList_some, Option.toList_none, Int.toNat_natCast, List.length_cons, List.length_nil, Int.cast_ofNat_Int, Nat.reduceAdd, Nat.reduceLeDiff, Nat.reduceLT, Nat.reduceMul, Int.reduceAdd, Int.reduceSub, Int.reduceMul, Int.reduceNeg, Int.reduceLT, Int.reduceLE, Int.reduceEq, Int.reduceToNat, eq_self, true_and, and_true, true_or, or_true, false_or, or_false, if_true, if_false, not_true_eq_false, not_false_eq_true, and_self, ne_eq, b_L_pin_31, hLf, hN1, hS]
      refine recordState_ok hX hW (fun g' ρ' h' j1 j2 j3 j4 => ?_)
      have hS' := j1.1.2.1.2.1
      have hR' := j1.2.1.1
      have r9 : g' (ad (ad (ad L 1) 1) 7) f.toNat = nn (-99) (X.1.1 9 f.toNat) := hR'.l9 (show (f.toNat : Int) < X.1.1 8 0 by omega)
      have q := hQ (setRow g' (ad (ad (ad L 1) 1) 7) (upd1 (g' (ad (ad (ad L 1) 1) 7)) f.toNat (nn (-99) m))) ρ' h' (j1.now hW (lr_setp hR' (Or.inl rfl) (fun k' j' z1 z2 => by rw [vw_p (kk := 9) (by omega) z1, if_neg z2]) (by rw [vw_p (kk := 9) (by omega) (by omega), if_pos ⟨rfl, rfl⟩])) (fun x z => row_n (by unfold ad at *; omega))) (Fr.of j2 j3 j4 (fun x z => row_n (by unfold ad at *; omega)))
      by_cases c3 : m = -1
      · rw [show nn (-99) m = -99 from if_pos c3] at q
        simp only [m_L_pin, b_L_pin_0, P_L_pin_29, b_L_pin_29, P_L_pin_58, b_L_pin_58, P_L_pin_59, b_L_pin_59, wp_aln0, wp_aln3, wp_asn3, wp_bipush, wp_cv1, wp_cv2, wp_cv3, wp_cv4, wp_cv5, wp_cv6, wp_cv7, wp_goto, wp_iald, wp_iast, wp_iceq, wp_icne, wp_iconst, wp_il4, wp_iln1, wp_iln2, wp_iret, wp_is4, wp_izeq, wp_izne, wp_nop, wp_zret, qsc_kd, qsc_k1, qsc_l1, qsc_gf1, qsc_k2, qsc_l2, qsc_gf2, qsc_k3, qsc_l3, qsc_gf3, qsc_k4, qsc_l4, qsc_gf4, qsc_k5, qsc_l5, qsc_gf6, qsc_k6, qsc_l6, qsc_gf7, qsc_k7, qsc_l7, qsc_gf9, qsc_k8, qsc_l8, qsc_gf10, qsc_gf0, qsc_pf0, qsc_gf5, qsc_pf5, qsc_gf8, qsc_pf8, qst_kd, qst_gf0, qst_k10, qst_l10, qst_gf1, qst_k29, qst_l29, qst_gf2, qlf_kd, qlf_gf0, qlf_k31, qlf_l31, qlf_gf1, qlf_gf3, qlf_gf4, qlf_gf5, qlf_gf6, qlf_k203, qlf_l203, qlf_gf7, qlf_gf2, qlf_pf2, qlf_gf8, qlf_pf8, wrI_row, cpI_row, row_s, row_n, row_ss, row_sw, upd_s, upd_n, ad_inj, ad_z, ad_z2, Nat.reduceEqDiff, reduceCtorEq, List.cons_append, List.nil_append, Option.toList_some, Option.toList_none, Int.toNat_natCast, List.length_cons, List.length_nil, Int.cast_ofNat_Int, Nat.reduceAdd, Nat.reduceLeDiff, Nat.reduceLT, Nat.reduceMul, Int.reduceAdd, Int.reduceSub, Int.reduceMul, Int.reduceNeg, Int.reduceLT, Int.reduceLE, Int.reduceEq, Int.reduceToNat, eq_self, true_and, and_true, true_or, or_true, false_or, or_false, if_true, if_false, not_true_eq_false, not_false_eq_true, and_self, ne_eq, hS', r9, c3]
        (repeat' (first | apply And.intro | split)) <;> first | omega | exact q
      · rw [show nn (-99) m = m from if_neg c3] at q
        simp only [m_L_pin, b_L_pin_0, P_L_pin_29, b_L_pin_29, P_L_pin_58, b_L_pin_58, P_L_pin_59, b_L_pin_59, wp_aln0, wp_aln3, wp_asn3, wp_bipush, wp_cv1, wp_cv2, wp_cv3, wp_cv4, wp_cv5, wp_cv6, wp_cv7, wp_goto, wp_iald, wp_iast, wp_iceq, wp_icne, wp_iconst, wp_il4, wp_iln1, wp_iln2, wp_iret, wp_is4, wp_izeq, wp_izne, wp_nop, wp_zret, qsc_kd, qsc_k1, qsc_l1, qsc_gf1, qsc_k2, qsc_l2, qsc_gf2, qsc_k3, qsc_l3, qsc_gf3, qsc_k4, qsc_l4, qsc_gf4, qsc_k5, qsc_l5, qsc_gf6, qsc_k6, qsc_l6, qsc_gf7, qsc_k7, qsc_l7, qsc_gf9, qsc_k8, qsc_l8, qsc_gf10, qsc_gf0, qsc_pf0, qsc_gf5, qsc_pf5, qsc_gf8, qsc_pf8, qst_kd, qst_gf0, qst_k10, qst_l10, qst_gf1, qst_k29, qst_l29, qst_gf2, qlf_kd, qlf_gf0, qlf_k31, qlf_l31, qlf_gf1, qlf_gf3, qlf_gf4, qlf_gf5, qlf_gf6, qlf_k203, qlf_l203, qlf_gf7, qlf_gf2, qlf_pf2, qlf_gf8, qlf_pf8, wrI_row, cpI_row, row_s, row_n, row_ss, row_sw, upd_s, upd_n, ad_inj, ad_z, ad_z2, Nat.reduceEqDiff, reduceCtorEq, List.cons_append, List.nil_append, Option.toList_some, Option.toList_none, Int.toNat_natCast, List.length_cons, List.length_nil, Int.cast_ofNat_Int, Nat.reduceAdd, Nat.reduceLeDiff, Nat.reduceLT, Nat.reduceMul, Int.reduceAdd, Int.reduceSub, Int.reduceMul, Int.reduceNeg, Int.reduceLT, Int.reduceLE, Int.reduceEq, Int.reduceToNat, eq_self, true_and, and_true, true_or, or_true, false_or, or_false, if_true, if_false, not_true_eq_false, not_false_eq_true, and_self, ne_eq, hS', r9, c3]
        (repeat' (first | apply And.intro | split)) <;> first | omega | exact q
    by_cases c3 : m = -1
    · have k1 := fin1 (Or.inl c3)
      subst c3
      simp only [m_L_pin, b_L_pin_0, P_L_pin_29, b_L_pin_29, P_L_pin_58, b_L_pin_58, P_L_pin_59, b_L_pin_59, wp_aln0, wp_aln3, wp_asn3, wp_bipush, wp_cv1, wp_cv2, wp_cv3, wp_cv4, wp_cv5, wp_cv6, wp_cv7, wp_goto, wp_iald, wp_iast, wp_iceq, wp_icne, wp_iconst, wp_il4, wp_iln1, wp_iln2, wp_iret, wp_is4, wp_izeq, wp_izne, wp_nop, wp_zret, qsc_kd, qsc_k1, qsc_l1, qsc_gf1, qsc_k2, qsc_l2, qsc_gf2, qsc_k3, qsc_l3, qsc_gf3, qsc_k4, qsc_l4, qsc_gf4, qsc_k5, qsc_l5, qsc_gf6, qsc_k6, qsc_l6, qsc_gf7, qsc_k7, qsc_l7, qsc_gf9, qsc_k8, qsc_l8, qsc_gf10, qsc_gf0, qsc_pf0, qsc_gf5, qsc_pf5, qsc_gf8, qsc_pf8, qst_kd, qst_gf0, qst_k10, qst_l10, qst_gf1, qst_k29, qst_l29, qst_gf2, qlf_kd, qlf_gf0, qlf_k31, qlf_l31, qlf_gf1, qlf_gf3, qlf_gf4, qlf_gf5, qlf_gf6, qlf_k203, qlf_l203, qlf_gf7, qlf_gf2, qlf_pf2, qlf_gf8, qlf_pf8, wrI_row, cpI_row, row_s, row_n, row_ss, row_sw, upd_s, upd_n, ad_inj, ad_z, ad_z2, Nat.reduceEqDiff, reduceCtorEq, List.cons_append, List.nil_append, Option.toList_some, Option.toList_none, Int.toNat_natCast, List.length_cons, List.length_nil, Int.cast_ofNat_Int, Nat.reduceAdd, Nat.reduceLeDiff, Nat.reduceLT, Nat.reduceMul, Int.reduceAdd, Int.reduceSub, Int.reduceMul, Int.reduceNeg, Int.reduceLT, Int.reduceLE, Int.reduceEq, Int.reduceToNat, eq_self, true_and, and_true, true_or, or_true, false_or, or_false, if_true, if_false, not_true_eq_false, not_false_eq_true, and_self, ne_eq, hLf, hN1, hS, hm1]
      (repeat' (first | apply And.intro | split)) <;> first | omega | exact k1
    · by_cases c4 : 0 ≤ m ∧ m < X.1.1 0 0
      · have k1 := fin1 (Or.inr c4)
        rw [b2_t c4] at hm2
        simp only [m_L_pin, b_L_pin_0, P_L_pin_29, b_L_pin_29, P_L_pin_58, b_L_pin_58, P_L_pin_59, b_L_pin_59, wp_aln0, wp_aln3, wp_asn3, wp_bipush, wp_cv1, wp_cv2, wp_cv3, wp_cv4, wp_cv5, wp_cv6, wp_cv7, wp_goto, wp_iald, wp_iast, wp_iceq, wp_icne, wp_iconst, wp_il4, wp_iln1, wp_iln2, wp_iret, wp_is4, wp_izeq, wp_izne, wp_nop, wp_zret, qsc_kd, qsc_k1, qsc_l1, qsc_gf1, qsc_k2, qsc_l2, qsc_gf2, qsc_k3, qsc_l3, qsc_gf3, qsc_k4, qsc_l4, qsc_gf4, qsc_k5, qsc_l5, qsc_gf6, qsc_k6, qsc_l6, qsc_gf7, qsc_k7, qsc_l7, qsc_gf9, qsc_k8, qsc_l8, qsc_gf10, qsc_gf0, qsc_pf0, qsc_gf5, qsc_pf5, qsc_gf8, qsc_pf8, qst_kd, qst_gf0, qst_k10, qst_l10, qst_gf1, qst_k29, qst_l29, qst_gf2, qlf_kd, qlf_gf0, qlf_k31, qlf_l31, qlf_gf1, qlf_gf3, qlf_gf4, qlf_gf5, qlf_gf6, qlf_k203, qlf_l203, qlf_gf7, qlf_gf2, qlf_pf2, qlf_gf8, qlf_pf8, wrI_row, cpI_row, row_s, row_n, row_ss, row_sw, upd_s, upd_n, ad_inj, ad_z, ad_z2, Nat.reduceEqDiff, reduceCtorEq, List.cons_append, List.nil_append, Option.toList_some, Option.toList_none, Int.toNat_natCast, List.length_cons, List.length_nil, Int.cast_ofNat_Int, Nat.reduceAdd, Nat.reduceLeDiff, Nat.reduceLT, Nat.reduceMul, Int.reduceAdd, Int.reduceSub, Int.reduceMul, Int.reduceNeg, Int.reduceLT, Int.reduceLE, Int.reduceEq, Int.reduceToNat, eq_self, true_and, and_true, true_or, or_true, false_or, or_false, if_true, if_false, not_true_eq_false, not_false_eq_true, and_self, ne_eq, hLf, hN1, hS, hm1, hm2, c3]
        (repeat' (first | apply And.intro | split)) <;> first | omega | exact k1
      · rw [b2_f c4] at hm2
        rw [if_neg (fun z => z.2.elim c3 c4)] at hQ
        have q := hQ.ro hX
        simp only [m_L_pin, b_L_pin_0, P_L_pin_29, b_L_pin_29, P_L_pin_58, b_L_pin_58, P_L_pin_59, b_L_pin_59, wp_aln0, wp_aln3, wp_asn3, wp_bipush, wp_cv1, wp_cv2, wp_cv3, wp_cv4, wp_cv5, wp_cv6, wp_cv7, wp_goto, wp_iald, wp_iast, wp_iceq, wp_icne, wp_iconst, wp_il4, wp_iln1, wp_iln2, wp_iret, wp_is4, wp_izeq, wp_izne, wp_nop, wp_zret, qsc_kd, qsc_k1, qsc_l1, qsc_gf1, qsc_k2, qsc_l2, qsc_gf2, qsc_k3, qsc_l3, qsc_gf3, qsc_k4, qsc_l4, qsc_gf4, qsc_k5, qsc_l5, qsc_gf6, qsc_k6, qsc_l6, qsc_gf7, qsc_k7, qsc_l7, qsc_gf9, qsc_k8, qsc_l8, qsc_gf10, qsc_gf0, qsc_pf0, qsc_gf5, qsc_pf5, qsc_gf8, qsc_pf8, qst_kd, qst_gf0, qst_k10, qst_l10, qst_gf1, qst_k29, qst_l29, qst_gf2, qlf_kd, qlf_gf0, qlf_k31, qlf_l31, qlf_gf1, qlf_gf3, qlf_gf4, qlf_gf5, qlf_gf6, qlf_k203, qlf_l203, qlf_gf7, qlf_gf2, qlf_pf2, qlf_gf8, qlf_pf8, wrI_row, cpI_row, row_s, row_n, row_ss, row_sw, upd_s, upd_n, ad_inj, ad_z, ad_z2, Nat.reduceEqDiff, reduceCtorEq, List.cons_append, List.nil_append, Option.toList_some, Option.toList_none, Int.toNat_natCast, List.length_cons, List.length_nil, Int.cast_ofNat_Int, Nat.reduceAdd, Nat.reduceLeDiff, Nat.reduceLT, Nat.reduceMul, Int.reduceAdd, Int.reduceSub, Int.reduceMul, Int.reduceNeg, Int.reduceLT, Int.reduceLE, Int.reduceEq, Int.reduceToNat, eq_self, true_and, and_true, true_or, or_true, false_or, or_false, if_true, if_false, not_true_eq_false, not_false_eq_true, and_self, ne_eq, hLf, hN1, hS, hm1, hm2, c3]
        (repeat' (first | apply And.intro | split)) <;> first | omega | exact q
  · rw [b2_f c1] at hm1
    rw [if_neg (fun z => c1 z.1)] at hQ
    have q := hQ.ro hX
    simp only [m_L_pin, b_L_pin_0, P_L_pin_29, b_L_pin_29, P_L_pin_58, b_L_pin_58, P_L_pin_59, b_L_pin_59, wp_aln0, wp_aln3, wp_asn3, wp_bipush, wp_cv1, wp_cv2, wp_cv3, wp_cv4, wp_cv5, wp_cv6, wp_cv7, wp_goto, wp_iald, wp_iast, wp_iceq, wp_icne, wp_iconst, wp_il4, wp_iln1, wp_iln2, wp_iret, wp_is4, wp_izeq, wp_izne, wp_nop, wp_zret, qsc_kd, qsc_k1, qsc_l1, qsc_gf1, qsc_k2, qsc_l2, qsc_gf2, qsc_k3, qsc_l3, qsc_gf3, qsc_k4, qsc_l4, qsc_gf4, qsc_k5, qsc_l5, qsc_gf6, qsc_k6, qsc_l6, qsc_gf7, qsc_k7, qsc_l7, qsc_gf9, qsc_k8, qsc_l8, qsc_gf10, qsc_gf0, qsc_pf0, qsc_gf5, qsc_pf5, qsc_gf8, qsc_pf8, qst_kd, qst_gf0, qst_k10, qst_l10, qst_gf1, qst_k29, qst_l29, qst_gf2, qlf_kd, qlf_gf0, qlf_k31, qlf_l31, qlf_gf1, qlf_gf3, qlf_gf4, qlf_gf5, qlf_gf6, qlf_k203, qlf_l203, qlf_gf7, qlf_gf2, qlf_pf2, qlf_gf8, qlf_pf8, wrI_row, cpI_row, row_s, row_n, row_ss, row_sw, upd_s, upd_n, ad_inj, ad_z, ad_z2, Nat.reduceEqDiff, reduceCtorEq, List.cons_append, List.nil_append, Option.toList_some, Option.toList_none, Int.toNat_natCast, List.length_cons, List.length_nil, Int.cast_ofNat_Int, Nat.reduceAdd, Nat.reduceLeDiff, Nat.reduceLT, Nat.reduceMul, Int.reduceAdd, Int.reduceSub, Int.reduceMul, Int.reduceNeg, Int.reduceLT, Int.reduceLE, Int.reduceEq, Int.reduceToNat, eq_self, true_and, and_true, true_or, or_true, false_or, or_false, if_true, if_false, not_true_eq_false, not_false_eq_true, and_self, ne_eq, hLf, hN1, hS, hm1]
    (repeat' (first | apply And.intro | split)) <;> first | omega | exact q
theorem c_draw (hX : RepC g ρ L h X) (hW : WFX X) {f m : Int} (hf : i32 f) (hm : i32 m) (hQ : CQ g ρ L (sPut 10 f m X) Q) : WpM zt 57 [AR L, AI f, AI m] (g, ρ) Q := by
  obtain ⟨hLf, hN, -⟩ := id hX.1
  obtain ⟨hR, -⟩ := id hX.2.1
  have hU := hW.1.1
  have hWV := hR.wf (by omega) hU
  have hN1 := hN.1
  have hS := hN.2.1
  have e0 : g (ad (ad L 1) 1) 0 = X.1.1 0 0 := hR.l0
  have e5 : g (ad (ad L 1) 1) 5 = X.1.1 5 0 := hR.l5
  have e8 : g (ad (ad L 1) 1) 8 = X.1.1 8 0 := hR.l8
  have b0 := hU.1
  have b5 := hU.2.2.2.2.1
  have b8 := hU.2.2.2.2.2.2.1
  obtain ⟨ma, mb⟩ := id hm
  unfold sPut at hQ
  have hm1 := hasFrame_ok (zt := zt) (ρ := ρ) hS hWV (m := f) hf.1 hf.2
  have hm2 := hasMouth_ok (zt := zt) (ρ := ρ) hS hWV (m := m) hm.1 hm.2
  rw [e8] at hm1
  rw [e0] at hm2
  by_cases c1 : 0 ≤ f ∧ f < X.1.1 8 0
  · rw [b2_t c1] at hm1
    have fin1 : (m = -1 ∨ (0 ≤ m ∧ m < X.1.1 0 0)) → Wp zt 57 (P 57 31) [some (AR L), some (AI f), some (AI m), some (AR (ad (ad L 1) 1)), none] [] (g, ρ) Q := by
      intro c2
      rw [if_pos ⟨c1, c2⟩] at hQ
      rw [P_L_draw_31]
      simp only [m_L_draw, b_L_draw_0, P_L_draw_29, b_L_draw_29, P_L_draw_58, b_L_draw_58, P_L_draw_59, b_L_draw_59, wp_aln0, wp_aln3, wp_asn3, wp_bipush, wp_cv1, wp_cv2, wp_cv3, wp_cv4, wp_cv5, wp_cv6, wp_cv7, wp_goto, wp_iald, wp_iast, wp_iceq, wp_icne, wp_iconst, wp_il4, wp_iln1, wp_iln2, wp_iret, wp_is4, wp_izeq, wp_izne, wp_nop, wp_zret, qsc_kd, qsc_k1, qsc_l1, qsc_gf1, qsc_k2, qsc_l2, qsc_gf2, qsc_k3, qsc_l3, qsc_gf3, qsc_k4, qsc_l4, qsc_gf4, qsc_k5, qsc_l5, qsc_gf6, qsc_k6, qsc_l6, qsc_gf7, qsc_k7, qsc_l7, qsc_gf9, qsc_k8, qsc_l8, qsc_gf10, qsc_gf0, qsc_pf0, qsc_gf5, qsc_pf5, qsc_gf8, qsc_pf8, qst_kd, qst_gf0, qst_k10, qst_l10, qst_gf1, qst_k29, qst_l29, qst_gf2, qlf_kd, qlf_gf0, qlf_k31, qlf_l31, qlf_gf1, qlf_gf3, qlf_gf4, qlf_gf5, qlf_gf6, qlf_k203, qlf_l203, qlf_gf7, qlf_gf2, qlf_pf2, qlf_gf8, qlf_pf8, wrI_row, cpI_row, row_s, row_n, row_ss, row_sw, upd_s, upd_n, ad_inj, ad_z, ad_z2, Nat.reduceEqDiff, reduceCtorEq, List.cons_append, List.nil_append, Option.toList_some, Option.toList_none, Int.toNat_natCast, List.length_cons, List.length_nil, Int.cast_ofNat_Int, Nat.reduceAdd, Nat.reduceLeDiff, Nat.reduceLT, Nat.reduceMul, Int.reduceAdd, Int.reduceSub, Int.reduceMul, Int.reduceNeg, Int.reduceLT, Int.reduceLE, Int.reduceEq, Int.reduceToNat, eq_self, true_and, and_true, true_or, or_true, false_or, or_false, if_true, if_false, not_true_eq_false, not_false_eq_true, and_self, ne_eq, b_L_draw_31, hLf, hN1, hS]
      refine recordState_ok hX hW (fun g' ρ' h' j1 j2 j3 j4 => ?_)
      have hS' := j1.1.2.1.2.1
      have hR' := j1.2.1.1
      have r9 : g' (ad (ad (ad L 1) 1) 8) f.toNat = nn (-99) (X.1.1 10 f.toNat) := hR'.l10 (show (f.toNat : Int) < X.1.1 8 0 by omega)
      have q := hQ (setRow g' (ad (ad (ad L 1) 1) 8) (upd1 (g' (ad (ad (ad L 1) 1) 8)) f.toNat (nn (-99) m))) ρ' h' (j1.now hW (lr_setp hR' (Or.inr rfl) (fun k' j' z1 z2 => by rw [vw_p (kk := 10) (by omega) z1, if_neg z2]) (by rw [vw_p (kk := 10) (by omega) (by omega), if_pos ⟨rfl, rfl⟩])) (fun x z => row_n (by unfold ad at *; omega))) (Fr.of j2 j3 j4 (fun x z => row_n (by unfold ad at *; omega)))
      by_cases c3 : m = -1
      · rw [show nn (-99) m = -99 from if_pos c3] at q
        simp only [m_L_draw, b_L_draw_0, P_L_draw_29, b_L_draw_29, P_L_draw_58, b_L_draw_58, P_L_draw_59, b_L_draw_59, wp_aln0, wp_aln3, wp_asn3, wp_bipush, wp_cv1, wp_cv2, wp_cv3, wp_cv4, wp_cv5, wp_cv6, wp_cv7, wp_goto, wp_iald, wp_iast, wp_iceq, wp_icne, wp_iconst, wp_il4, wp_iln1, wp_iln2, wp_iret, wp_is4, wp_izeq, wp_izne, wp_nop, wp_zret, qsc_kd, qsc_k1, qsc_l1, qsc_gf1, qsc_k2, qsc_l2, qsc_gf2, qsc_k3, qsc_l3, qsc_gf3, qsc_k4, qsc_l4, qsc_gf4, qsc_k5, qsc_l5, qsc_gf6, qsc_k6, qsc_l6, qsc_gf7, qsc_k7, qsc_l7, qsc_gf9, qsc_k8, qsc_l8, qsc_gf10, qsc_gf0, qsc_pf0, qsc_gf5, qsc_pf5, qsc_gf8, qsc_pf8, qst_kd, qst_gf0, qst_k10, qst_l10, qst_gf1, qst_k29, qst_l29, qst_gf2, qlf_kd, qlf_gf0, qlf_k31, qlf_l31, qlf_gf1, qlf_gf3, qlf_gf4, qlf_gf5, qlf_gf6, qlf_k203, qlf_l203, qlf_gf7, qlf_gf2, qlf_pf2, qlf_gf8, qlf_pf8, wrI_row, cpI_row, row_s, row_n, row_ss, row_sw, upd_s, upd_n, ad_inj, ad_z, ad_z2, Nat.reduceEqDiff, reduceCtorEq, List.cons_append, List.nil_append, Option.toList_some, Option.toList_none, Int.toNat_natCast, List.length_cons, List.length_nil, Int.cast_ofNat_Int, Nat.reduceAdd, Nat.reduceLeDiff, Nat.reduceLT, Nat.reduceMul, Int.reduceAdd, Int.reduceSub, Int.reduceMul, Int.reduceNeg, Int.reduceLT, Int.reduceLE, Int.reduceEq, Int.reduceToNat, eq_self, true_and, and_true, true_or, or_true, false_or, or_false, if_true, if_false, not_true_eq_false, not_false_eq_true, and_self, ne_eq, hS', r9, c3]
        (repeat' (first | apply And.intro | split)) <;> first | omega | exact q
      · rw [show nn (-99) m = m from if_neg c3] at q
        simp only [m_L_draw, b_L_draw_0, P_L_draw_29, b_L_draw_29, P_L_draw_58, b_L_draw_58, P_L_draw_59, b_L_draw_59, wp_aln0, wp_aln3, wp_asn3, wp_bipush, wp_cv1, wp_cv2, wp_cv3, wp_cv4, wp_cv5, wp_cv6, wp_cv7, wp_goto, wp_iald, wp_iast, wp_iceq, wp_icne, wp_iconst, wp_il4, wp_iln1, wp_iln2, wp_iret, wp_is4, wp_izeq, wp_izne, wp_nop, wp_zret, qsc_kd, qsc_k1, qsc_l1, qsc_gf1, qsc_k2, qsc_l2, qsc_gf2, qsc_k3, qsc_l3, qsc_gf3, qsc_k4, qsc_l4, qsc_gf4, qsc_k5, qsc_l5, qsc_gf6, qsc_k6, qsc_l6, qsc_gf7, qsc_k7, qsc_l7, qsc_gf9, qsc_k8, qsc_l8, qsc_gf10, qsc_gf0, qsc_pf0, qsc_gf5, qsc_pf5, qsc_gf8, qsc_pf8, qst_kd, qst_gf0, qst_k10, qst_l10, qst_gf1, qst_k29, qst_l29, qst_gf2, qlf_kd, qlf_gf0, qlf_k31, qlf_l31, qlf_gf1, qlf_gf3, qlf_gf4, qlf_gf5, qlf_gf6, qlf_k203, qlf_l203, qlf_gf7, qlf_gf2, qlf_pf2, qlf_gf8, qlf_pf8, wrI_row, cpI_row, row_s, row_n, row_ss, row_sw, upd_s, upd_n, ad_inj, ad_z, ad_z2, Nat.reduceEqDiff, reduceCtorEq, List.cons_append, List.nil_append, Option.toList_some, Option.toList_none, Int.toNat_natCast, List.length_cons, List.length_nil, Int.cast_ofNat_Int, Nat.reduceAdd, Nat.reduceLeDiff, Nat.reduceLT, Nat.reduceMul, Int.reduceAdd, Int.reduceSub, Int.reduceMul, Int.reduceNeg, Int.reduceLT, Int.reduceLE, Int.reduceEq, Int.reduceToNat, eq_self, true_and, and_true, true_or, or_true, false_or, or_false, if_true, if_false, not_true_eq_false, not_false_eq_true, and_self, ne_eq, hS', r9, c3]
        (repeat' (first | apply And.intro | split)) <;> first | omega | exact q
    by_cases c3 : m = -1
    · have k1 := fin1 (Or.inl c3)
      subst c3
      simp only [m_L_draw, b_L_draw_0, P_L_draw_29, b_L_draw_29, P_L_draw_58, b_L_draw_58, P_L_draw_59, b_L_draw_59, wp_aln0, wp_aln3, wp_asn3, wp_bipush, wp_cv1, wp_cv2, wp_cv3, wp_cv4, wp_cv5, wp_cv6, wp_cv7, wp_goto, wp_iald, wp_iast, wp_iceq, wp_icne, wp_iconst, wp_il4, wp_iln1, wp_iln2, wp_iret, wp_is4, wp_izeq, wp_izne, wp_nop, wp_zret, qsc_kd, qsc_k1, qsc_l1, qsc_gf1, qsc_k2, qsc_l2, qsc_gf2, qsc_k3, qsc_l3, qsc_gf3, qsc_k4, qsc_l4, qsc_gf4, qsc_k5, qsc_l5, qsc_gf6, qsc_k6, qsc_l6, qsc_gf7, qsc_k7, qsc_l7, qsc_gf9, qsc_k8, qsc_l8, qsc_gf10, qsc_gf0, qsc_pf0, qsc_gf5, qsc_pf5, qsc_gf8, qsc_pf8, qst_kd, qst_gf0, qst_k10, qst_l10, qst_gf1, qst_k29, qst_l29, qst_gf2, qlf_kd, qlf_gf0, qlf_k31, qlf_l31, qlf_gf1, qlf_gf3, qlf_gf4, qlf_gf5, qlf_gf6, qlf_k203, qlf_l203, qlf_gf7, qlf_gf2, qlf_pf2, qlf_gf8, qlf_pf8, wrI_row, cpI_row, row_s, row_n, row_ss, row_sw, upd_s, upd_n, ad_inj, ad_z, ad_z2, Nat.reduceEqDiff, reduceCtorEq, List.cons_append, List.nil_append, Option.toList_some, Option.toList_none, Int.toNat_natCast, List.length_cons, List.length_nil, Int.cast_ofNat_Int, Nat.reduceAdd, Nat.reduceLeDiff, Nat.reduceLT, Nat.reduceMul, Int.reduceAdd, Int.reduceSub, Int.reduceMul, Int.reduceNeg, Int.reduceLT, Int.reduceLE, Int.reduceEq, Int.reduceToNat, eq_self, true_and, and_true, true_or, or_true, false_or, or_false, if_true, if_false, not_true_eq_false, not_false_eq_true, and_self, ne_eq, hLf, hN1, hS, hm1]
      (repeat' (first | apply And.intro | split)) <;> first | omega | exact k1
    · by_cases c4 : 0 ≤ m ∧ m < X.1.1 0 0
      · have k1 := fin1 (Or.inr c4)
        rw [b2_t c4] at hm2
        simp only [m_L_draw, b_L_draw_0, P_L_draw_29, b_L_draw_29, P_L_draw_58, b_L_draw_58, P_L_draw_59, b_L_draw_59, wp_aln0, wp_aln3, wp_asn3, wp_bipush, wp_cv1, wp_cv2, wp_cv3, wp_cv4, wp_cv5, wp_cv6, wp_cv7, wp_goto, wp_iald, wp_iast, wp_iceq, wp_icne, wp_iconst, wp_il4, wp_iln1, wp_iln2, wp_iret, wp_is4, wp_izeq, wp_izne, wp_nop, wp_zret, qsc_kd, qsc_k1, qsc_l1, qsc_gf1, qsc_k2, qsc_l2, qsc_gf2, qsc_k3, qsc_l3, qsc_gf3, qsc_k4, qsc_l4, qsc_gf4, qsc_k5, qsc_l5, qsc_gf6, qsc_k6, qsc_l6, qsc_gf7, qsc_k7, qsc_l7, qsc_gf9, qsc_k8, qsc_l8, qsc_gf10, qsc_gf0, qsc_pf0, qsc_gf5, qsc_pf5, qsc_gf8, qsc_pf8, qst_kd, qst_gf0, qst_k10, qst_l10, qst_gf1, qst_k29, qst_l29, qst_gf2, qlf_kd, qlf_gf0, qlf_k31, qlf_l31, qlf_gf1, qlf_gf3, qlf_gf4, qlf_gf5, qlf_gf6, qlf_k203, qlf_l203, qlf_gf7, qlf_gf2, qlf_pf2, qlf_gf8, qlf_pf8, wrI_row, cpI_row, row_s, row_n, row_ss, row_sw, upd_s, upd_n, ad_inj, ad_z, ad_z2, Nat.reduceEqDiff, reduceCtorEq, List.cons_append, List.nil_append, Option.toList_some, Option.toList_none, Int.toNat_natCast, List.length_cons, List.length_nil, Int.cast_ofNat_Int, Nat.reduceAdd, Nat.reduceLeDiff, Nat.reduceLT, Nat.reduceMul, Int.reduceAdd, Int.reduceSub, Int.reduceMul, Int.reduceNeg, Int.reduceLT, Int.reduceLE, Int.reduceEq, Int.reduceToNat, eq_self, true_and, and_true, true_or, or_true, false_or, or_false, if_true, if_false, not_true_eq_false, not_false_eq_true, and_self, ne_eq, hLf, hN1, hS, hm1, hm2, c3]
        (repeat' (first | apply And.intro | split)) <;> first | omega | exact k1
      · rw [b2_f c4] at hm2
        rw [if_neg (fun z => z.2.elim c3 c4)] at hQ
        have q := hQ.ro hX
        simp only [m_L_draw, b_L_draw_0, P_L_draw_29, b_L_draw_29, P_L_draw_58, b_L_draw_58, P_L_draw_59, b_L_draw_59, wp_aln0, wp_aln3, wp_asn3, wp_bipush, wp_cv1, wp_cv2, wp_cv3, wp_cv4, wp_cv5, wp_cv6, wp_cv7, wp_goto, wp_iald, wp_iast, wp_iceq, wp_icne, wp_iconst, wp_il4, wp_iln1, wp_iln2, wp_iret, wp_is4, wp_izeq, wp_izne, wp_nop, wp_zret, qsc_kd, qsc_k1, qsc_l1, qsc_gf1, qsc_k2, qsc_l2, qsc_gf2, qsc_k3, qsc_l3, qsc_gf3, qsc_k4, qsc_l4, qsc_gf4, qsc_k5, qsc_l5, qsc_gf6, qsc_k6, qsc_l6, qsc_gf7, qsc_k7, qsc_l7, qsc_gf9, qsc_k8, qsc_l8, qsc_gf10, qsc_gf0, qsc_pf0, qsc_gf5, qsc_pf5, qsc_gf8, qsc_pf8, qst_kd, qst_gf0, qst_k10, qst_l10, qst_gf1, qst_k29, qst_l29, qst_gf2, qlf_kd, qlf_gf0, qlf_k31, qlf_l31, qlf_gf1, qlf_gf3, qlf_gf4, qlf_gf5, qlf_gf6, qlf_k203, qlf_l203, qlf_gf7, qlf_gf2, qlf_pf2, qlf_gf8, qlf_pf8, wrI_row, cpI_row, row_s, row_n, row_ss, row_sw, upd_s, upd_n, ad_inj, ad_z, ad_z2, Nat.reduceEqDiff, reduceCtorEq, List.cons_append, List.nil_append, Option.toList_some, Option.toList_none, Int.toNat_natCast, List.length_cons, List.length_nil, Int.cast_ofNat_Int, Nat.reduceAdd, Nat.reduceLeDiff, Nat.reduceLT, Nat.reduceMul, Int.reduceAdd, Int.reduceSub, Int.reduceMul, Int.reduceNeg, Int.reduceLT, Int.reduceLE, Int.reduceEq, Int.reduceToNat, eq_self, true_and, and_true, true_or, or_true, false_or, or_false, if_true, if_false, not_true_eq_false, not_false_eq_true, and_self, ne_eq, hLf, hN1, hS, hm1, hm2, c3]
        (repeat' (first | apply And.intro | split)) <;> first | omega | exact q
  · rw [b2_f c1] at hm1
    rw [if_neg (fun z => c1 z.1)] at hQ
    have q := hQ.ro hX
    simp only [m_L_draw, b_L_draw_0, P_L_draw_29, b_L_draw_29, P_L_draw_58, b_L_draw_58, P_L_draw_59, b_L_draw_59, wp_aln0, wp_aln3, wp_asn3, wp_bipush, wp_cv1, wp_cv2, wp_cv3, wp_cv4, wp_cv5, wp_cv6, wp_cv7, wp_goto, wp_iald, wp_iast, wp_iceq, wp_icne, wp_iconst, wp_il4, wp_iln1, wp_iln2, wp_iret, wp_is4, wp_izeq, wp_izne, wp_nop, wp_zret, qsc_kd, qsc_k1, qsc_l1, qsc_gf1, qsc_k2, qsc_l2, qsc_gf2, qsc_k3, qsc_l3, qsc_gf3, qsc_k4, qsc_l4, qsc_gf4, qsc_k5, qsc_l5, qsc_gf6, qsc_k6, qsc_l6, qsc_gf7, qsc_k7, qsc_l7, qsc_gf9, qsc_k8, qsc_l8, qsc_gf10, qsc_gf0, qsc_pf0, qsc_gf5, qsc_pf5, qsc_gf8, qsc_pf8, qst_kd, qst_gf0, qst_k10, qst_l10, qst_gf1, qst_k29, qst_l29, qst_gf2, qlf_kd, qlf_gf0, qlf_k31, qlf_l31, qlf_gf1, qlf_gf3, qlf_gf4, qlf_gf5, qlf_gf6, qlf_k203, qlf_l203, qlf_gf7, qlf_gf2, qlf_pf2, qlf_gf8, qlf_pf8, wrI_row, cpI_row, row_s, row_n, row_ss, row_sw, upd_s, upd_n, ad_inj, ad_z, ad_z2, Nat.reduceEqDiff, reduceCtorEq, List.cons_append, List.nil_append, Option.toList_some, Option.toList_none, Int.toNat_natCast, List.length_cons, List.length_nil, Int.cast_ofNat_Int, Nat.reduceAdd, Nat.reduceLeDiff, Nat.reduceLT, Nat.reduceMul, Int.reduceAdd, Int.reduceSub, Int.reduceMul, Int.reduceNeg, Int.reduceLT, Int.reduceLE, Int.reduceEq, Int.reduceToNat, eq_self, true_and, and_true, true_or, or_true, false_or, or_false, if_true, if_false, not_true_eq_false, not_false_eq_true, and_self, ne_eq, hLf, hN1, hS, hm1]
    (repeat' (first | apply And.intro | split)) <;> first | omega | exact q
def sInsert (s kd m : Int) (X : XV) : Int × XV := if (0 ≤ s ∧ s ≤ X.1.1 5 0) ∧ (0 ≤ kd ∧ kd ≤ 9) ∧ 1 ≤ m ∧ m ≤ 20 then (if X.1.1 5 0 < 30 ∧ X.1.1 8 0 + m ≤ 99 then (X.1.1 8 0 + m, actX X (insV X.1.1 s.toNat kd m.toNat)) else (-3, X)) else (-1, X)
theorem sInsert_wf {s kd m : Int} (hW : WFX X) : WFX (sInsert s kd m X).2 := by
  unfold sInsert
  split
  next c =>
    split
    next c2 => exact actX_wf hW (insV_wf hW.1.1 (by omega) (by omega) (by omega) (by omega) (by omega))
    next c2 => exact hW
  next c => exact hW
theorem c_insert (hX : RepC g ρ L h X) (hW : WFX X) {s kd m : Int} (hs : i32 s) (hk : i32 kd) (hm : i32 m) (hQ : CQ g ρ L (sInsert s kd m X) Q) : WpM zt 53 [AR L, AI s, AI kd, AI m] (g, ρ) Q := by
  obtain ⟨hLf, hN, -⟩ := id hX.1
  obtain ⟨hR, -⟩ := id hX.2.1
  have hU := hW.1.1
  have hWV := hR.wf (by omega) hU
  have hN1 := hN.1
  have hS := hN.2.1
  have e0 : g (ad (ad L 1) 1) 0 = X.1.1 0 0 := hR.l0
  have e5 : g (ad (ad L 1) 1) 5 = X.1.1 5 0 := hR.l5
  have e8 : g (ad (ad L 1) 1) 8 = X.1.1 8 0 := hR.l8
  have b0 := hU.1
  have b5 := hU.2.2.2.2.1
  have b8 := hU.2.2.2.2.2.2.1
  unfold sInsert at hQ
  by_cases c1 : 0 ≤ s ∧ s ≤ X.1.1 5 0
  · have ho1 := fun Q => lk_in (zt := zt) (g := g) (ρ := ρ) (lo := 0) (hi := X.1.1 5 0) (by omega) (by omega) c1 Q
    by_cases c2 : 0 ≤ kd ∧ kd ≤ 9
    · have ho2 := fun Q => lk_in (zt := zt) (g := g) (ρ := ρ) (lo := 0) (hi := 9) (by omega) (by omega) c2 Q
      by_cases c3 : 1 ≤ m ∧ m ≤ 20
      · have ho3 := fun Q => lk_in (zt := zt) (g := g) (ρ := ρ) (lo := 1) (hi := 20) (by omega) (by omega) c3 Q
        rw [if_pos ⟨c1, c2, c3⟩] at hQ
        have hro := hasRoomFor_ok (zt := zt) (ρ := ρ) hS hWV (m := m) (by omega) (by omega)
        rw [e5, e8] at hro
        by_cases c4 : X.1.1 5 0 < 30 ∧ X.1.1 8 0 + m ≤ 99
        · rw [b2_t c4] at hro
          rw [if_pos c4] at hQ
          simp only [m_L_insert, b_L_insert_0, P_L_insert_42, b_L_insert_42, P_L_insert_44, b_L_insert_44, P_L_insert_56, b_L_insert_56, wp_abs, wp_al4, wp_aln0, wp_as4, wp_bipush, wp_copy, wp_cs1, wp_cs2, wp_cs3, wp_cs4, wp_cs5, wp_cs6, wp_cs7, wp_cv1, wp_cv2, wp_cv3, wp_cv4, wp_cv5, wp_cv6, wp_cv7, wp_iconst, wp_iln1, wp_iln2, wp_iln3, wp_iret, wp_izeq, wp_izne, wp_max, wp_min, wp_nop, wp_zret, qsc_kd, qsc_k1, qsc_l1, qsc_gf1, qsc_k2, qsc_l2, qsc_gf2, qsc_k3, qsc_l3, qsc_gf3, qsc_k4, qsc_l4, qsc_gf4, qsc_k5, qsc_l5, qsc_gf6, qsc_k6, qsc_l6, qsc_gf7, qsc_k7, qsc_l7, qsc_gf9, qsc_k8, qsc_l8, qsc_gf10, qsc_gf0, qsc_pf0, qsc_gf5, qsc_pf5, qsc_gf8, qsc_pf8, qst_kd, qst_gf0, qst_k10, qst_l10, qst_gf1, qst_k29, qst_l29, qst_gf2, qlf_kd, qlf_gf0, qlf_k31, qlf_l31, qlf_gf1, qlf_gf3, qlf_gf4, qlf_gf5, qlf_gf6, qlf_k203, qlf_l203, qlf_gf7, qlf_gf2, qlf_pf2, qlf_gf8, qlf_pf8, wrI_row, cpI_row, row_s, row_n, row_ss, row_sw, upd_s, upd_n, ad_inj, ad_z, ad_z2, Nat.reduceEqDiff, reduceCtorEq, List.cons_append, List.nil_append, Option.toList_some, Option.toList_none, Int.toNat_natCast, List.length_cons, List.length_nil, Int.cast_ofNat_Int, Nat.reduceAdd, Nat.reduceLeDiff, Nat.reduceLT, Nat.reduceMul, Int.reduceAdd, Int.reduceSub, Int.reduceMul, Int.reduceNeg, Int.reduceLT, Int.reduceLE, Int.reduceEq, Int.reduceToNat, eq_self, true_and, and_true, true_or, or_true, false_or, or_false, if_true, if_false, not_true_eq_false, not_false_eq_true, and_self, ne_eq, hLf, hN1, hS, e5, ho1, ho2, ho3, hro]
          refine recordState_ok hX hW (fun g' ρ' h' j1 j2 j3 j4 => ?_)
          have hS' := j1.1.2.1.2.1
          have hR' : LR (-99) (vwC g' (ad (ad L 1) 1)) X.1.1 := j1.2.1.1
          have hWV' := hR'.wf (by omega) hU
          have f5 : g' (ad (ad L 1) 1) 5 = X.1.1 5 0 := hR'.l5
          have f8 : g' (ad (ad L 1) 1) 8 = X.1.1 8 0 := hR'.l8
          have hop := openSegment_ok (zt := zt) (ρ := ρ') (g := g') hS' hWV' (s := s.toNat) (m := m.toNat) (kd := kd) (by omega) (by omega) (by omega)
          rw [show ((s.toNat : Nat) : Int) = s by omega, show ((m.toNat : Nat) : Int) = m by omega] at hop
          have hlr := openS_lr (m := m.toNat) (kd := kd) hR' hU (s := s.toNat) (by omega)
          have r8 : openS g' (ad (ad L 1) 1) s.toNat kd m.toNat (ad (ad L 1) 1) 8 = X.1.1 8 0 + m := by
            have := hlr.l8
            rw [show X.1.1 8 0 + m = X.1.1 8 0 + (m.toNat : Nat) by omega]
            exact this
          have q := hQ (openS g' (ad (ad L 1) 1) s.toNat kd m.toNat) ρ' h' (j1.now hW hlr (fun x z => openS_out (by unfold ad at *; omega))) (Fr.of j2 j3 j4 (fun x z => openS_out (by unfold ad at *; omega)))
          simp only [m_L_insert, b_L_insert_0, P_L_insert_42, b_L_insert_42, P_L_insert_44, b_L_insert_44, P_L_insert_56, b_L_insert_56, wp_abs, wp_al4, wp_aln0, wp_as4, wp_bipush, wp_copy, wp_cs1, wp_cs2, wp_cs3, wp_cs4, wp_cs5, wp_cs6, wp_cs7, wp_cv1, wp_cv2, wp_cv3, wp_cv4, wp_cv5, wp_cv6, wp_cv7, wp_iconst, wp_iln1, wp_iln2, wp_iln3, wp_iret, wp_izeq, wp_izne, wp_max, wp_min, wp_nop, wp_zret, qsc_kd, qsc_k1, qsc_l1, qsc_gf1, qsc_k2, qsc_l2, qsc_gf2, qsc_k3, qsc_l3, qsc_gf3, qsc_k4, qsc_l4, qsc_gf4, qsc_k5, qsc_l5, qsc_gf6, qsc_k6, qsc_l6, qsc_gf7, qsc_k7, qsc_l7, qsc_gf9, qsc_k8, qsc_l8, qsc_gf10, qsc_gf0, qsc_pf0, qsc_gf5, qsc_pf5, qsc_gf8, qsc_pf8, qst_kd, qst_gf0, qst_k10, qst_l10, qst_gf1, qst_k29, qst_l29, qst_gf2, qlf_kd, qlf_gf0, qlf_k31, qlf_l31, qlf_gf1, qlf_gf3, qlf_gf4, qlf_gf5, qlf_gf6, qlf_k203, qlf_l203, qlf_gf7, qlf_gf2, qlf_pf2, qlf_gf8, qlf_pf8, wrI_row, cpI_row, row_s, row_n, row_ss, row_sw, upd_s, upd_n, ad_inj, ad_z, ad_z2, Nat.reduceEqDiff, reduceCtorEq, List.cons_append, List.nil_append, Option.toList_some, Option.toList_none, Int.toNat_natCast, List.length_cons, List.length_nil, Int.cast_ofNat_Int, Nat.reduceAdd, Nat.reduceLeDiff, Nat.reduceLT, Nat.reduceMul, Int.reduceAdd, Int.reduceSub, Int.reduceMul, Int.reduceNeg, Int.reduceLT, Int.reduceLE, Int.reduceEq, Int.reduceToNat, eq_self, true_and, and_true, true_or, or_true, false_or, or_false, if_true, if_false, not_true_eq_false, not_false_eq_true, and_self, ne_eq, hS', hop, r8]
          (repeat' (first | apply And.intro | split)) <;> first | omega | exact q
        · rw [b2_f c4] at hro
          rw [if_neg c4] at hQ
          have q := hQ.ro hX
          simp only [m_L_insert, b_L_insert_0, P_L_insert_42, b_L_insert_42, P_L_insert_44, b_L_insert_44, P_L_insert_56, b_L_insert_56, wp_abs, wp_al4, wp_aln0, wp_as4, wp_bipush, wp_copy, wp_cs1, wp_cs2, wp_cs3, wp_cs4, wp_cs5, wp_cs6, wp_cs7, wp_cv1, wp_cv2, wp_cv3, wp_cv4, wp_cv5, wp_cv6, wp_cv7, wp_iconst, wp_iln1, wp_iln2, wp_iln3, wp_iret, wp_izeq, wp_izne, wp_max, wp_min, wp_nop, wp_zret, qsc_kd, qsc_k1, qsc_l1, qsc_gf1, qsc_k2, qsc_l2, qsc_gf2, qsc_k3, qsc_l3, qsc_gf3, qsc_k4, qsc_l4, qsc_gf4, qsc_k5, qsc_l5, qsc_gf6, qsc_k6, qsc_l6, qsc_gf7, qsc_k7, qsc_l7, qsc_gf9, qsc_k8, qsc_l8, qsc_gf10, qsc_gf0, qsc_pf0, qsc_gf5, qsc_pf5, qsc_gf8, qsc_pf8, qst_kd, qst_gf0, qst_k10, qst_l10, qst_gf1, qst_k29, qst_l29, qst_gf2, qlf_kd, qlf_gf0, qlf_k31, qlf_l31, qlf_gf1, qlf_gf3, qlf_gf4, qlf_gf5, qlf_gf6, qlf_k203, qlf_l203, qlf_gf7, qlf_gf2, qlf_pf2, qlf_gf8, qlf_pf8, wrI_row, cpI_row, row_s, row_n, row_ss, row_sw, upd_s, upd_n, ad_inj, ad_z, ad_z2, Nat.reduceEqDiff, reduceCtorEq, List.cons_append, List.nil_append, Option.toList_some, Option.toList_none, Int.toNat_natCast, List.length_cons, List.length_nil, Int.cast_ofNat_Int, Nat.reduceAdd, Nat.reduceLeDiff, Nat.reduceLT, Nat.reduceMul, Int.reduceAdd, Int.reduceSub, Int.reduceMul, Int.reduceNeg, Int.reduceLT, Int.reduceLE, Int.reduceEq, Int.reduceToNat, eq_self, true_and, and_true, true_or, or_true, false_or, or_false, if_true, if_false, not_true_eq_false, not_false_eq_true, and_self, ne_eq, hLf, hN1, hS, e5, ho1, ho2, ho3, hro]
          (repeat' (first | apply And.intro | split)) <;> first | omega | exact q
      · have ho3 := fun Q => lk_out (zt := zt) (g := g) (ρ := ρ) (lo := 1) (hi := 20) hm (by omega) (by omega) c3 Q
        rw [if_neg (fun z => c3 z.2.2)] at hQ
        have q := hQ.ro hX
        simp only [m_L_insert, b_L_insert_0, P_L_insert_42, b_L_insert_42, P_L_insert_44, b_L_insert_44, P_L_insert_56, b_L_insert_56, wp_abs, wp_al4, wp_aln0, wp_as4, wp_bipush, wp_copy, wp_cs1, wp_cs2, wp_cs3, wp_cs4, wp_cs5, wp_cs6, wp_cs7, wp_cv1, wp_cv2, wp_cv3, wp_cv4, wp_cv5, wp_cv6, wp_cv7, wp_iconst, wp_iln1, wp_iln2, wp_iln3, wp_iret, wp_izeq, wp_izne, wp_max, wp_min, wp_nop, wp_zret, qsc_kd, qsc_k1, qsc_l1, qsc_gf1, qsc_k2, qsc_l2, qsc_gf2, qsc_k3, qsc_l3, qsc_gf3, qsc_k4, qsc_l4, qsc_gf4, qsc_k5, qsc_l5, qsc_gf6, qsc_k6, qsc_l6, qsc_gf7, qsc_k7, qsc_l7, qsc_gf9, qsc_k8, qsc_l8, qsc_gf10, qsc_gf0, qsc_pf0, qsc_gf5, qsc_pf5, qsc_gf8, qsc_pf8, qst_kd, qst_gf0, qst_k10, qst_l10, qst_gf1, qst_k29, qst_l29, qst_gf2, qlf_kd, qlf_gf0, qlf_k31, qlf_l31, qlf_gf1, qlf_gf3, qlf_gf4, qlf_gf5, qlf_gf6, qlf_k203, qlf_l203, qlf_gf7, qlf_gf2, qlf_pf2, qlf_gf8, qlf_pf8, wrI_row, cpI_row, row_s, row_n, row_ss, row_sw, upd_s, upd_n, ad_inj, ad_z, ad_z2, Nat.reduceEqDiff, reduceCtorEq, List.cons_append, List.nil_append, Option.toList_some, Option.toList_none, Int.toNat_natCast, List.length_cons, List.length_nil, Int.cast_ofNat_Int, Nat.reduceAdd, Nat.reduceLeDiff, Nat.reduceLT, Nat.reduceMul, Int.reduceAdd, Int.reduceSub, Int.reduceMul, Int.reduceNeg, Int.reduceLT, Int.reduceLE, Int.reduceEq, Int.reduceToNat, eq_self, true_and, and_true, true_or, or_true, false_or, or_false, if_true, if_false, not_true_eq_false, not_false_eq_true, and_self, ne_eq, hLf, hN1, hS, e5, ho1, ho2, ho3]
        (repeat' (first | apply And.intro | split)) <;> first | omega | exact q
    · have ho2 := fun Q => lk_out (zt := zt) (g := g) (ρ := ρ) (lo := 0) (hi := 9) hk (by omega) (by omega) c2 Q
      rw [if_neg (fun z => c2 z.2.1)] at hQ
      have q := hQ.ro hX
      simp only [m_L_insert, b_L_insert_0, P_L_insert_42, b_L_insert_42, P_L_insert_44, b_L_insert_44, P_L_insert_56, b_L_insert_56, wp_abs, wp_al4, wp_aln0, wp_as4, wp_bipush, wp_copy, wp_cs1, wp_cs2, wp_cs3, wp_cs4, wp_cs5, wp_cs6, wp_cs7, wp_cv1, wp_cv2, wp_cv3, wp_cv4, wp_cv5, wp_cv6, wp_cv7, wp_iconst, wp_iln1, wp_iln2, wp_iln3, wp_iret, wp_izeq, wp_izne, wp_max, wp_min, wp_nop, wp_zret, qsc_kd, qsc_k1, qsc_l1, qsc_gf1, qsc_k2, qsc_l2, qsc_gf2, qsc_k3, qsc_l3, qsc_gf3, qsc_k4, qsc_l4, qsc_gf4, qsc_k5, qsc_l5, qsc_gf6, qsc_k6, qsc_l6, qsc_gf7, qsc_k7, qsc_l7, qsc_gf9, qsc_k8, qsc_l8, qsc_gf10, qsc_gf0, qsc_pf0, qsc_gf5, qsc_pf5, qsc_gf8, qsc_pf8, qst_kd, qst_gf0, qst_k10, qst_l10, qst_gf1, qst_k29, qst_l29, qst_gf2, qlf_kd, qlf_gf0, qlf_k31, qlf_l31, qlf_gf1, qlf_gf3, qlf_gf4, qlf_gf5, qlf_gf6, qlf_k203, qlf_l203, qlf_gf7, qlf_gf2, qlf_pf2, qlf_gf8, qlf_pf8, wrI_row, cpI_row, row_s, row_n, row_ss, row_sw, upd_s, upd_n, ad_inj, ad_z, ad_z2, Nat.reduceEqDiff, reduceCtorEq, List.cons_append, List.nil_append, Option.toList_some, Option.toList_none, Int.toNat_natCast, List.length_cons, List.length_nil, Int.cast_ofNat_Int, Nat.reduceAdd, Nat.reduceLeDiff, Nat.reduceLT, Nat.reduceMul, Int.reduceAdd, Int.reduceSub, Int.reduceMul, Int.reduceNeg, Int.reduceLT, Int.reduceLE, Int.reduceEq, Int.reduceToNat, eq_self, true_and, and_true, true_or, or_true, false_or, or_false, if_true, if_false, not_true_eq_false, not_false_eq_true, and_self, ne_eq, hLf, hN1, hS, e5, ho1, ho2]
      (repeat' (first | apply And.intro | split)) <;> first | omega | exact q
  · have ho1 := fun Q => lk_out (zt := zt) (g := g) (ρ := ρ) (lo := 0) (hi := X.1.1 5 0) hs (by omega) (by omega) c1 Q
    rw [if_neg (fun z => c1 z.1)] at hQ
    have q := hQ.ro hX
    simp only [m_L_insert, b_L_insert_0, P_L_insert_42, b_L_insert_42, P_L_insert_44, b_L_insert_44, P_L_insert_56, b_L_insert_56, wp_abs, wp_al4, wp_aln0, wp_as4, wp_bipush, wp_copy, wp_cs1, wp_cs2, wp_cs3, wp_cs4, wp_cs5, wp_cs6, wp_cs7, wp_cv1, wp_cv2, wp_cv3, wp_cv4, wp_cv5, wp_cv6, wp_cv7, wp_iconst, wp_iln1, wp_iln2, wp_iln3, wp_iret, wp_izeq, wp_izne, wp_max, wp_min, wp_nop, wp_zret, qsc_kd, qsc_k1, qsc_l1, qsc_gf1, qsc_k2, qsc_l2, qsc_gf2, qsc_k3, qsc_l3, qsc_gf3, qsc_k4, qsc_l4, qsc_gf4, qsc_k5, qsc_l5, qsc_gf6, qsc_k6, qsc_l6, qsc_gf7, qsc_k7, qsc_l7, qsc_gf9, qsc_k8, qsc_l8, qsc_gf10, qsc_gf0, qsc_pf0, qsc_gf5, qsc_pf5, qsc_gf8, qsc_pf8, qst_kd, qst_gf0, qst_k10, qst_l10, qst_gf1, qst_k29, qst_l29, qst_gf2, qlf_kd, qlf_gf0, qlf_k31, qlf_l31, qlf_gf1, qlf_gf3, qlf_gf4, qlf_gf5, qlf_gf6, qlf_k203, qlf_l203, qlf_gf7, qlf_gf2, qlf_pf2, qlf_gf8, qlf_pf8, wrI_row, cpI_row, row_s, row_n, row_ss, row_sw, upd_s, upd_n, ad_inj, ad_z, ad_z2, Nat.reduceEqDiff, reduceCtorEq, List.cons_append, List.nil_append, Option.toList_some, Option.toList_none, Int.toNat_natCast, List.length_cons, List.length_nil, Int.cast_ofNat_Int, Nat.reduceAdd, Nat.reduceLeDiff, Nat.reduceLT, Nat.reduceMul, Int.reduceAdd, Int.reduceSub, Int.reduceMul, Int.reduceNeg, Int.reduceLT, Int.reduceLE, Int.reduceEq, Int.reduceToNat, eq_self, true_and, and_true, true_or, or_true, false_or, or_false, if_true, if_false, not_true_eq_false, not_false_eq_true, and_self, ne_eq, hLf, hN1, hS, e5, ho1]
    (repeat' (first | apply And.intro | split)) <;> first | omega | exact q
def sRemove (s : Int) (X : XV) : Int × XV := if 0 ≤ s ∧ s < X.1.1 5 0 then (X.1.1 8 0 - X.1.1 7 s.toNat, actX X (delV X.1.1 s.toNat)) else (-1, X)
theorem sRemove_wf {s : Int} (hW : WFX X) : WFX (sRemove s X).2 := by
  unfold sRemove
  split
  next c => exact actX_wf hW (delV_wf hW.1.1 (by omega))
  next c => exact hW
theorem closeS_out {g : Nat → Nat → Int} {a s x : Nat} (h : x < a ∨ a + 9 ≤ x) : closeS g a s x = g x := by
  unfold closeS closeF
  rw [row_n (by omega), row_n (by unfold ad; omega), row_n (by unfold ad; omega), row_n (by omega), row_n (by unfold ad; omega), row_n (by unfold ad; omega)]
theorem c_remove (hX : RepC g ρ L h X) (hW : WFX X) {s : Int} (hs : i32 s) (hQ : CQ g ρ L (sRemove s X) Q) : WpM zt 54 [AR L, AI s] (g, ρ) Q := by
  obtain ⟨hLf, hN, -⟩ := id hX.1
  obtain ⟨hR, -⟩ := id hX.2.1
  have hU := hW.1.1
  have hWV := hR.wf (by omega) hU
  have hN1 := hN.1
  have hS := hN.2.1
  have e0 : g (ad (ad L 1) 1) 0 = X.1.1 0 0 := hR.l0
  have e5 : g (ad (ad L 1) 1) 5 = X.1.1 5 0 := hR.l5
  have e8 : g (ad (ad L 1) 1) 8 = X.1.1 8 0 := hR.l8
  have b0 := hU.1
  have b5 := hU.2.2.2.2.1
  have b8 := hU.2.2.2.2.2.2.1
  unfold sRemove at hQ
  have hm1 := hasSegment_ok (zt := zt) (ρ := ρ) hS hWV (m := s) hs.1 hs.2
  rw [e5] at hm1
  by_cases c1 : 0 ≤ s ∧ s < X.1.1 5 0
  · rw [b2_t c1] at hm1
    rw [if_pos c1] at hQ
    simp only [m_L_remove, b_L_remove_0, P_L_remove_18, b_L_remove_18, wp_aln0, wp_aln2, wp_asn2, wp_cv1, wp_cv2, wp_cv3, wp_cv4, wp_cv5, wp_cv6, wp_cv7, wp_iconst, wp_iln1, wp_iret, wp_izne, wp_zret, qsc_kd, qsc_k1, qsc_l1, qsc_gf1, qsc_k2, qsc_l2, qsc_gf2, qsc_k3, qsc_l3, qsc_gf3, qsc_k4, qsc_l4, qsc_gf4, qsc_k5, qsc_l5, qsc_gf6, qsc_k6, qsc_l6, qsc_gf7, qsc_k7, qsc_l7, qsc_gf9, qsc_k8, qsc_l8, qsc_gf10, qsc_gf0, qsc_pf0, qsc_gf5, qsc_pf5, qsc_gf8, qsc_pf8, qst_kd, qst_gf0, qst_k10, qst_l10, qst_gf1, qst_k29, qst_l29, qst_gf2, qlf_kd, qlf_gf0, qlf_k31, qlf_l31, qlf_gf1, qlf_gf3, qlf_gf4, qlf_gf5, qlf_gf6, qlf_k203, qlf_l203, qlf_gf7, qlf_gf2, qlf_pf2, qlf_gf8, qlf_pf8, wrI_row, cpI_row, row_s, row_n, row_ss, row_sw, upd_s, upd_n, ad_inj, ad_z, ad_z2, Nat.reduceEqDiff, reduceCtorEq, List.cons_append, List.nil_append, Option.toList_some, Option.toList_none, Int.toNat_natCast, List.length_cons, List.length_nil, Int.cast_ofNat_Int, Nat.reduceAdd, Nat.reduceLeDiff, Nat.reduceLT, Nat.reduceMul, Int.reduceAdd, Int.reduceSub, Int.reduceMul, Int.reduceNeg, Int.reduceLT, Int.reduceLE, Int.reduceEq, Int.reduceToNat, eq_self, true_and, and_true, true_or, or_true, false_or, or_false, if_true, if_false, not_true_eq_false, not_false_eq_true, and_self, ne_eq, hLf, hN1, hS, hm1]
    refine recordState_ok hX hW (fun g' ρ' h' j1 j2 j3 j4 => ?_)
    have hS' := j1.1.2.1.2.1
    have hR' : LR (-99) (vwC g' (ad (ad L 1) 1)) X.1.1 := j1.2.1.1
    have hWV' := hR'.wf (by omega) hU
    have f5 : g' (ad (ad L 1) 1) 5 = X.1.1 5 0 := hR'.l5
    have hop := closeSegment_ok (zt := zt) (ρ := ρ') (g := g') hS' hWV' (s := s.toNat) (by omega)
    rw [show ((s.toNat : Nat) : Int) = s by omega] at hop
    have hlr := closeS_lr hR' hU (s := s.toNat) (by omega)
    have r8 : closeS g' (ad (ad L 1) 1) s.toNat (ad (ad L 1) 1) 8 = X.1.1 8 0 - X.1.1 7 s.toNat := hlr.l8
    have q := hQ (closeS g' (ad (ad L 1) 1) s.toNat) ρ' h' (j1.now hW hlr (fun x z => closeS_out (by unfold ad at *; omega))) (Fr.of j2 j3 j4 (fun x z => closeS_out (by unfold ad at *; omega)))
    simp only [m_L_remove, b_L_remove_0, P_L_remove_18, b_L_remove_18, wp_aln0, wp_aln2, wp_asn2, wp_cv1, wp_cv2, wp_cv3, wp_cv4, wp_cv5, wp_cv6, wp_cv7, wp_iconst, wp_iln1, wp_iret, wp_izne, wp_zret, qsc_kd, qsc_k1, qsc_l1, qsc_gf1, qsc_k2, qsc_l2, qsc_gf2, qsc_k3, qsc_l3, qsc_gf3, qsc_k4, qsc_l4, qsc_gf4, qsc_k5, qsc_l5, qsc_gf6, qsc_k6, qsc_l6, qsc_gf7, qsc_k7, qsc_l7, qsc_gf9, qsc_k8, qsc_l8, qsc_gf10, qsc_gf0, qsc_pf0, qsc_gf5, qsc_pf5, qsc_gf8, qsc_pf8, qst_kd, qst_gf0, qst_k10, qst_l10, qst_gf1, qst_k29, qst_l29, qst_gf2, qlf_kd, qlf_gf0, qlf_k31, qlf_l31, qlf_gf1, qlf_gf3, qlf_gf4, qlf_gf5, qlf_gf6, qlf_k203, qlf_l203, qlf_gf7, qlf_gf2, qlf_pf2, qlf_gf8, qlf_pf8, wrI_row, cpI_row, row_s, row_n, row_ss, row_sw, upd_s, upd_n, ad_inj, ad_z, ad_z2, Nat.reduceEqDiff, reduceCtorEq, List.cons_append, List.nil_append, Option.toList_some, Option.toList_none, Int.toNat_natCast, List.length_cons, List.length_nil, Int.cast_ofNat_Int, Nat.reduceAdd, Nat.reduceLeDiff, Nat.reduceLT, Nat.reduceMul, Int.reduceAdd, Int.reduceSub, Int.reduceMul, Int.reduceNeg, Int.reduceLT, Int.reduceLE, Int.reduceEq, Int.reduceToNat, eq_self, true_and, and_true, true_or, or_true, false_or, or_false, if_true, if_false, not_true_eq_false, not_false_eq_true, and_self, ne_eq, hS', hop, r8]
    (repeat' (first | apply And.intro | split)) <;> first | omega | exact q
  · rw [b2_f c1] at hm1
    rw [if_neg c1] at hQ
    have q := hQ.ro hX
    simp only [m_L_remove, b_L_remove_0, P_L_remove_18, b_L_remove_18, wp_aln0, wp_aln2, wp_asn2, wp_cv1, wp_cv2, wp_cv3, wp_cv4, wp_cv5, wp_cv6, wp_cv7, wp_iconst, wp_iln1, wp_iret, wp_izne, wp_zret, qsc_kd, qsc_k1, qsc_l1, qsc_gf1, qsc_k2, qsc_l2, qsc_gf2, qsc_k3, qsc_l3, qsc_gf3, qsc_k4, qsc_l4, qsc_gf4, qsc_k5, qsc_l5, qsc_gf6, qsc_k6, qsc_l6, qsc_gf7, qsc_k7, qsc_l7, qsc_gf9, qsc_k8, qsc_l8, qsc_gf10, qsc_gf0, qsc_pf0, qsc_gf5, qsc_pf5, qsc_gf8, qsc_pf8, qst_kd, qst_gf0, qst_k10, qst_l10, qst_gf1, qst_k29, qst_l29, qst_gf2, qlf_kd, qlf_gf0, qlf_k31, qlf_l31, qlf_gf1, qlf_gf3, qlf_gf4, qlf_gf5, qlf_gf6, qlf_k203, qlf_l203, qlf_gf7, qlf_gf2, qlf_pf2, qlf_gf8, qlf_pf8, wrI_row, cpI_row, row_s, row_n, row_ss, row_sw, upd_s, upd_n, ad_inj, ad_z, ad_z2, Nat.reduceEqDiff, reduceCtorEq, List.cons_append, List.nil_append, Option.toList_some, Option.toList_none, Int.toNat_natCast, List.length_cons, List.length_nil, Int.cast_ofNat_Int, Nat.reduceAdd, Nat.reduceLeDiff, Nat.reduceLT, Nat.reduceMul, Int.reduceAdd, Int.reduceSub, Int.reduceMul, Int.reduceNeg, Int.reduceLT, Int.reduceLE, Int.reduceEq, Int.reduceToNat, eq_self, true_and, and_true, true_or, or_true, false_or, or_false, if_true, if_false, not_true_eq_false, not_false_eq_true, and_self, ne_eq, hLf, hN1, hS, hm1]
    (repeat' (first | apply And.intro | split)) <;> first | omega | exact q
end ACT
