/-! stretch -/
section STC
variable {zt : Nat → Nat} {g : Nat → Nat → Int} {ρ : Ri} {L : Nat} {h : Nat → Nat} {X : XV} {Q : Option AV → Sto → Prop}
def sStretch (s m : Int) (X : XV) : Int × XV := if (0 ≤ s ∧ s < X.1.1 5 0) ∧ 1 ≤ m ∧ m ≤ 20 then (if X.1.1 8 0 - X.1.1 7 s.toNat + m ≤ 99 then (X.1.1 7 s.toNat, actX X (lenV X.1.1 s.toNat m.toNat)) else (-3, X)) else (-1, X)
theorem sStretch_wf {s m : Int} (hW : WFX X) : WFX (sStretch s m X).2 := by
  unfold sStretch
  split
  next c =>
    split
    next c2 => exact actX_wf hW (lenV_wf hW.1.1 (by omega) (by omega) (by omega))
    next c2 => exact hW
  next c => exact hW
theorem lenF_out {a s m x : Nat} (hx : x < a ∨ a + 9 ≤ x) : lenF g a s m x = g x := by
  unfold lenF
  split
  · unfold closeF
    rw [row_n (by unfold ad; omega), row_n (by omega), row_n (by unfold ad; omega), row_n (by unfold ad; omega)]
  · unfold openF
    rw [row_n (by unfold ad; omega), row_n (by omega), row_n (by unfold ad; omega), row_n (by unfold ad; omega)]
theorem c_stretch (hX : RepC g ρ L h X) (hW : WFX X) {s m : Int} (hs : i32 s) (hm : i32 m) (hQ : CQ g ρ L (sStretch s m X) Q) : WpM zt 55 [AR L, AI s, AI m] (g, ρ) Q := by
  obtain ⟨hLf, hN, -⟩ := id hX.1
  obtain ⟨hR, -⟩ := id hX.2.1
  have hU := hW.1.1
  have hWV := hR.wf (by omega) hU
  have hN1 := hN.1
  have hS := hN.2.1
  have e0 : g (ad (ad L 1) 1) 0 = X.1.1 0 0 := hR.l0
  have e5 : g (ad (ad L 1) 1) 5 = X.1.1 5 0 := hR.l5
  have e8 : g (ad (ad L 1) 1) 8 = X.1.1 8 0 := hR.l8
  have b0 := hU.1
  have b5 := hU.2.2.2.2.1
  have b8 := hU.2.2.2.2.2.2.1
  unfold sStretch at hQ
  have hm1 := hasSegment_ok (zt := zt) (ρ := ρ) hS hWV (m := s) hs.1 hs.2
  rw [e5] at hm1
  by_cases c1 : 0 ≤ s ∧ s < X.1.1 5 0
  · rw [b2_t c1] at hm1
    by_cases c2 : 1 ≤ m ∧ m ≤ 20
    · have ho2 := fun Q => lk_in (zt := zt) (g := g) (ρ := ρ) (lo := 1) (hi := 20) (by omega) (by omega) c2 Q
      rw [if_pos ⟨c1, c2⟩] at hQ
      have r7 : g (ad (ad (ad L 1) 1) 6) s.toNat = X.1.1 7 s.toNat := hR.l7 (by omega)
      have b7 := (hU.2.2.2.2.2.1 s.toNat (by omega)).2
      have hsu := sumL_at2 hU (s := s.toNat) (by omega)
      by_cases c3 : X.1.1 8 0 - X.1.1 7 s.toNat + m ≤ 99
      · rw [if_pos c3] at hQ
        have c3' : ¬ 99 < X.1.1 8 0 - X.1.1 7 s.toNat + m := by omega
        simp only [m_L_stretch, b_L_stretch_0, P_L_stretch_26, b_L_stretch_26, P_L_stretch_28, b_L_stretch_28, P_L_stretch_53, b_L_stretch_53, P_L_stretch_85, b_L_stretch_85, P_L_stretch_98, b_L_stretch_98, wp_abs, wp_aln0, wp_aln3, wp_asn3, wp_bipush, wp_copy, wp_cs1, wp_cs2, wp_cs3, wp_cs4, wp_cs5, wp_cs6, wp_cs7, wp_cv1, wp_cv2, wp_cv3, wp_cv4, wp_cv5, wp_cv6, wp_cv7, wp_goto, wp_iadd, wp_iald, wp_iast, wp_icge, wp_icle, wp_iconst, wp_il4, wp_il5, wp_iln1, wp_iln2, wp_iret, wp_is4, wp_is5, wp_isub, wp_izeq, wp_max, wp_min, wp_nop, wp_zret, qsc_kd, qsc_k1, qsc_l1, qsc_gf1, qsc_k2, qsc_l2, qsc_gf2, qsc_k3, qsc_l3, qsc_gf3, qsc_k4, qsc_l4, qsc_gf4, qsc_k5, qsc_l5, qsc_gf6, qsc_k6, qsc_l6, qsc_gf7, qsc_k7, qsc_l7, qsc_gf9, qsc_k8, qsc_l8, qsc_gf10, qsc_gf0, qsc_pf0, qsc_gf5, qsc_pf5, qsc_gf8, qsc_pf8, qst_kd, qst_gf0, qst_k10, qst_l10, qst_gf1, qst_k29, qst_l29, qst_gf2, qlf_kd, qlf_gf0, qlf_k31, qlf_l31, qlf_gf1, qlf_gf3, qlf_gf4, qlf_gf5, qlf_gf6, qlf_k203, qlf_l203, qlf_gf7, qlf_gf2, qlf_pf2, qlf_gf8, qlf_pf8, wrI_row, cpI_row, row_s, row_n, row_ss, row_sw, upd_s, upd_n, ad_inj, ad_z, ad_z2, Nat.reduceEqDiff, reduceCtorEq, List.cons_append, List.nil_append, Option.toList_some, Option.toList_none, Int.toNat_natCast, List.length_cons, List.length_nil, Int.cast_ofNat_Int, Nat.reduceAdd, Nat.reduceLeDiff, Nat.reduceLT, Nat.reduceMul, Int.reduceAdd, Int.reduceSub, Int.reduceMul, Int.reduceNeg, Int.reduceLT, Int.reduceLE, Int.reduceEq, Int.reduceToNat, eq_self, true_and, and_true, true_or, or_true, false_or, or_false, if_true, if_false, not_true_eq_false, not_false_eq_true, and_self, ne_eq, hLf, hN1, hS, hm1, ho2, r7, e8, c3]
        (repeat' (first | apply And.intro | split)) <;> first | omega | skip
        refine recordState_ok hX hW (fun g' ρ' h' j1 j2 j3 j4 => ?_)
        have hS' := j1.1.2.1.2.1
        have hR' : LR (-99) (vwC g' (ad (ad L 1) 1)) X.1.1 := j1.2.1.1
        have hWV' := hR'.wf (by omega) hU
        have f5 : g' (ad (ad L 1) 1) 5 = X.1.1 5 0 := hR'.l5
        have f8 : g' (ad (ad L 1) 1) 8 = X.1.1 8 0 := hR'.l8
        have f7 : g' (ad (ad (ad L 1) 1) 6) s.toNat = X.1.1 7 s.toNat := hR'.l7 (by omega)
        have hff := firstFrameOf_ok (zt := zt) (ρ := ρ') (g := g') hS' hWV' (s := s) c1.1 (by rw [f5]; omega)
        have esum : sumL (vwC g' (ad (ad L 1) 1)) s.toNat = sumL X.1.1 s.toNat := hR'.sum _ (by omega)
        rw [esum] at hff
        have hlr := lenF_lr hR' hU (s := s.toNat) (m := m.toNat) (by omega)
        have q := hQ (lenF g' (ad (ad L 1) 1) s.toNat m.toNat) ρ' h' (j1.now hW hlr (fun x z => lenF_out (by unfold ad at *; omega))) (Fr.of j2 j3 j4 (fun x z => lenF_out (by unfold ad at *; omega)))
        unfold lenF at q
        rw [f7, esum] at q
        by_cases c4 : m < X.1.1 7 s.toNat
        · rw [if_pos (by omega)] at q
          have hcl := closeFrames_ok (zt := zt) (ρ := ρ') (g := g') hS' (f := (sumL X.1.1 s.toNat).toNat + m.toNat) (m := (X.1.1 7 s.toNat).toNat - m.toNat) (by omega) (by omega)
          rw [show (((sumL X.1.1 s.toNat).toNat + m.toNat : Nat) : Int) = sumL X.1.1 s.toNat + m by omega, show (((X.1.1 7 s.toNat).toNat - m.toNat : Nat) : Int) = X.1.1 7 s.toNat - m by omega] at hcl
          rw [show ((m.toNat : Nat) : Int) = m by omega] at q
          simp only [m_L_stretch, b_L_stretch_0, P_L_stretch_26, b_L_stretch_26, P_L_stretch_28, b_L_stretch_28, P_L_stretch_53, b_L_stretch_53, P_L_stretch_85, b_L_stretch_85, P_L_stretch_98, b_L_stretch_98, wp_abs, wp_aln0, wp_aln3, wp_asn3, wp_bipush, wp_copy, wp_cs1, wp_cs2, wp_cs3, wp_cs4, wp_cs5, wp_cs6, wp_cs7, wp_cv1, wp_cv2, wp_cv3, wp_cv4, wp_cv5, wp_cv6, wp_cv7, wp_goto, wp_iadd, wp_iald, wp_iast, wp_icge, wp_icle, wp_iconst, wp_il4, wp_il5, wp_iln1, wp_iln2, wp_iret, wp_is4, wp_is5, wp_isub, wp_izeq, wp_max, wp_min, wp_nop, wp_zret, qsc_kd, qsc_k1, qsc_l1, qsc_gf1, qsc_k2, qsc_l2, qsc_gf2, qsc_k3, qsc_l3, qsc_gf3, qsc_k4, qsc_l4, qsc_gf4, qsc_k5, qsc_l5, qsc_gf6, qsc_k6, qsc_l6, qsc_gf7, qsc_k7, qsc_l7, qsc_gf9, qsc_k8, qsc_l8, qsc_gf10, qsc_gf0, qsc_pf0, qsc_gf5, qsc_pf5, qsc_gf8, qsc_pf8, qst_kd, qst_gf0, qst_k10, qst_l10, qst_gf1, qst_k29, qst_l29, qst_gf2, qlf_kd, qlf_gf0, qlf_k31, qlf_l31, qlf_gf1, qlf_gf3, qlf_gf4, qlf_gf5, qlf_gf6, qlf_k203, qlf_l203, qlf_gf7, qlf_gf2, qlf_pf2, qlf_gf8, qlf_pf8, wrI_row, cpI_row, row_s, row_n, row_ss, row_sw, upd_s, upd_n, ad_inj, ad_z, ad_z2, Nat.reduceEqDiff, reduceCtorEq, List.cons_append, List.nil_append, Option.toList_some, Option.toList_none, Int.toNat_natCast, List.length_cons, List.length_nil, Int.cast_ofNat_Int, Nat.reduceAdd, Nat.reduceLeDiff, Nat.reduceLT, Nat.reduceMul, Int.reduceAdd, Int.reduceSub, Int.reduceMul, Int.reduceNeg, Int.reduceLT, Int.reduceLE, Int.reduceEq, Int.reduceToNat, eq_self, true_and, and_true, true_or, or_true, false_or, or_false, if_true, if_false, not_true_eq_false, not_false_eq_true, and_self, ne_eq, hS', hff, hcl, c4, closeF_r (j := 6) (by omega) (by omega) (by omega)]
          (repeat' (first | apply And.intro | split)) <;> first | omega | exact q
        · rw [if_neg (by omega)] at q
          have hcl := openFrames_ok (zt := zt) (ρ := ρ') (g := g') hS' (f := (sumL X.1.1 s.toNat).toNat + (X.1.1 7 s.toNat).toNat) (m := m.toNat - (X.1.1 7 s.toNat).toNat) (by omega) (by omega) (by omega)
          rw [show (((sumL X.1.1 s.toNat).toNat + (X.1.1 7 s.toNat).toNat : Nat) : Int) = sumL X.1.1 s.toNat + X.1.1 7 s.toNat by omega, show ((m.toNat - (X.1.1 7 s.toNat).toNat : Nat) : Int) = m - X.1.1 7 s.toNat by omega] at hcl
          rw [show ((m.toNat : Nat) : Int) = m by omega] at q
          have c4' : X.1.1 7 s.toNat ≤ m := by omega
          simp only [m_L_stretch, b_L_stretch_0, P_L_stretch_26, b_L_stretch_26, P_L_stretch_28, b_L_stretch_28, P_L_stretch_53, b_L_stretch_53, P_L_stretch_85, b_L_stretch_85, P_L_stretch_98, b_L_stretch_98, wp_abs, wp_aln0, wp_aln3, wp_asn3, wp_bipush, wp_copy, wp_cs1, wp_cs2, wp_cs3, wp_cs4, wp_cs5, wp_cs6, wp_cs7, wp_cv1, wp_cv2, wp_cv3, wp_cv4, wp_cv5, wp_cv6, wp_cv7, wp_goto, wp_iadd, wp_iald, wp_iast, wp_icge, wp_icle, wp_iconst, wp_il4, wp_il5, wp_iln1, wp_iln2, wp_iret, wp_is4, wp_is5, wp_isub, wp_izeq, wp_max, wp_min, wp_nop, wp_zret, qsc_kd, qsc_k1, qsc_l1, qsc_gf1, qsc_k2, qsc_l2, qsc_gf2, qsc_k3, qsc_l3, qsc_gf3, qsc_k4, qsc_l4, qsc_gf4, qsc_k5, qsc_l5, qsc_gf6, qsc_k6, qsc_l6, qsc_gf7, qsc_k7, qsc_l7, qsc_gf9, qsc_k8, qsc_l8, qsc_gf10, qsc_gf0, qsc_pf0, qsc_gf5, qsc_pf5, qsc_gf8, qsc_pf8, qst_kd, qst_gf0, qst_k10, qst_l10, qst_gf1, qst_k29, qst_l29, qst_gf2, qlf_kd, qlf_gf0, qlf_k31, qlf_l31, qlf_gf1, qlf_gf3, qlf_gf4, qlf_gf5, qlf_gf6, qlf_k203, qlf_l203, qlf_gf7, qlf_gf2, qlf_pf2, qlf_gf8, qlf_pf8, wrI_row, cpI_row, row_s, row_n, row_ss, row_sw, upd_s, upd_n, ad_inj, ad_z, ad_z2, Nat.reduceEqDiff, reduceCtorEq, List.cons_append, List.nil_append, Option.toList_some, Option.toList_none, Int.toNat_natCast, List.length_cons, List.length_nil, Int.cast_ofNat_Int, Nat.reduceAdd, Nat.reduceLeDiff, Nat.reduceLT, Nat.reduceMul, Int.reduceAdd, Int.reduceSub, Int.reduceMul, Int.reduceNeg, Int.reduceLT, Int.reduceLE, Int.reduceEq, Int.reduceToNat, eq_self, true_and, and_true, true_or, or_true, false_or, or_false, if_true, if_false, not_true_eq_false, not_false_eq_true, and_self, ne_eq, hS', hff, hcl, c4', openF_r (j := 6) (by omega) (by omega) (by omega)]
          (repeat' (first | apply And.intro | split)) <;> first | omega | exact q
      · rw [if_neg c3] at hQ
        have q := hQ.ro hX
        simp only [m_L_stretch, b_L_stretch_0, P_L_stretch_26, b_L_stretch_26, P_L_stretch_28, b_L_stretch_28, P_L_stretch_53, b_L_stretch_53, P_L_stretch_85, b_L_stretch_85, P_L_stretch_98, b_L_stretch_98, wp_abs, wp_aln0, wp_aln3, wp_asn3, wp_bipush, wp_copy, wp_cs1, wp_cs2, wp_cs3, wp_cs4, wp_cs5, wp_cs6, wp_cs7, wp_cv1, wp_cv2, wp_cv3, wp_cv4, wp_cv5, wp_cv6, wp_cv7, wp_goto, wp_iadd, wp_iald, wp_iast, wp_icge, wp_icle, wp_iconst, wp_il4, wp_il5, wp_iln1, wp_iln2, wp_iret, wp_is4, wp_is5, wp_isub, wp_izeq, wp_max, wp_min, wp_nop, wp_zret, qsc_kd, qsc_k1, qsc_l1, qsc_gf1, qsc_k2, qsc_l2, qsc_gf2, qsc_k3, qsc_l3, qsc_gf3, qsc_k4, qsc_l4, qsc_gf4, qsc_k5, qsc_l5, qsc_gf6, qsc_k6, qsc_l6, qsc_gf7, qsc_k7, qsc_l7, qsc_gf9, qsc_k8, qsc_l8, qsc_gf10, qsc_gf0, qsc_pf0, qsc_gf5, qsc_pf5, qsc_gf8, qsc_pf8, qst_kd, qst_gf0, qst_k10, qst_l10, qst_gf1, qst_k29, qst_l29, qst_gf2, qlf_kd, qlf_gf0, qlf_k31, qlf_l31, qlf_gf1, qlf_gf3, qlf_gf4, qlf_gf5, qlf_gf6, qlf_k203, qlf_l203, qlf_gf7, qlf_gf2, qlf_pf2, qlf_gf8, qlf_pf8, wrI_row, cpI_row, row_s, row_n, row_ss, row_sw, upd_s, upd_n, ad_inj, ad_z, ad_z2, Nat.reduceEqDiff, reduceCtorEq, List.cons_append, List.nil_append, Option.toList_some, Option.toList_none, Int.toNat_natCast, List.length_cons, List.length_nil, Int.cast_ofNat_Int, Nat.reduceAdd, Nat.reduceLeDiff, Nat.reduceLT, Nat.reduceMul, Int.reduceAdd, Int.reduceSub, Int.reduceMul, Int.reduceNeg, Int.reduceLT, Int.reduceLE, Int.reduceEq, Int.reduceToNat, eq_self, true_and, and_true, true_or, or_true, false_or, or_false, if_true, if_false, not_true_eq_false, not_false_eq_true, and_self, ne_eq, hLf, hN1, hS, hm1, ho2, r7, e8, c3]
        (repeat' (first | apply And.intro | split)) <;> first | omega | exact q
    · have ho2 := fun Q => lk_out (zt := zt) (g := g) (ρ := ρ) (lo := 1) (hi := 20) hm (by omega) (by omega) c2 Q
      rw [if_neg (fun z => c2 z.2)] at hQ
      have q := hQ.ro hX
      simp only [m_L_stretch, b_L_stretch_0, P_L_stretch_26, b_L_stretch_26, P_L_stretch_28, b_L_stretch_28, P_L_stretch_53, b_L_stretch_53, P_L_stretch_85, b_L_stretch_85, P_L_stretch_98, b_L_stretch_98, wp_abs, wp_aln0, wp_aln3, wp_asn3, wp_bipush, wp_copy, wp_cs1, wp_cs2, wp_cs3, wp_cs4, wp_cs5, wp_cs6, wp_cs7, wp_cv1, wp_cv2, wp_cv3, wp_cv4, wp_cv5, wp_cv6, wp_cv7, wp_goto, wp_iadd, wp_iald, wp_iast, wp_icge, wp_icle, wp_iconst, wp_il4, wp_il5, wp_iln1, wp_iln2, wp_iret, wp_is4, wp_is5, wp_isub, wp_izeq, wp_max, wp_min, wp_nop, wp_zret, qsc_kd, qsc_k1, qsc_l1, qsc_gf1, qsc_k2, qsc_l2, qsc_gf2, qsc_k3, qsc_l3, qsc_gf3, qsc_k4, qsc_l4, qsc_gf4, qsc_k5, qsc_l5, qsc_gf6, qsc_k6, qsc_l6, qsc_gf7, qsc_k7, qsc_l7, qsc_gf9, qsc_k8, qsc_l8, qsc_gf10, qsc_gf0, qsc_pf0, qsc_gf5, qsc_pf5, qsc_gf8, qsc_pf8, qst_kd, qst_gf0, qst_k10, qst_l10, qst_gf1, qst_k29, qst_l29, qst_gf2, qlf_kd, qlf_gf0, qlf_k31, qlf_l31, qlf_gf1, qlf_gf3, qlf_gf4, qlf_gf5, qlf_gf6, qlf_k203, qlf_l203, qlf_gf7, qlf_gf2, qlf_pf2, qlf_gf8, qlf_pf8, wrI_row, cpI_row, row_s, row_n, row_ss, row_sw, upd_s, upd_n, ad_inj, ad_z, ad_z2, Nat.reduceEqDiff, reduceCtorEq, List.cons_append, List.nil_append, Option.toList_some, Option.toList_none, Int.toNat_natCast, List.length_cons, List.length_nil, Int.cast_ofNat_Int, Nat.reduceAdd, Nat.reduceLeDiff, Nat.reduceLT, Nat.reduceMul, Int.reduceAdd, Int.reduceSub, Int.reduceMul, Int.reduceNeg, Int.reduceLT, Int.reduceLE, Int.reduceEq, Int.reduceToNat, eq_self, true_and, and_true, true_or, or_true, false_or, or_false, if_true, if_false, not_true_eq_false, not_false_eq_true, and_self, ne_eq, hLf, hN1, hS, hm1, ho2]
      (repeat' (first | apply And.intro | split)) <;> first | omega | exact q
  · rw [b2_f c1] at hm1
    rw [if_neg (fun z => c1 z.1)] at hQ
    have q := hQ.ro hX
    simp only [m_L_stretch, b_L_stretch_0, P_L_stretch_26, b_L_stretch_26, P_L_stretch_28, b_L_stretch_28, P_L_stretch_53, b_L_stretch_53, P_L_stretch_85, b_L_stretch_85, P_L_stretch_98, b_L_stretch_98, wp_abs, wp_aln0, wp_aln3, wp_asn3, wp_bipush, wp_copy, wp_cs1, wp_cs2, wp_cs3, wp_cs4, wp_cs5, wp_cs6, wp_cs7, wp_cv1, wp_cv2, wp_cv3, wp_cv4, wp_cv5, wp_cv6, wp_cv7, wp_goto, wp_iadd, wp_iald, wp_iast, wp_icge, wp_icle, wp_iconst, wp_il4, wp_il5, wp_iln1, wp_iln2, wp_iret, wp_is4, wp_is5, wp_isub, wp_izeq, wp_max, wp_min, wp_nop, wp_zret, qsc_kd, qsc_k1, qsc_l1, qsc_gf1, qsc_k2, qsc_l2, qsc_gf2, qsc_k3, qsc_l3, qsc_gf3, qsc_k4, qsc_l4, qsc_gf4, qsc_k5, qsc_l5, qsc_gf6, qsc_k6, qsc_l6, qsc_gf7, qsc_k7, qsc_l7, qsc_gf9, qsc_k8, qsc_l8, qsc_gf10, qsc_gf0, qsc_pf0, qsc_gf5, qsc_pf5, qsc_gf8, qsc_pf8, qst_kd, qst_gf0, qst_k10, qst_l10, qst_gf1, qst_k29, qst_l29, qst_gf2, qlf_kd, qlf_gf0, qlf_k31, qlf_l31, qlf_gf1, qlf_gf3, qlf_gf4, qlf_gf5, qlf_gf6, qlf_k203, qlf_l203, qlf_gf7, qlf_gf2, qlf_pf2, qlf_gf8, qlf_pf8, wrI_row, cpI_row, row_s, row_n, row_ss, row_sw, upd_s, upd_n, ad_inj, ad_z, ad_z2, Nat.reduceEqDiff, reduceCtorEq, List.cons_append, List.nil_append, Option.toList_some, Option.toList_none, Int.toNat_natCast, List.length_cons, List.length_nil, Int.cast_ofNat_Int, Nat.reduceAdd, Nat.reduceLeDiff, Nat.reduceLT, Nat.reduceMul, Int.reduceAdd, Int.reduceSub, Int.reduceMul, Int.reduceNeg, Int.reduceLT, Int.reduceLE, Int.reduceEq, Int.reduceToNat, eq_self, true_and, and_true, true_or, or_true, false_or, or_false, if_true, if_false, not_true_eq_false, not_false_eq_true, and_self, ne_eq, hLf, hN1, hS, hm1]
    (repeat' (first | apply And.intro | split)) <;> first | omega | exact q
end STC
