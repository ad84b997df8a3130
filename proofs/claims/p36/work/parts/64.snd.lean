/-! the law's method sound: always true -/
section XSO
variable {zt : Nat → Nat} {L : Nat} {g : Nat → Nat → Int} {ρ : Ri} {X : XV}
theorem sound_1 (hW : WFX X) {Q : Option AV → XV → Prop} {o3 o4 o5 o6 o7 o8 : Option AV} (hQ : Xp zt L (g, ρ) 87 (P 87 75) [some (AR L), some (AI (X.1.1 8 0)), some (AI (X.1.1 5 0)), o3, o4, o5, o6, o7, o8] [] X Q) :
    ∀ (d s : Nat), ((s + d : Nat) : Int) = X.1.1 5 0 → Xp zt L (g, ρ) 87 (P 87 4) [some (AR L), some (AI (sumL X.1.1 s)), some (AI s), o3, o4, o5, o6, o7, o8] [] X Q := by
  have hU := hW.1.1
  have b5 := hU.2.2.2.2.1
  have b8 := hU.2.2.2.2.2.2.1
  intro d
  induction d with
  | zero =>
    intro s hs
    have e1 : sumL X.1.1 s = X.1.1 8 0 := by
      rw [← hU.2.2.2.2.2.2.2.1]
      congr 1
      omega
    have e2 : (s : Int) = X.1.1 5 0 := by omega
    rw [e1, e2, P_W_sound_4]
    simp only [xm_W_sound, b_W_sound_0, P_W_sound_88, b_W_sound_88, P_W_sound_139, b_W_sound_139, P_W_sound_140, b_W_sound_140, P_W_sound_155, b_W_sound_155, P_W_sound_156, b_W_sound_156, P_W_sound_172, b_W_sound_172, P_W_sound_180, b_W_sound_180, P_W_sound_226, b_W_sound_226, P_W_sound_228, b_W_sound_228, P_W_sound_234, b_W_sound_234, P_W_sound_286, b_W_sound_286, P_W_sound_288, b_W_sound_288, P_W_sound_305, b_W_sound_305, P_W_sound_306, b_W_sound_306, P_W_sound_320, b_W_sound_320, P_W_sound_321, b_W_sound_321, P_W_sound_328, b_W_sound_328, P_W_sound_329, b_W_sound_329, xp_aln0, xp_bipush, xp_goto, xp_iadd, xp_iceq, xp_icge, xp_icgt, xp_iclt, xp_icne, xp_iconst, xp_il4, xp_il5, xp_il6, xp_il7, xp_il8, xp_iln1, xp_iln2, xp_iln3, xp_inc2, xp_inc6, xp_iret, xp_is4, xp_is5, xp_is6, xp_is7, xp_is8, xp_isn1, xp_isn2, xp_isn3, xp_izlt, xp_izne, xp_nop, xp_zret, xv_count, xv_drawnSum, xv_fault, xv_frame, xv_number, xv_segment, xv_wrongness, wrI_row, cpI_row, row_s, row_n, row_ss, row_sw, upd_s, upd_n, ad_inj, ad_z, ad_z2, Nat.reduceEqDiff, reduceCtorEq, List.cons_append, List.nil_append, Option.toList_some, Option.toList_none, Int.toNat_natCast, List.length_cons, List.length_nil, Int.cast_ofNat_Int, Nat.reduceAdd, Nat.reduceLeDiff, Nat.reduceLT, Nat.reduceMul, Int.reduceAdd, Int.reduceSub, Int.reduceMul, Int.reduceNeg, Int.reduceLT, Int.reduceLE, Int.reduceEq, Int.reduceToNat, eq_self, true_and, and_true, true_or, or_true, false_or, or_false, if_true, if_false, not_true_eq_false, not_false_eq_true, and_self, ne_eq, b_W_sound_4, sCt_1]
    (repeat' (first | apply And.intro | split)) <;> first | omega | exact hQ
  | succ d ih =>
    intro s hs
    have hs1 : (s : Int) < X.1.1 5 0 := by omega
    have i1 := ih (s + 1) (by omega)
    obtain ⟨f1, f2, f3, f4⟩ := seg_1st hU hs1
    have hl := seg_ln hU hs1
    have hk := seg_kd hU hs1
    have s0 := sSeg_0 hU hs1
    have s1 := sSeg_1 hU hs1
    have s2 := sSeg_2 hU hs1
    have q0 := sFr_0 (X := X) (f := sumL X.1.1 s) (by omega)
    have q1 := sFr_1 (X := X) (f := sumL X.1.1 s) (by omega)
    rw [f1] at q0
    rw [f2] at q1
    rw [sum_st] at i1
    rw [P_W_sound_4]
    simp only [xm_W_sound, b_W_sound_0, P_W_sound_60, b_W_sound_60, P_W_sound_88, b_W_sound_88, P_W_sound_139, b_W_sound_139, P_W_sound_140, b_W_sound_140, P_W_sound_155, b_W_sound_155, P_W_sound_156, b_W_sound_156, P_W_sound_172, b_W_sound_172, P_W_sound_180, b_W_sound_180, P_W_sound_226, b_W_sound_226, P_W_sound_228, b_W_sound_228, P_W_sound_234, b_W_sound_234, P_W_sound_286, b_W_sound_286, P_W_sound_288, b_W_sound_288, P_W_sound_305, b_W_sound_305, P_W_sound_306, b_W_sound_306, P_W_sound_320, b_W_sound_320, P_W_sound_321, b_W_sound_321, P_W_sound_328, b_W_sound_328, P_W_sound_329, b_W_sound_329, xp_aln0, xp_bipush, xp_goto, xp_iadd, xp_iceq, xp_icge, xp_icgt, xp_iclt, xp_icne, xp_iconst, xp_il4, xp_il5, xp_il6, xp_il7, xp_il8, xp_iln1, xp_iln2, xp_iln3, xp_inc2, xp_inc6, xp_iret, xp_is4, xp_is5, xp_is6, xp_is7, xp_is8, xp_isn1, xp_isn2, xp_isn3, xp_izlt, xp_izne, xp_nop, xp_zret, xv_count, xv_drawnSum, xv_fault, xv_frame, xv_number, xv_segment, xv_wrongness, wrI_row, cpI_row, row_s, row_n, row_ss, row_sw, upd_s, upd_n, ad_inj, ad_z, ad_z2, Nat.reduceEqDiff, reduceCtorEq, List.cons_append, List.nil_append, Option.toList_some, Option.toList_none, Int.toNat_natCast, List.length_cons, List.length_nil, Int.cast_ofNat_Int, Nat.reduceAdd, Nat.reduceLeDiff, Nat.reduceLT, Nat.reduceMul, Int.reduceAdd, Int.reduceSub, Int.reduceMul, Int.reduceNeg, Int.reduceLT, Int.reduceLE, Int.reduceEq, Int.reduceToNat, eq_self, true_and, and_true, true_or, or_true, false_or, or_false, if_true, if_false, not_true_eq_false, not_false_eq_true, and_self, ne_eq, b_W_sound_4, sCt_1, s0, s1, s2, q0, q1]
    (repeat' (first | apply And.intro | split)) <;> first | omega | exact i1
theorem sound_2 (hW : WFX X) {Q : Option AV → XV → Prop} {o7 o8 : Option AV} (hQ : ∀ o7 o8 : Option AV, Xp zt L (g, ρ) 87 (P 87 234) [some (AR L), some (AI (X.1.1 8 0)), some (AI (gcnV X.1.1 (X.1.1 8 0).toNat)), some (AI (cntS (-1) (X.1.1 9) (X.1.1 8 0).toNat)), some (AI (cntS (-1) (X.1.1 10) (X.1.1 8 0).toNat)), some (AI (dsU X.1.1 (X.1.1 8 0).toNat)), some (AI (X.1.1 8 0)), o7, o8] [] X Q) :
    ∀ (d f : Nat) (o7 o8 : Option AV), ((f + d : Nat) : Int) = X.1.1 8 0 → Xp zt L (g, ρ) 87 (P 87 88) [some (AR L), some (AI (X.1.1 8 0)), some (AI (gcnV X.1.1 f)), some (AI (cntS (-1) (X.1.1 9) f)), some (AI (cntS (-1) (X.1.1 10) f)), some (AI (dsU X.1.1 f)), some (AI f), o7, o8] [] X Q := by
  have hU := hW.1.1
  have b0 := hU.1
  have b8 := hU.2.2.2.2.2.2.1
  have bn := hU.2.2.2.1
  intro d
  induction d with
  | zero =>
    intro f o7 o8 hf
    have e2 : f = (X.1.1 8 0).toNat := by omega
    have e3 : (((X.1.1 8 0).toNat : Nat) : Int) = X.1.1 8 0 := by omega
    have q := hQ o7 o8
    subst e2
    rw [e3, P_W_sound_88]
    simp only [xm_W_sound, b_W_sound_0, P_W_sound_58, b_W_sound_58, P_W_sound_60, b_W_sound_60, P_W_sound_139, b_W_sound_139, P_W_sound_140, b_W_sound_140, P_W_sound_155, b_W_sound_155, P_W_sound_156, b_W_sound_156, P_W_sound_172, b_W_sound_172, P_W_sound_180, b_W_sound_180, P_W_sound_226, b_W_sound_226, P_W_sound_228, b_W_sound_228, P_W_sound_286, b_W_sound_286, P_W_sound_288, b_W_sound_288, P_W_sound_305, b_W_sound_305, P_W_sound_306, b_W_sound_306, P_W_sound_320, b_W_sound_320, P_W_sound_321, b_W_sound_321, P_W_sound_328, b_W_sound_328, P_W_sound_329, b_W_sound_329, xp_aln0, xp_bipush, xp_goto, xp_iadd, xp_iceq, xp_icge, xp_icgt, xp_iclt, xp_icne, xp_iconst, xp_il4, xp_il5, xp_il6, xp_il7, xp_il8, xp_iln1, xp_iln2, xp_iln3, xp_inc2, xp_inc6, xp_iret, xp_is4, xp_is5, xp_is6, xp_is7, xp_is8, xp_isn1, xp_isn2, xp_isn3, xp_izlt, xp_izne, xp_nop, xp_zret, xv_count, xv_drawnSum, xv_fault, xv_frame, xv_number, xv_segment, xv_wrongness, wrI_row, cpI_row, row_s, row_n, row_ss, row_sw, upd_s, upd_n, ad_inj, ad_z, ad_z2, Nat.reduceEqDiff, reduceCtorEq, List.cons_append, List.nil_append, Option.toList_some, Option.toList_none, Int.toNat_natCast, List.length_cons, List.length_nil, Int.cast_ofNat_Int, Nat.reduceAdd, Nat.reduceLeDiff, Nat.reduceLT, Nat.reduceMul, Int.reduceAdd, Int.reduceSub, Int.reduceMul, Int.reduceNeg, Int.reduceLT, Int.reduceLE, Int.reduceEq, Int.reduceToNat, eq_self, true_and, and_true, true_or, or_true, false_or, or_false, if_true, if_false, not_true_eq_false, not_false_eq_true, and_self, ne_eq, b_W_sound_88, Int.le_refl]
    (repeat' (first | apply And.intro | split)) <;> first | omega | exact q
  | succ d ih =>
    intro f o7 o8 hf
    have hf1 : 0 ≤ (f : Int) ∧ (f : Int) < X.1.1 8 0 := by omega
    have i1 := ih (f + 1)
    obtain ⟨a1, a2, a3, a4⟩ := gs_air hU hf1.2
    have hk := kndV_lt hU hf1.2
    have h9 := hU.2.2.2.2.2.2.2.2 f hf1.2
    have n9 := nn_b (x := X.1.1 9 f) (by omega)
    have n10 := nn_b (x := X.1.1 10 f) (by omega)
    have q1 := sFr_1 hf1
    have q2 := sFr_2 hf1
    have q3 := sFr_3 hf1
    have q4 := sFr_4 hf1
    have q5 := sFr_5 hf1
    rw [Int.toNat_natCast] at q2 q3 q4 q5
    rw [a3] at i1
    simp only [cntS, dsU] at i1
    have r5 : gsU X.1.1 f = 0 ∨ gsU X.1.1 f = 1 := by omega
    have hb1 := cntS_b (r := X.1.1 9) f
    have hb2 := cntS_b (r := X.1.1 10) f
    rw [P_W_sound_88]
    by_cases c9 : X.1.1 9 f = -1
    · have e9 : nn (-99) (X.1.1 9 f) = -99 := n9.2.1.2 c9
      rw [e9] at q2
      by_cases c10 : X.1.1 10 f = -1
      · have e10 : nn (-99) (X.1.1 10 f) = -99 := n10.2.1.2 c10
        rw [e10] at q3
        have i2 := i1 (some (AI (airV X.1.1 (f + 1)))) (some (AI (-99))) (by omega)
        simp only [if_pos c9, if_pos c10] at i2
        simp only [xm_W_sound, b_W_sound_0, P_W_sound_58, b_W_sound_58, P_W_sound_60, b_W_sound_60, P_W_sound_139, b_W_sound_139, P_W_sound_140, b_W_sound_140, P_W_sound_155, b_W_sound_155, P_W_sound_156, b_W_sound_156, P_W_sound_172, b_W_sound_172, P_W_sound_180, b_W_sound_180, P_W_sound_228, b_W_sound_228, P_W_sound_286, b_W_sound_286, P_W_sound_288, b_W_sound_288, P_W_sound_305, b_W_sound_305, P_W_sound_306, b_W_sound_306, P_W_sound_320, b_W_sound_320, P_W_sound_321, b_W_sound_321, P_W_sound_328, b_W_sound_328, P_W_sound_329, b_W_sound_329, xp_aln0, xp_bipush, xp_goto, xp_iadd, xp_iceq, xp_icge, xp_icgt, xp_iclt, xp_icne, xp_iconst, xp_il4, xp_il5, xp_il6, xp_il7, xp_il8, xp_iln1, xp_iln2, xp_iln3, xp_inc2, xp_inc6, xp_iret, xp_is4, xp_is5, xp_is6, xp_is7, xp_is8, xp_isn1, xp_isn2, xp_isn3, xp_izlt, xp_izne, xp_nop, xp_zret, xv_count, xv_drawnSum, xv_fault, xv_frame, xv_number, xv_segment, xv_wrongness, wrI_row, cpI_row, row_s, row_n, row_ss, row_sw, upd_s, upd_n, ad_inj, ad_z, ad_z2, Nat.reduceEqDiff, reduceCtorEq, List.cons_append, List.nil_append, Option.toList_some, Option.toList_none, Int.toNat_natCast, List.length_cons, List.length_nil, Int.cast_ofNat_Int, Nat.reduceAdd, Nat.reduceLeDiff, Nat.reduceLT, Nat.reduceMul, Int.reduceAdd, Int.reduceSub, Int.reduceMul, Int.reduceNeg, Int.reduceLT, Int.reduceLE, Int.reduceEq, Int.reduceToNat, eq_self, true_and, and_true, true_or, or_true, false_or, or_false, if_true, if_false, not_true_eq_false, not_false_eq_true, and_self, ne_eq, b_W_sound_88, sNm_3, q1, q2, q3, q4, q5]
        (repeat' (first | apply And.intro | split)) <;> first | omega | (simpa using i2)
      · have e10 : nn (-99) (X.1.1 10 f) = X.1.1 10 f := n10.2.2 c10
        have z10 : ¬ X.1.1 10 f = -99 := by omega
        rw [e10] at q3
        have i2 := i1 (some (AI (airV X.1.1 (f + 1)))) (some (AI (X.1.1 10 f))) (by omega)
        have hw : sWrong f (X.1.1 10 f) X = wrgV X.1.1 (kndV X.1.1 f) (X.1.1 10 f).toNat := if_pos ⟨hf1, by omega⟩
        simp only [if_pos c9, if_neg c10] at i2
        simp only [xm_W_sound, b_W_sound_0, P_W_sound_58, b_W_sound_58, P_W_sound_60, b_W_sound_60, P_W_sound_139, b_W_sound_139, P_W_sound_140, b_W_sound_140, P_W_sound_155, b_W_sound_155, P_W_sound_156, b_W_sound_156, P_W_sound_172, b_W_sound_172, P_W_sound_180, b_W_sound_180, P_W_sound_228, b_W_sound_228, P_W_sound_286, b_W_sound_286, P_W_sound_288, b_W_sound_288, P_W_sound_305, b_W_sound_305, P_W_sound_306, b_W_sound_306, P_W_sound_320, b_W_sound_320, P_W_sound_321, b_W_sound_321, P_W_sound_328, b_W_sound_328, P_W_sound_329, b_W_sound_329, xp_aln0, xp_bipush, xp_goto, xp_iadd, xp_iceq, xp_icge, xp_icgt, xp_iclt, xp_icne, xp_iconst, xp_il4, xp_il5, xp_il6, xp_il7, xp_il8, xp_iln1, xp_iln2, xp_iln3, xp_inc2, xp_inc6, xp_iret, xp_is4, xp_is5, xp_is6, xp_is7, xp_is8, xp_isn1, xp_isn2, xp_isn3, xp_izlt, xp_izne, xp_nop, xp_zret, xv_count, xv_drawnSum, xv_fault, xv_frame, xv_number, xv_segment, xv_wrongness, wrI_row, cpI_row, row_s, row_n, row_ss, row_sw, upd_s, upd_n, ad_inj, ad_z, ad_z2, Nat.reduceEqDiff, reduceCtorEq, List.cons_append, List.nil_append, Option.toList_some, Option.toList_none, Int.toNat_natCast, List.length_cons, List.length_nil, Int.cast_ofNat_Int, Nat.reduceAdd, Nat.reduceLeDiff, Nat.reduceLT, Nat.reduceMul, Int.reduceAdd, Int.reduceSub, Int.reduceMul, Int.reduceNeg, Int.reduceLT, Int.reduceLE, Int.reduceEq, Int.reduceToNat, eq_self, true_and, and_true, true_or, or_true, false_or, or_false, if_true, if_false, not_true_eq_false, not_false_eq_true, and_self, ne_eq, b_W_sound_88, sNm_3, q1, q2, q3, q4, q5, hw, z10]
        (repeat' (first | apply And.intro | split)) <;> first | omega | (simpa using i2)
    · have e9 : nn (-99) (X.1.1 9 f) = X.1.1 9 f := n9.2.2 c9
      have z9 : ¬ X.1.1 9 f = -99 := by omega
      rw [e9] at q2
      by_cases c10 : X.1.1 10 f = -1
      · have e10 : nn (-99) (X.1.1 10 f) = -99 := n10.2.1.2 c10
        rw [e10] at q3
        have i2 := i1 (some (AI (airV X.1.1 (f + 1)))) (some (AI (-99))) (by omega)
        simp only [if_neg c9, if_pos c10] at i2
        simp only [xm_W_sound, b_W_sound_0, P_W_sound_58, b_W_sound_58, P_W_sound_60, b_W_sound_60, P_W_sound_139, b_W_sound_139, P_W_sound_140, b_W_sound_140, P_W_sound_155, b_W_sound_155, P_W_sound_156, b_W_sound_156, P_W_sound_172, b_W_sound_172, P_W_sound_180, b_W_sound_180, P_W_sound_228, b_W_sound_228, P_W_sound_286, b_W_sound_286, P_W_sound_288, b_W_sound_288, P_W_sound_305, b_W_sound_305, P_W_sound_306, b_W_sound_306, P_W_sound_320, b_W_sound_320, P_W_sound_321, b_W_sound_321, P_W_sound_328, b_W_sound_328, P_W_sound_329, b_W_sound_329, xp_aln0, xp_bipush, xp_goto, xp_iadd, xp_iceq, xp_icge, xp_icgt, xp_iclt, xp_icne, xp_iconst, xp_il4, xp_il5, xp_il6, xp_il7, xp_il8, xp_iln1, xp_iln2, xp_iln3, xp_inc2, xp_inc6, xp_iret, xp_is4, xp_is5, xp_is6, xp_is7, xp_is8, xp_isn1, xp_isn2, xp_isn3, xp_izlt, xp_izne, xp_nop, xp_zret, xv_count, xv_drawnSum, xv_fault, xv_frame, xv_number, xv_segment, xv_wrongness, wrI_row, cpI_row, row_s, row_n, row_ss, row_sw, upd_s, upd_n, ad_inj, ad_z, ad_z2, Nat.reduceEqDiff, reduceCtorEq, List.cons_append, List.nil_append, Option.toList_some, Option.toList_none, Int.toNat_natCast, List.length_cons, List.length_nil, Int.cast_ofNat_Int, Nat.reduceAdd, Nat.reduceLeDiff, Nat.reduceLT, Nat.reduceMul, Int.reduceAdd, Int.reduceSub, Int.reduceMul, Int.reduceNeg, Int.reduceLT, Int.reduceLE, Int.reduceEq, Int.reduceToNat, eq_self, true_and, and_true, true_or, or_true, false_or, or_false, if_true, if_false, not_true_eq_false, not_false_eq_true, and_self, ne_eq, b_W_sound_88, sNm_3, q1, q2, q3, q4, q5, z9]
        (repeat' (first | apply And.intro | split)) <;> first | omega | (simpa using i2)
      · have e10 : nn (-99) (X.1.1 10 f) = X.1.1 10 f := n10.2.2 c10
        have z10 : ¬ X.1.1 10 f = -99 := by omega
        rw [e10] at q3
        have i2 := i1 (some (AI (airV X.1.1 (f + 1)))) (some (AI (X.1.1 10 f))) (by omega)
        have hw : sWrong f (X.1.1 10 f) X = wrgV X.1.1 (kndV X.1.1 f) (X.1.1 10 f).toNat := if_pos ⟨hf1, by omega⟩
        simp only [if_neg c9, if_neg c10] at i2
        simp only [xm_W_sound, b_W_sound_0, P_W_sound_58, b_W_sound_58, P_W_sound_60, b_W_sound_60, P_W_sound_139, b_W_sound_139, P_W_sound_140, b_W_sound_140, P_W_sound_155, b_W_sound_155, P_W_sound_156, b_W_sound_156, P_W_sound_172, b_W_sound_172, P_W_sound_180, b_W_sound_180, P_W_sound_228, b_W_sound_228, P_W_sound_286, b_W_sound_286, P_W_sound_288, b_W_sound_288, P_W_sound_305, b_W_sound_305, P_W_sound_306, b_W_sound_306, P_W_sound_320, b_W_sound_320, P_W_sound_321, b_W_sound_321, P_W_sound_328, b_W_sound_328, P_W_sound_329, b_W_sound_329, xp_aln0, xp_bipush, xp_goto, xp_iadd, xp_iceq, xp_icge, xp_icgt, xp_iclt, xp_icne, xp_iconst, xp_il4, xp_il5, xp_il6, xp_il7, xp_il8, xp_iln1, xp_iln2, xp_iln3, xp_inc2, xp_inc6, xp_iret, xp_is4, xp_is5, xp_is6, xp_is7, xp_is8, xp_isn1, xp_isn2, xp_isn3, xp_izlt, xp_izne, xp_nop, xp_zret, xv_count, xv_drawnSum, xv_fault, xv_frame, xv_number, xv_segment, xv_wrongness, wrI_row, cpI_row, row_s, row_n, row_ss, row_sw, upd_s, upd_n, ad_inj, ad_z, ad_z2, Nat.reduceEqDiff, reduceCtorEq, List.cons_append, List.nil_append, Option.toList_some, Option.toList_none, Int.toNat_natCast, List.length_cons, List.length_nil, Int.cast_ofNat_Int, Nat.reduceAdd, Nat.reduceLeDiff, Nat.reduceLT, Nat.reduceMul, Int.reduceAdd, Int.reduceSub, Int.reduceMul, Int.reduceNeg, Int.reduceLT, Int.reduceLE, Int.reduceEq, Int.reduceToNat, eq_self, true_and, and_true, true_or, or_true, false_or, or_false, if_true, if_false, not_true_eq_false, not_false_eq_true, and_self, ne_eq, b_W_sound_88, sNm_3, q1, q2, q3, q4, q5, hw, z9, z10]
        (repeat' (first | apply And.intro | split)) <;> first | omega | (simpa using i2)
theorem x_sound (hW : WFX X) (Q : Option AV → XV → Prop) : XpM zt L (g, ρ) 87 [AR L] X Q ↔ Q (some (AI 1)) X := by
  refine xpm_iff (fun Q hQ => ?_) Q
  have hU := hW.1.1
  have b5 := hU.2.2.2.2.1
  have b8 := hU.2.2.2.2.2.2.1
  have hb1 := cntS_b (r := X.1.1 9) (X.1.1 8 0).toNat
  have hb2 := cntS_b (r := X.1.1 10) (X.1.1 8 0).toNat
  have hd := dsU_b hU (X.1.1 8 0).toNat (by omega)
  have hdr := sDr_eq hU
  have hf0 := sFl_none (X := X) (w := 0) (by omega)
  have hf1 := sFl_none (X := X) (w := 1) (by omega)
  have b0 := sFl_b hU (w := 0) (by omega)
  have b1 := sFl_b hU (w := 1) (by omega)
  have end1 : ∀ o7 o8 : Option AV, Xp zt L (g, ρ) 87 (P 87 234) [some (AR L), some (AI (X.1.1 8 0)), some (AI (gcnV X.1.1 (X.1.1 8 0).toNat)), some (AI (cntS (-1) (X.1.1 9) (X.1.1 8 0).toNat)), some (AI (cntS (-1) (X.1.1 10) (X.1.1 8 0).toNat)), some (AI (dsU X.1.1 (X.1.1 8 0).toNat)), some (AI (X.1.1 8 0)), o7, o8] [] X Q := by
    intro o7 o8
    rw [P_W_sound_234]
    have hff : sFault 0 X = -99 ↔ sFault 1 X = -99 := hf0.trans hf1.symm
    by_cases c : cntS (-1) (X.1.1 10) (X.1.1 8 0).toNat < X.1.1 8 0
    · rw [if_pos c] at hdr
      have c' : ¬ X.1.1 8 0 ≤ cntS (-1) (X.1.1 10) (X.1.1 8 0).toNat := by omega
      by_cases cf : sFault 0 X = -99
      · have cf1 := hff.1 cf
        simp only [xm_W_sound, b_W_sound_0, P_W_sound_58, b_W_sound_58, P_W_sound_60, b_W_sound_60, P_W_sound_139, b_W_sound_139, P_W_sound_140, b_W_sound_140, P_W_sound_155, b_W_sound_155, P_W_sound_156, b_W_sound_156, P_W_sound_172, b_W_sound_172, P_W_sound_180, b_W_sound_180, P_W_sound_226, b_W_sound_226, P_W_sound_228, b_W_sound_228, P_W_sound_286, b_W_sound_286, P_W_sound_288, b_W_sound_288, P_W_sound_305, b_W_sound_305, P_W_sound_306, b_W_sound_306, P_W_sound_320, b_W_sound_320, P_W_sound_321, b_W_sound_321, P_W_sound_328, b_W_sound_328, P_W_sound_329, b_W_sound_329, xp_aln0, xp_bipush, xp_goto, xp_iadd, xp_iceq, xp_icge, xp_icgt, xp_iclt, xp_icne, xp_iconst, xp_il4, xp_il5, xp_il6, xp_il7, xp_il8, xp_iln1, xp_iln2, xp_iln3, xp_inc2, xp_inc6, xp_iret, xp_is4, xp_is5, xp_is6, xp_is7, xp_is8, xp_isn1, xp_isn2, xp_isn3, xp_izlt, xp_izne, xp_nop, xp_zret, xv_count, xv_drawnSum, xv_fault, xv_frame, xv_number, xv_segment, xv_wrongness, wrI_row, cpI_row, row_s, row_n, row_ss, row_sw, upd_s, upd_n, ad_inj, ad_z, ad_z2, Nat.reduceEqDiff, reduceCtorEq, List.cons_append, List.nil_append, Option.toList_some, Option.toList_none, Int.toNat_natCast, List.length_cons, List.length_nil, Int.cast_ofNat_Int, Nat.reduceAdd, Nat.reduceLeDiff, Nat.reduceLT, Nat.reduceMul, Int.reduceAdd, Int.reduceSub, Int.reduceMul, Int.reduceNeg, Int.reduceLT, Int.reduceLE, Int.reduceEq, Int.reduceToNat, eq_self, true_and, and_true, true_or, or_true, false_or, or_false, if_true, if_false, not_true_eq_false, not_false_eq_true, and_self, ne_eq, b_W_sound_234, sCt_2, sCt_3, sCt_4, sCt_5, hdr, c', cf, cf1]
        (repeat' (first | apply And.intro | split)) <;> first | omega | exact hQ
      · have cf1 : ¬ sFault 1 X = -99 := fun q => cf (hff.2 q)
        simp only [xm_W_sound, b_W_sound_0, P_W_sound_58, b_W_sound_58, P_W_sound_60, b_W_sound_60, P_W_sound_139, b_W_sound_139, P_W_sound_140, b_W_sound_140, P_W_sound_155, b_W_sound_155, P_W_sound_156, b_W_sound_156, P_W_sound_172, b_W_sound_172, P_W_sound_180, b_W_sound_180, P_W_sound_226, b_W_sound_226, P_W_sound_228, b_W_sound_228, P_W_sound_286, b_W_sound_286, P_W_sound_288, b_W_sound_288, P_W_sound_305, b_W_sound_305, P_W_sound_306, b_W_sound_306, P_W_sound_320, b_W_sound_320, P_W_sound_321, b_W_sound_321, P_W_sound_328, b_W_sound_328, P_W_sound_329, b_W_sound_329, xp_aln0, xp_bipush, xp_goto, xp_iadd, xp_iceq, xp_icge, xp_icgt, xp_iclt, xp_icne, xp_iconst, xp_il4, xp_il5, xp_il6, xp_il7, xp_il8, xp_iln1, xp_iln2, xp_iln3, xp_inc2, xp_inc6, xp_iret, xp_is4, xp_is5, xp_is6, xp_is7, xp_is8, xp_isn1, xp_isn2, xp_isn3, xp_izlt, xp_izne, xp_nop, xp_zret, xv_count, xv_drawnSum, xv_fault, xv_frame, xv_number, xv_segment, xv_wrongness, wrI_row, cpI_row, row_s, row_n, row_ss, row_sw, upd_s, upd_n, ad_inj, ad_z, ad_z2, Nat.reduceEqDiff, reduceCtorEq, List.cons_append, List.nil_append, Option.toList_some, Option.toList_none, Int.toNat_natCast, List.length_cons, List.length_nil, Int.cast_ofNat_Int, Nat.reduceAdd, Nat.reduceLeDiff, Nat.reduceLT, Nat.reduceMul, Int.reduceAdd, Int.reduceSub, Int.reduceMul, Int.reduceNeg, Int.reduceLT, Int.reduceLE, Int.reduceEq, Int.reduceToNat, eq_self, true_and, and_true, true_or, or_true, false_or, or_false, if_true, if_false, not_true_eq_false, not_false_eq_true, and_self, ne_eq, b_W_sound_234, sCt_2, sCt_3, sCt_4, sCt_5, hdr, c', cf, cf1]
        (repeat' (first | apply And.intro | split)) <;> first | omega | exact hQ
    · rw [if_neg c] at hdr
      have c' : X.1.1 8 0 ≤ cntS (-1) (X.1.1 10) (X.1.1 8 0).toNat := by omega
      by_cases cf : sFault 0 X = -99
      · have cf1 := hff.1 cf
        simp only [xm_W_sound, b_W_sound_0, P_W_sound_58, b_W_sound_58, P_W_sound_60, b_W_sound_60, P_W_sound_139, b_W_sound_139, P_W_sound_140, b_W_sound_140, P_W_sound_155, b_W_sound_155, P_W_sound_156, b_W_sound_156, P_W_sound_172, b_W_sound_172, P_W_sound_180, b_W_sound_180, P_W_sound_226, b_W_sound_226, P_W_sound_228, b_W_sound_228, P_W_sound_286, b_W_sound_286, P_W_sound_288, b_W_sound_288, P_W_sound_305, b_W_sound_305, P_W_sound_306, b_W_sound_306, P_W_sound_320, b_W_sound_320, P_W_sound_321, b_W_sound_321, P_W_sound_328, b_W_sound_328, P_W_sound_329, b_W_sound_329, xp_aln0, xp_bipush, xp_goto, xp_iadd, xp_iceq, xp_icge, xp_icgt, xp_iclt, xp_icne, xp_iconst, xp_il4, xp_il5, xp_il6, xp_il7, xp_il8, xp_iln1, xp_iln2, xp_iln3, xp_inc2, xp_inc6, xp_iret, xp_is4, xp_is5, xp_is6, xp_is7, xp_is8, xp_isn1, xp_isn2, xp_isn3, xp_izlt, xp_izne, xp_nop, xp_zret, xv_count, xv_drawnSum, xv_fault, xv_frame, xv_number, xv_segment, xv_wrongness, wrI_row, cpI_row, row_s, row_n, row_ss, row_sw, upd_s, upd_n, ad_inj, ad_z, ad_z2, Nat.reduceEqDiff, reduceCtorEq, List.cons_append, List.nil_append, Option.toList_some, Option.toList_none, Int.toNat_natCast, List.length_cons, List.length_nil, Int.cast_ofNat_Int, Nat.reduceAdd, Nat.reduceLeDiff, Nat.reduceLT, Nat.reduceMul, Int.reduceAdd, Int.reduceSub, Int.reduceMul, Int.reduceNeg, Int.reduceLT, Int.reduceLE, Int.reduceEq, Int.reduceToNat, eq_self, true_and, and_true, true_or, or_true, false_or, or_false, if_true, if_false, not_true_eq_false, not_false_eq_true, and_self, ne_eq, b_W_sound_234, sCt_2, sCt_3, sCt_4, sCt_5, hdr, c', cf, cf1]
        (repeat' (first | apply And.intro | split)) <;> first | omega | exact hQ
      · have cf1 : ¬ sFault 1 X = -99 := fun q => cf (hff.2 q)
        simp only [xm_W_sound, b_W_sound_0, P_W_sound_58, b_W_sound_58, P_W_sound_60, b_W_sound_60, P_W_sound_139, b_W_sound_139, P_W_sound_140, b_W_sound_140, P_W_sound_155, b_W_sound_155, P_W_sound_156, b_W_sound_156, P_W_sound_172, b_W_sound_172, P_W_sound_180, b_W_sound_180, P_W_sound_226, b_W_sound_226, P_W_sound_228, b_W_sound_228, P_W_sound_286, b_W_sound_286, P_W_sound_288, b_W_sound_288, P_W_sound_305, b_W_sound_305, P_W_sound_306, b_W_sound_306, P_W_sound_320, b_W_sound_320, P_W_sound_321, b_W_sound_321, P_W_sound_328, b_W_sound_328, P_W_sound_329, b_W_sound_329, xp_aln0, xp_bipush, xp_goto, xp_iadd, xp_iceq, xp_icge, xp_icgt, xp_iclt, xp_icne, xp_iconst, xp_il4, xp_il5, xp_il6, xp_il7, xp_il8, xp_iln1, xp_iln2, xp_iln3, xp_inc2, xp_inc6, xp_iret, xp_is4, xp_is5, xp_is6, xp_is7, xp_is8, xp_isn1, xp_isn2, xp_isn3, xp_izlt, xp_izne, xp_nop, xp_zret, xv_count, xv_drawnSum, xv_fault, xv_frame, xv_number, xv_segment, xv_wrongness, wrI_row, cpI_row, row_s, row_n, row_ss, row_sw, upd_s, upd_n, ad_inj, ad_z, ad_z2, Nat.reduceEqDiff, reduceCtorEq, List.cons_append, List.nil_append, Option.toList_some, Option.toList_none, Int.toNat_natCast, List.length_cons, List.length_nil, Int.cast_ofNat_Int, Nat.reduceAdd, Nat.reduceLeDiff, Nat.reduceLT, Nat.reduceMul, Int.reduceAdd, Int.reduceSub, Int.reduceMul, Int.reduceNeg, Int.reduceLT, Int.reduceLE, Int.reduceEq, Int.reduceToNat, eq_self, true_and, and_true, true_or, or_true, false_or, or_false, if_true, if_false, not_true_eq_false, not_false_eq_true, and_self, ne_eq, b_W_sound_234, sCt_2, sCt_3, sCt_4, sCt_5, hdr, c', cf, cf1]
        (repeat' (first | apply And.intro | split)) <;> first | omega | exact hQ
  have l2 := sound_2 (zt := zt) (L := L) (g := g) (ρ := ρ) hW (o7 := none) (o8 := none) end1 (X.1.1 8 0).toNat 0 none none (by omega)
  have l1 := sound_1 (zt := zt) (L := L) (g := g) (ρ := ρ) hW (Q := Q) (o3 := none) (o4 := none) (o5 := none) (o6 := none) (o7 := none) (o8 := none) (by
    rw [P_W_sound_75]
    simp only [xm_W_sound, b_W_sound_0, P_W_sound_58, b_W_sound_58, P_W_sound_60, b_W_sound_60, P_W_sound_139, b_W_sound_139, P_W_sound_140, b_W_sound_140, P_W_sound_155, b_W_sound_155, P_W_sound_156, b_W_sound_156, P_W_sound_172, b_W_sound_172, P_W_sound_180, b_W_sound_180, P_W_sound_226, b_W_sound_226, P_W_sound_228, b_W_sound_228, P_W_sound_286, b_W_sound_286, P_W_sound_288, b_W_sound_288, P_W_sound_305, b_W_sound_305, P_W_sound_306, b_W_sound_306, P_W_sound_320, b_W_sound_320, P_W_sound_321, b_W_sound_321, P_W_sound_328, b_W_sound_328, P_W_sound_329, b_W_sound_329, xp_aln0, xp_bipush, xp_goto, xp_iadd, xp_iceq, xp_icge, xp_icgt, xp_iclt, xp_icne, xp_iconst, xp_il4, xp_il5, xp_il6, xp_il7, xp_il8, xp_iln1, xp_iln2, xp_iln3, xp_inc2, xp_inc6, xp_iret, xp_is4, xp_is5, xp_is6, xp_is7, xp_is8, xp_isn1, xp_isn2, xp_isn3, xp_izlt, xp_izne, xp_nop, xp_zret, xv_count, xv_drawnSum, xv_fault, xv_frame, xv_number, xv_segment, xv_wrongness, wrI_row, cpI_row, row_s, row_n, row_ss, row_sw, upd_s, upd_n, ad_inj, ad_z, ad_z2, Nat.reduceEqDiff, reduceCtorEq, List.cons_append, List.nil_append, Option.toList_some, Option.toList_none, Int.toNat_natCast, List.length_cons, List.length_nil, Int.cast_ofNat_Int, Nat.reduceAdd, Nat.reduceLeDiff, Nat.reduceLT, Nat.reduceMul, Int.reduceAdd, Int.reduceSub, Int.reduceMul, Int.reduceNeg, Int.reduceLT, Int.reduceLE, Int.reduceEq, Int.reduceToNat, eq_self, true_and, and_true, true_or, or_true, false_or, or_false, if_true, if_false, not_true_eq_false, not_false_eq_true, and_self, ne_eq, b_W_sound_75]
    exact l2) (X.1.1 5 0).toNat 0 (by omega)
  simp only [xm_W_sound, b_W_sound_0, P_W_sound_58, b_W_sound_58, P_W_sound_60, b_W_sound_60, P_W_sound_139, b_W_sound_139, P_W_sound_140, b_W_sound_140, P_W_sound_155, b_W_sound_155, P_W_sound_156, b_W_sound_156, P_W_sound_172, b_W_sound_172, P_W_sound_180, b_W_sound_180, P_W_sound_226, b_W_sound_226, P_W_sound_228, b_W_sound_228, P_W_sound_286, b_W_sound_286, P_W_sound_288, b_W_sound_288, P_W_sound_305, b_W_sound_305, P_W_sound_306, b_W_sound_306, P_W_sound_320, b_W_sound_320, P_W_sound_321, b_W_sound_321, P_W_sound_328, b_W_sound_328, P_W_sound_329, b_W_sound_329, xp_aln0, xp_bipush, xp_goto, xp_iadd, xp_iceq, xp_icge, xp_icgt, xp_iclt, xp_icne, xp_iconst, xp_il4, xp_il5, xp_il6, xp_il7, xp_il8, xp_iln1, xp_iln2, xp_iln3, xp_inc2, xp_inc6, xp_iret, xp_is4, xp_is5, xp_is6, xp_is7, xp_is8, xp_isn1, xp_isn2, xp_isn3, xp_izlt, xp_izne, xp_nop, xp_zret, xv_count, xv_drawnSum, xv_fault, xv_frame, xv_number, xv_segment, xv_wrongness, wrI_row, cpI_row, row_s, row_n, row_ss, row_sw, upd_s, upd_n, ad_inj, ad_z, ad_z2, Nat.reduceEqDiff, reduceCtorEq, List.cons_append, List.nil_append, Option.toList_some, Option.toList_none, Int.toNat_natCast, List.length_cons, List.length_nil, Int.cast_ofNat_Int, Nat.reduceAdd, Nat.reduceLeDiff, Nat.reduceLT, Nat.reduceMul, Int.reduceAdd, Int.reduceSub, Int.reduceMul, Int.reduceNeg, Int.reduceLT, Int.reduceLE, Int.reduceEq, Int.reduceToNat, eq_self, true_and, and_true, true_or, or_true, false_or, or_false, if_true, if_false, not_true_eq_false, not_false_eq_true, and_self, ne_eq]
  exact l1
end XSO
