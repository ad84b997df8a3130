/-! the law's methods finishes and refuses -/
section XFR
variable {zt : Nat → Nat} {L : Nat} {g : Nat → Nat → Int} {ρ : Ri} {X : XV}
theorem rec_undo {Y : XV} (hW : WFX X) (h : Y.2 = (recX X).2) : sUndo Y = (((recX X).2.1 : Int) - 1, (X.1, (recX X).2.1 - 1, (recX X).2.2)) ∧ 1 ≤ (recX X).2.1 ∧ (recX X).2.1 ≤ 5 := by
  have h5 := hW.2.1
  have e1 : (recX X).2.1 = if X.2.1 = 5 then 5 else X.2.1 + 1 := rfl
  have hb : 1 ≤ (recX X).2.1 ∧ (recX X).2.1 ≤ 5 := by
    rw [e1]
    split <;> omega
  have e2 : (recX X).2.2.1 ((recX X).2.1 - 1) = X.1 := by
    rw [e1]
    show (if X.2.1 = 5 then (if (if X.2.1 = 5 then 5 else X.2.1 + 1) - 1 < 4 then X.2.2.1 ((if X.2.1 = 5 then 5 else X.2.1 + 1) - 1 + 1) else X.1) else (if (if X.2.1 = 5 then 5 else X.2.1 + 1) - 1 = X.2.1 then X.1 else X.2.2.1 ((if X.2.1 = 5 then 5 else X.2.1 + 1) - 1))) = X.1
    by_cases c : X.2.1 = 5
    · rw [if_pos c, if_pos c, if_neg (by omega)]
    · rw [if_neg c, if_neg c, if_pos (by omega)]
  refine ⟨?_, hb⟩
  unfold sUndo
  rw [h, if_neg (by omega), e2]
theorem act_undo (hW : WFX X) (U : Vw) : 0 ≤ (sUndo (actX X U)).1 ∧ (sUndo (actX X U)).1 ≤ 4 ∧ (sUndo (actX X U)).2.1 = X.1 := by
  obtain ⟨h1, h2, h3⟩ := rec_undo (Y := actX X U) hW rfl
  rw [h1]
  refine ⟨?_, ?_, rfl⟩
  · show (0 : Int) ≤ ((recX X).2.1 : Int) - 1
    omega
  · show ((recX X).2.1 : Int) - 1 ≤ 4
    omega
theorem x_finishes (hW : WFX X) {Q : Option AV → XV → Prop} (hQ : ∀ X', WFX X' → Q (some (AI 1)) X') : XpM zt L (g, ρ) 89 [AR L] X Q := by
  have hU := hW.1.1
  have hb := ls_r hU
  have b8 := hU.2.2.2.2.2.2.1
  by_cases c : lsU X.1.1 (X.1.1 4 0) = -99
  · have qf : sFinish X = (-2, X) := if_pos c
    have q := hQ X hW
    simp only [xm_W_finishes, b_W_finishes_0, P_W_finishes_27, b_W_finishes_27, P_W_finishes_28, b_W_finishes_28, P_W_finishes_29, b_W_finishes_29, P_W_finishes_63, b_W_finishes_63, P_W_finishes_64, b_W_finishes_64, xp_aln0, xp_bipush, xp_goto, xp_icne, xp_iconst, xp_iln1, xp_iln2, xp_iret, xp_isn1, xp_isn2, xp_izlt, xp_nop, xp_zret, xv_drawnSum, xv_fault, xv_finish, xv_least, xv_undo, wrI_row, cpI_row, row_s, row_n, row_ss, row_sw, upd_s, upd_n, ad_inj, ad_z, ad_z2, Nat.reduceEqDiff, reduceCtorEq, List.cons_append, List.nil_append, Option.toList_some, Option.toList_none, Int.toNat_natCast, List.length_cons, List.length_nil, Int.cast_ofNat_Int, Nat.reduceAdd, Nat.reduceLeDiff, Nat.reduceLT, Nat.reduceMul, Int.reduceAdd, Int.reduceSub, Int.reduceMul, Int.reduceNeg, Int.reduceLT, Int.reduceLE, Int.reduceEq, Int.reduceToNat, eq_self, true_and, and_true, true_or, or_true, false_or, or_false, if_true, if_false, not_true_eq_false, not_false_eq_true, and_self, ne_eq, sLs_0, c, qf]
    (repeat' (first | apply And.intro | split)) <;> first | omega | exact q
  · have qf : sFinish X = (lsU X.1.1 (X.1.1 4 0), actX X (finU X.1.1)) := if_neg c
    obtain ⟨f1, f2, f3⟩ := fin_ok hU c
    have hW1 : WFX (actX X (finU X.1.1)) := actX_wf hW (finU_wf hU)
    have q1 : sFault 0 (actX X (finU X.1.1)) = -99 := (sFl_none (w := 0) (by omega)).2 f1
    have q2 : sDrawnSum (actX X (finU X.1.1)) = lsU X.1.1 (X.1.1 4 0) := by
      rw [sDr_eq hW1.1.1, if_neg]
      · exact f2
      · have := (cntS_all (r := (actX X (finU X.1.1)).1.1 10) (X.1.1 8 0).toNat).2 f3
        show ¬ cntS (-1) ((actX X (finU X.1.1)).1.1 10) (X.1.1 8 0).toNat < X.1.1 8 0
        omega
    obtain ⟨u1, u2, u3⟩ := act_undo hW (finU X.1.1)
    have q := hQ _ (sUndo_wf hW1)
    have u1' : ¬ (sUndo (actX X (finU X.1.1))).1 < 0 := by omega
    simp only [xm_W_finishes, b_W_finishes_0, P_W_finishes_27, b_W_finishes_27, P_W_finishes_28, b_W_finishes_28, P_W_finishes_29, b_W_finishes_29, P_W_finishes_63, b_W_finishes_63, P_W_finishes_64, b_W_finishes_64, xp_aln0, xp_bipush, xp_goto, xp_icne, xp_iconst, xp_iln1, xp_iln2, xp_iret, xp_isn1, xp_isn2, xp_izlt, xp_nop, xp_zret, xv_drawnSum, xv_fault, xv_finish, xv_least, xv_undo, wrI_row, cpI_row, row_s, row_n, row_ss, row_sw, upd_s, upd_n, ad_inj, ad_z, ad_z2, Nat.reduceEqDiff, reduceCtorEq, List.cons_append, List.nil_append, Option.toList_some, Option.toList_none, Int.toNat_natCast, List.length_cons, List.length_nil, Int.cast_ofNat_Int, Nat.reduceAdd, Nat.reduceLeDiff, Nat.reduceLT, Nat.reduceMul, Int.reduceAdd, Int.reduceSub, Int.reduceMul, Int.reduceNeg, Int.reduceLT, Int.reduceLE, Int.reduceEq, Int.reduceToNat, eq_self, true_and, and_true, true_or, or_true, false_or, or_false, if_true, if_false, not_true_eq_false, not_false_eq_true, and_self, ne_eq, sLs_0, c, qf, q1, q2, u1']
    (repeat' (first | apply And.intro | split)) <;> first | omega | exact q
set_option maxRecDepth 100000 in
set_option maxHeartbeats 4000000 in
theorem x_refuses (hW : WFX X) (Q : Option AV → XV → Prop) : XpM zt L (g, ρ) 90 [AR L] X Q ↔ Q (some (AI 1)) X := by
  refine xpm_iff (fun Q hQ => ?_) Q
  have hU := hW.1.1
  have b0 := hU.1
  have b5 := hU.2.2.2.2.1
  have b8 := hU.2.2.2.2.2.2.1
  have r0 : sAddMouth 10 0 X = (-1, X) := if_neg (by omega)
  have r1 : sAddMouth 0 (-1) X = (-1, X) := if_neg (by omega)
  have r2 : sSetMouth (X.1.1 0 0) 0 0 X = (-1, X) := if_neg (by omega)
  have r3 : sSetMouth 0 10 0 X = (-1, X) := if_neg (by omega)
  have r4 : sSetSound 9 0 0 X = (-1, X) := if_neg (by omega)
  have r5 : sSetSound 0 4 0 X = (-1, X) := if_neg (by omega)
  have r6 : sSetNumber 5 1 X = (-1, X) := if_neg (by omega)
  have r7 : sInsert (X.1.1 5 0 + 1) 0 1 X = (-1, X) := if_neg (by omega)
  have r8 : sInsert 0 10 1 X = (-1, X) := if_neg (by omega)
  have r9 : sInsert 0 0 21 X = (-1, X) := if_neg (by omega)
  have r10 : sRemove (X.1.1 5 0) X = (-1, X) := if_neg (by omega)
  have r11 : sStretch (X.1.1 5 0) 1 X = (-1, X) := if_neg (by omega)
  have r12 : sPut 9 (X.1.1 8 0) 0 X = (-1, X) := if_neg (by omega)
  have r13 : sPut 9 (-1) 0 X = (-1, X) := if_neg (by omega)
  have r14 : sPut 10 (X.1.1 8 0) 0 X = (-1, X) := if_neg (by omega)
  have r15 : sBetween 0 (X.1.1 8 0) X = (-1, X) := if_neg (by omega)
  have r16 : sBreathe 0 X = (-1, X) := if_neg (by omega)
  have r17 : sTake 2 X = (-1, X) := if_neg (by omega)
  have r18 : sRestore (-1) X = (-1, X) := if_neg (by omega)
  have r19 : sAppend 0 X = (-1, X) := if_neg (by omega)
  have r20 : sMouth (X.1.1 0 0) 0 X = -1 := if_neg (by omega)
  have r21 : sJump (X.1.1 0 0) 0 X = -1 := if_neg (by omega)
  have r22 : sSound 0 4 X = -1 := if_neg (by omega)
  have r23 : sNumber (-1) X = -1 := if_neg (by omega)
  have r24 : sSegment (X.1.1 5 0) 0 X = -1 := if_neg (by omega)
  have r25 : sFrame (X.1.1 8 0) 0 X = -1 := if_neg (by omega)
  have r26 : sWrong (X.1.1 8 0) 0 X = -1 := if_neg (by omega)
  have r27 : sLeast 2 X = -1 := if_neg (by omega)
  have r28 : sLeastWith (X.1.1 8 0) 0 X = -1 := if_neg (by omega)
  have r29 : sWhy (X.1.1 8 0) X = -1 := if_neg (by omega)
  have r30 : sFault 2 X = -1 := if_neg (by omega)
  have r31 : sSpeedFor (-1) X = -1 := if_neg (by omega)
  have r32 : sNearest 0 10 X = -1 := if_neg (by omega)
  have z1 : sSetSound 0 3 4 X = (-1, X) := if_neg (by rw [if_pos rfl]; omega)
  have z2 : sSetNumber 0 0 X = (-1, X) := if_neg (by unfold loN hiN; rw [if_neg (by omega)]; omega)
  have z3 : sSetNumber 1 4 X = (-1, X) := if_neg (by unfold loN hiN; rw [if_neg (show ¬ (1 : Int) = 0 by omega), if_pos rfl]; omega)
  have z4 : sCount 9 X = -1 := rfl
  simp only [xm_W_refuses, b_W_refuses_0, P_W_refuses_409, b_W_refuses_409, P_W_refuses_410, b_W_refuses_410, P_W_refuses_440, b_W_refuses_440, P_W_refuses_441, b_W_refuses_441, xp_aln0, xp_bipush, xp_goto, xp_iadd, xp_icne, xp_iconst, xp_il4, xp_il5, xp_iln1, xp_iln2, xp_iln3, xp_iret, xp_is4, xp_is5, xp_isn1, xp_isn2, xp_isn3, xp_izeq, xp_nop, xp_zret, xv_addMouth, xv_append, xv_between, xv_breathe, xv_count, xv_draw, xv_fault, xv_frame, xv_insert, xv_jump, xv_least, xv_leastWith, xv_mouth, xv_nearest, xv_number, xv_pin, xv_remove, xv_restore, xv_segment, xv_setMouth, xv_setNumber, xv_setSound, xv_sound, xv_speedFor, xv_stretch, xv_take, xv_why, xv_wrongness, wrI_row, cpI_row, row_s, row_n, row_ss, row_sw, upd_s, upd_n, ad_inj, ad_z, ad_z2, Nat.reduceEqDiff, reduceCtorEq, List.cons_append, List.nil_append, Option.toList_some, Option.toList_none, Int.toNat_natCast, List.length_cons, List.length_nil, Int.cast_ofNat_Int, Nat.reduceAdd, Nat.reduceLeDiff, Nat.reduceLT, Nat.reduceMul, Int.reduceAdd, Int.reduceSub, Int.reduceMul, Int.reduceNeg, Int.reduceLT, Int.reduceLE, Int.reduceEq, Int.reduceToNat, eq_self, true_and, and_true, true_or, or_true, false_or, or_false, if_true, if_false, not_true_eq_false, not_false_eq_true, and_self, ne_eq, sCt_0, sCt_1, sCt_2, sCt_7, r0, r1, r2, r3, r4, r5, r6, r7, r8, r9, r10, r11, r12, r13, r14, r15, r16, r17, r18, r19, r20, r21, r22, r23, r24, r25, r26, r27, r28, r29, r30, r31, r32, z1, z2, z3, z4]
  (repeat' (first | apply And.intro | split)) <;> first | omega | exact hQ
end XFR
