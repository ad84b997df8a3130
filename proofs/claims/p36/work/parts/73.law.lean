/-! the law: over states it answers 1 -/
section XLA
variable {zt : Nat → Nat} {L s : Nat} {g : Nat → Nat → Int} {ρ : Ri} {X : XV}
theorem law_40 (hs : kdI ρ s 4) (hn : lnA ρ s ≤ 2048) {Q : Option AV → XV → Prop} (hQ : ∀ X', Q (some (AI 1)) X') :
    ∀ (d n : Nat) (X : XV) (o3 o4 : Option AV), n + d = 40 → WFX X → Xp zt L (g, ρ) 95 (P 95 123) [some (AR s), some (AR L), some (AI n), o3, o4] [] X Q := by
  intro d
  induction d with
  | zero =>
    intro n X o3 o4 h hW
    have e : (n : Int) = 40 := by omega
    have q := hQ X
    rw [e, P_W_law_123]
    simp only [b_W_law_0, P_W_law_66, b_W_law_66, P_W_law_68, b_W_law_68, P_W_law_115, b_W_law_115, P_W_law_121, b_W_law_121, P_W_law_189, b_W_law_189, P_W_law_191, b_W_law_191, P_W_law_197, b_W_law_197, x_low, xp_aln0, xp_aln1, xp_bipush, xp_cs1, xp_cs2, xp_cs3, xp_goto, xp_iadd, xp_iceq, xp_icge, xp_icne, xp_iconst, xp_il4, xp_iln2, xp_iln3, xp_imul, xp_inc2, xp_irem, xp_iret, xp_is4, xp_ishr, xp_isn2, xp_isn3, xp_izeq, xp_izne, xp_nop, xp_zret, xv_addMouth, xv_load, xv_restore, xv_undo, wrI_row, cpI_row, row_s, row_n, row_ss, row_sw, upd_s, upd_n, ad_inj, ad_z, ad_z2, Nat.reduceEqDiff, reduceCtorEq, List.cons_append, List.nil_append, Option.toList_some, Option.toList_none, Int.toNat_natCast, List.length_cons, List.length_nil, Int.cast_ofNat_Int, Nat.reduceAdd, Nat.reduceLeDiff, Nat.reduceLT, Nat.reduceMul, Int.reduceAdd, Int.reduceSub, Int.reduceMul, Int.reduceNeg, Int.reduceLT, Int.reduceLE, Int.reduceEq, Int.reduceToNat, eq_self, true_and, and_true, true_or, or_true, false_or, or_false, if_true, if_false, not_true_eq_false, not_false_eq_true, and_self, ne_eq, b_W_law_123, x_refuses hW]
    (repeat' (first | apply And.intro | split)) <;> first | omega | exact q
  | succ d ih =>
    intro n X o3 o4 h hW
    have hn40 : ¬ (40 : Int) ≤ (n : Int) := by omega
    have e3 : (n : Int) + 1 = ((n + 1 : Nat) : Int) := by omega
    rw [P_W_law_123]
    simp only [b_W_law_0, P_W_law_66, b_W_law_66, P_W_law_68, b_W_law_68, P_W_law_115, b_W_law_115, P_W_law_121, b_W_law_121, x_low, xp_aln0, xp_aln1, xp_bipush, xp_cs1, xp_cs2, xp_cs3, xp_goto, xp_iadd, xp_iceq, xp_icge, xp_icne, xp_iconst, xp_il4, xp_iln2, xp_iln3, xp_imul, xp_inc2, xp_irem, xp_iret, xp_is4, xp_ishr, xp_isn2, xp_isn3, xp_izeq, xp_izne, xp_nop, xp_zret, xv_addMouth, xv_load, xv_restore, xv_undo, wrI_row, cpI_row, row_s, row_n, row_ss, row_sw, upd_s, upd_n, ad_inj, ad_z, ad_z2, Nat.reduceEqDiff, reduceCtorEq, List.cons_append, List.nil_append, Option.toList_some, Option.toList_none, Int.toNat_natCast, List.length_cons, List.length_nil, Int.cast_ofNat_Int, Nat.reduceAdd, Nat.reduceLeDiff, Nat.reduceLT, Nat.reduceMul, Int.reduceAdd, Int.reduceSub, Int.reduceMul, Int.reduceNeg, Int.reduceLT, Int.reduceLE, Int.reduceEq, Int.reduceToNat, eq_self, true_and, and_true, true_or, or_true, false_or, or_false, if_true, if_false, not_true_eq_false, not_false_eq_true, and_self, ne_eq, b_W_law_123, hn40, x_lot (zt := zt) (L := L) (g := g) (X := X) hs hn (k := 2 * (n : Int)) (by omega), x_lot (zt := zt) (L := L) (g := g) (X := X) hs hn (k := 2 * (n : Int) + 1) (by omega)]
    (repeat' (first | apply And.intro | split)) <;> first | omega | skip
    refine x_acts hW (fun X1 hW1 => ?_)
    have i1 := ih (n + 1) X1
    by_cases c : (n : Int) % 6 = 5
    · have ct := eq_true c
      simp only [b_W_law_0, P_W_law_66, b_W_law_66, P_W_law_68, b_W_law_68, P_W_law_115, b_W_law_115, P_W_law_121, b_W_law_121, P_W_law_189, b_W_law_189, P_W_law_191, b_W_law_191, P_W_law_197, b_W_law_197, x_low, xp_aln0, xp_aln1, xp_bipush, xp_cs1, xp_cs2, xp_cs3, xp_goto, xp_iadd, xp_iceq, xp_icge, xp_icne, xp_iconst, xp_il4, xp_iln2, xp_iln3, xp_imul, xp_inc2, xp_irem, xp_iret, xp_is4, xp_ishr, xp_isn2, xp_isn3, xp_izeq, xp_izne, xp_nop, xp_zret, xv_addMouth, xv_load, xv_restore, xv_undo, wrI_row, cpI_row, row_s, row_n, row_ss, row_sw, upd_s, upd_n, ad_inj, ad_z, ad_z2, Nat.reduceEqDiff, reduceCtorEq, List.cons_append, List.nil_append, Option.toList_some, Option.toList_none, Int.toNat_natCast, List.length_cons, List.length_nil, Int.cast_ofNat_Int, Nat.reduceAdd, Nat.reduceLeDiff, Nat.reduceLT, Nat.reduceMul, Int.reduceAdd, Int.reduceSub, Int.reduceMul, Int.reduceNeg, Int.reduceLT, Int.reduceLE, Int.reduceEq, Int.reduceToNat, eq_self, true_and, and_true, true_or, or_true, false_or, or_false, if_true, if_false, not_true_eq_false, not_false_eq_true, and_self, ne_eq, x_sound hW1, x_plan hW1, ct]
      (repeat' (first | apply And.intro | split)) <;> first | omega | skip
      refine x_finishes hW1 (fun X2 hW2 => ?_)
      have i2 := ih (n + 1) X2 (some (AI (lotI g ρ s (2 * (n : Int))))) (some (AI (lotI g ρ s (2 * (n : Int) + 1)))) (by omega) hW2
      rw [← e3] at i2
      simp only [b_W_law_0, P_W_law_66, b_W_law_66, P_W_law_68, b_W_law_68, P_W_law_115, b_W_law_115, P_W_law_121, b_W_law_121, P_W_law_189, b_W_law_189, P_W_law_191, b_W_law_191, P_W_law_197, b_W_law_197, x_low, xp_aln0, xp_aln1, xp_bipush, xp_cs1, xp_cs2, xp_cs3, xp_goto, xp_iadd, xp_iceq, xp_icge, xp_icne, xp_iconst, xp_il4, xp_iln2, xp_iln3, xp_imul, xp_inc2, xp_irem, xp_iret, xp_is4, xp_ishr, xp_isn2, xp_isn3, xp_izeq, xp_izne, xp_nop, xp_zret, xv_addMouth, xv_load, xv_restore, xv_undo, wrI_row, cpI_row, row_s, row_n, row_ss, row_sw, upd_s, upd_n, ad_inj, ad_z, ad_z2, Nat.reduceEqDiff, reduceCtorEq, List.cons_append, List.nil_append, Option.toList_some, Option.toList_none, Int.toNat_natCast, List.length_cons, List.length_nil, Int.cast_ofNat_Int, Nat.reduceAdd, Nat.reduceLeDiff, Nat.reduceLT, Nat.reduceMul, Int.reduceAdd, Int.reduceSub, Int.reduceMul, Int.reduceNeg, Int.reduceLT, Int.reduceLE, Int.reduceEq, Int.reduceToNat, eq_self, true_and, and_true, true_or, or_true, false_or, or_false, if_true, if_false, not_true_eq_false, not_false_eq_true, and_self, ne_eq]
      (repeat' (first | apply And.intro | split)) <;> first | omega | exact i2
    · have i2 := i1 (some (AI (lotI g ρ s (2 * (n : Int))))) (some (AI (lotI g ρ s (2 * (n : Int) + 1)))) (by omega) hW1
      rw [← e3] at i2
      simp only [b_W_law_0, P_W_law_66, b_W_law_66, P_W_law_68, b_W_law_68, P_W_law_115, b_W_law_115, P_W_law_121, b_W_law_121, P_W_law_189, b_W_law_189, P_W_law_191, b_W_law_191, P_W_law_197, b_W_law_197, x_low, xp_aln0, xp_aln1, xp_bipush, xp_cs1, xp_cs2, xp_cs3, xp_goto, xp_iadd, xp_iceq, xp_icge, xp_icne, xp_iconst, xp_il4, xp_iln2, xp_iln3, xp_imul, xp_inc2, xp_irem, xp_iret, xp_is4, xp_ishr, xp_isn2, xp_isn3, xp_izeq, xp_izne, xp_nop, xp_zret, xv_addMouth, xv_load, xv_restore, xv_undo, wrI_row, cpI_row, row_s, row_n, row_ss, row_sw, upd_s, upd_n, ad_inj, ad_z, ad_z2, Nat.reduceEqDiff, reduceCtorEq, List.cons_append, List.nil_append, Option.toList_some, Option.toList_none, Int.toNat_natCast, List.length_cons, List.length_nil, Int.cast_ofNat_Int, Nat.reduceAdd, Nat.reduceLeDiff, Nat.reduceLT, Nat.reduceMul, Int.reduceAdd, Int.reduceSub, Int.reduceMul, Int.reduceNeg, Int.reduceLT, Int.reduceLE, Int.reduceEq, Int.reduceToNat, eq_self, true_and, and_true, true_or, or_true, false_or, or_false, if_true, if_false, not_true_eq_false, not_false_eq_true, and_self, ne_eq, x_sound hW1, c]
      (repeat' (first | apply And.intro | split)) <;> first | omega | exact i2
theorem law_3 (hs : kdI ρ s 4) (hn : lnA ρ s ≤ 2048) {Q : Option AV → XV → Prop} (hQ : ∀ X', Q (some (AI 1)) X') :
    ∀ (d k : Nat) (X : XV) (o3 o4 : Option AV), k + d = 3 → WFX X → X.1.1 0 0 = (k : Int) + 1 → Xp zt L (g, ρ) 95 (P 95 70) [some (AR s), some (AR L), some (AI k), o3, o4] [] X Q := by
  intro d
  induction d with
  | zero =>
    intro k X o3 o4 h hW hM
    have e : (k : Int) = 3 := by omega
    have l := law_40 (zt := zt) (L := L) (g := g) hs hn hQ 40 0 X o3 o4 (by omega) hW
    have hz : ((0 : Nat) : Int) = 0 := rfl
    rw [hz] at l
    rw [e, P_W_law_70]
    simp only [b_W_law_0, P_W_law_66, b_W_law_66, P_W_law_68, b_W_law_68, P_W_law_115, b_W_law_115, P_W_law_121, b_W_law_121, P_W_law_189, b_W_law_189, P_W_law_191, b_W_law_191, P_W_law_197, b_W_law_197, x_low, xp_aln0, xp_aln1, xp_bipush, xp_cs1, xp_cs2, xp_cs3, xp_goto, xp_iadd, xp_iceq, xp_icge, xp_icne, xp_iconst, xp_il4, xp_iln2, xp_iln3, xp_imul, xp_inc2, xp_irem, xp_iret, xp_is4, xp_ishr, xp_isn2, xp_isn3, xp_izeq, xp_izne, xp_nop, xp_zret, xv_addMouth, xv_load, xv_restore, xv_undo, wrI_row, cpI_row, row_s, row_n, row_ss, row_sw, upd_s, upd_n, ad_inj, ad_z, ad_z2, Nat.reduceEqDiff, reduceCtorEq, List.cons_append, List.nil_append, Option.toList_some, Option.toList_none, Int.toNat_natCast, List.length_cons, List.length_nil, Int.cast_ofNat_Int, Nat.reduceAdd, Nat.reduceLeDiff, Nat.reduceLT, Nat.reduceMul, Int.reduceAdd, Int.reduceSub, Int.reduceMul, Int.reduceNeg, Int.reduceLT, Int.reduceLE, Int.reduceEq, Int.reduceToNat, eq_self, true_and, and_true, true_or, or_true, false_or, or_false, if_true, if_false, not_true_eq_false, not_false_eq_true, and_self, ne_eq, b_W_law_70]
    (repeat' (first | apply And.intro | split)) <;> first | omega | exact l
  | succ d ih =>
    intro k X o3 o4 h hW hM
    have hk3 : ¬ (3 : Int) ≤ (k : Int) := by omega
    have e3 : (k : Int) + 1 = ((k + 1 : Nat) : Int) := by omega
    generalize hl : lotI g ρ s (90 + (k : Int)) = v
    have f1 := lowI_b (v := v) (n := 10) (by omega)
    have f2 := lowI_b (v := shrI v 4) (n := 10) (by omega)
    have e : sAddMouth (lowI v 10) (lowI (shrI v 4) 10) X = ((k : Int) + 1, actX X (addV X.1.1 (lowI v 10) (lowI (shrI v 4) 10))) := by
      unfold sAddMouth
      rw [if_pos (by omega), if_pos (by omega), hM]
    have hwf := sAddMouth_wf (o := lowI v 10) (w := lowI (shrI v 4) 10) hW
    rw [e] at hwf
    have g0 : (actX X (addV X.1.1 (lowI v 10) (lowI (shrI v 4) 10))).1.1 0 0 = X.1.1 0 0 + 1 := rfl
    have i1 := ih (k + 1) _ o3 o4 (by omega) hwf (by rw [g0, hM]; omega)
    rw [← e3] at i1
    rw [P_W_law_70]
    simp only [b_W_law_0, P_W_law_66, b_W_law_66, P_W_law_68, b_W_law_68, P_W_law_115, b_W_law_115, P_W_law_121, b_W_law_121, P_W_law_189, b_W_law_189, P_W_law_191, b_W_law_191, P_W_law_197, b_W_law_197, x_low, xp_aln0, xp_aln1, xp_bipush, xp_cs1, xp_cs2, xp_cs3, xp_goto, xp_iadd, xp_iceq, xp_icge, xp_icne, xp_iconst, xp_il4, xp_iln2, xp_iln3, xp_imul, xp_inc2, xp_irem, xp_iret, xp_is4, xp_ishr, xp_isn2, xp_isn3, xp_izeq, xp_izne, xp_nop, xp_zret, xv_addMouth, xv_load, xv_restore, xv_undo, wrI_row, cpI_row, row_s, row_n, row_ss, row_sw, upd_s, upd_n, ad_inj, ad_z, ad_z2, Nat.reduceEqDiff, reduceCtorEq, List.cons_append, List.nil_append, Option.toList_some, Option.toList_none, Int.toNat_natCast, List.length_cons, List.length_nil, Int.cast_ofNat_Int, Nat.reduceAdd, Nat.reduceLeDiff, Nat.reduceLT, Nat.reduceMul, Int.reduceAdd, Int.reduceSub, Int.reduceMul, Int.reduceNeg, Int.reduceLT, Int.reduceLE, Int.reduceEq, Int.reduceToNat, eq_self, true_and, and_true, true_or, or_true, false_or, or_false, if_true, if_false, not_true_eq_false, not_false_eq_true, and_self, ne_eq, b_W_law_70, hk3, x_lot (zt := zt) (L := L) (g := g) (X := X) hs hn (k := 90 + (k : Int)) (by omega), hl, e]
    (repeat' (first | apply And.intro | split)) <;> first | omega | exact i1
/-- the law behind the making of the object -/
theorem law_x (hs : kdI ρ s 4) (hn : lnA ρ s ≤ 2048) {Q : Option AV → XV → Prop} (hQ : ∀ X', Q (some (AI 1)) X') : Xp zt L (g, ρ) 95 (b_W_law_0.drop 4) [some (AR s), some (AR L), none, none, none] [] iniX Q := by
  have r1 : sUndo iniX = (-2, iniX) := rfl
  have r2 : sRestore 0 iniX = (-2, iniX) := rfl
  have r3 : sRestore 1 iniX = (-2, iniX) := rfl
  have r4 : sLoad iniX = (0, clX (actX iniX iniV)) := rfl
  have w1 := sLoad_wf iniX_wf
  rw [r4] at w1
  have r5 : sUndo (clX (actX iniX iniV)) = (0, (iniS, 0, (recX iniX).2.2)) := rfl
  have w2 := sUndo_wf w1
  rw [r5] at w2
  have l := law_3 (zt := zt) (L := L) (g := g) hs hn hQ 3 0 (iniS, 0, (recX iniX).2.2) none none (by omega) w2 rfl
  have hz : ((0 : Nat) : Int) = 0 := rfl
  rw [hz] at l
  unfold b_W_law_0
  simp only [List.drop]
  simp only [b_W_law_0, P_W_law_66, b_W_law_66, P_W_law_68, b_W_law_68, P_W_law_115, b_W_law_115, P_W_law_121, b_W_law_121, P_W_law_189, b_W_law_189, P_W_law_191, b_W_law_191, P_W_law_197, b_W_law_197, x_low, xp_aln0, xp_aln1, xp_bipush, xp_cs1, xp_cs2, xp_cs3, xp_goto, xp_iadd, xp_iceq, xp_icge, xp_icne, xp_iconst, xp_il4, xp_iln2, xp_iln3, xp_imul, xp_inc2, xp_irem, xp_iret, xp_is4, xp_ishr, xp_isn2, xp_isn3, xp_izeq, xp_izne, xp_nop, xp_zret, xv_addMouth, xv_load, xv_restore, xv_undo, wrI_row, cpI_row, row_s, row_n, row_ss, row_sw, upd_s, upd_n, ad_inj, ad_z, ad_z2, Nat.reduceEqDiff, reduceCtorEq, List.cons_append, List.nil_append, Option.toList_some, Option.toList_none, Int.toNat_natCast, List.length_cons, List.length_nil, Int.cast_ofNat_Int, Nat.reduceAdd, Nat.reduceLeDiff, Nat.reduceLT, Nat.reduceMul, Int.reduceAdd, Int.reduceSub, Int.reduceMul, Int.reduceNeg, Int.reduceLT, Int.reduceLE, Int.reduceEq, Int.reduceToNat, eq_self, true_and, and_true, true_or, or_true, false_or, or_false, if_true, if_false, not_true_eq_false, not_false_eq_true, and_self, ne_eq, x_sound iniX_wf, x_plan iniX_wf, r1, r2, r3, r4, r5]
  (repeat' (first | apply And.intro | split)) <;> first | omega | exact l
end XLA
