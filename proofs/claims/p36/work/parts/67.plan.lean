/-! the law's method plan: always true -/
section XPL
variable {zt : Nat → Nat} {L : Nat} {g : Nat → Nat → Int} {ρ : Ri} {X : XV}
theorem sLs_0 : sLeast 0 X = lsU X.1.1 (X.1.1 4 0) := rfl
theorem sLs_1 : sLeast 1 X = lsU X.1.1 (X.1.1 4 0) := rfl
theorem sWr_at {f m : Nat} (hf : (f : Int) < X.1.1 8 0) (hm : (m : Int) < X.1.1 0 0) : sWrong f m X = wrgV X.1.1 (kndV X.1.1 f) m := by
  unfold sWrong
  rw [if_pos ⟨⟨by omega, hf⟩, by omega, hm⟩, Int.toNat_natCast]
theorem sJu_at {x y : Nat} (hx : (x : Int) < X.1.1 0 0) (hy : (y : Int) < X.1.1 0 0) : sJump x y X = jmpV X.1.1 x y := by
  unfold sJump
  rw [if_pos ⟨⟨by omega, hx⟩, by omega, hy⟩, Int.toNat_natCast, Int.toNat_natCast]
theorem sFr_6N {f : Nat} (hf : (f : Int) < X.1.1 8 0) (hl : lsU X.1.1 (X.1.1 4 0) ≠ -99) : sFrame f 6 X = (plN X.1.1 f : Int) := by
  rw [sFr_6 ⟨by omega, hf⟩, if_neg hl, Int.toNat_natCast]
  rfl
theorem sumN_b (hU : WFV (-1) X.1.1) (hl : lsU X.1.1 (X.1.1 4 0) ≠ -99) {f : Nat} (hf : f ≤ pF X.1.1) : 0 ≤ sumP (cstV (-1) X.1.1) (plN X.1.1) f ∧ sumP (cstV (-1) X.1.1) (plN X.1.1) f ≤ 162 * f := by
  obtain ⟨n1, n2, n3, n4, n5, n6⟩ := pl_nums hU
  obtain ⟨a1, a2, a3⟩ := best hU hl
  exact sumP_le f (fun j hj => by
    rw [(a3 j (by omega)).2]
    exact wrg_b hU (by omega) (pln_lt hU j))
set_option maxHeartbeats 4000000 in
theorem plan_1 (hW : WFX X) (hl : lsU X.1.1 (X.1.1 4 0) ≠ -99) {x : Int} {Q : Option AV → XV → Prop} {o9 o10 o11 : Option AV} (hQ : ∀ o5 o7 o8 : Option AV, Xp zt L (g, ρ) 88 (P 88 246) [some (AR L), some (AI x), some (AI (lsU X.1.1 (X.1.1 4 0))), some (AI (X.1.1 8 0)), some (AI (lsU X.1.1 (X.1.1 4 0))), o5, some (AI (X.1.1 8 0)), o7, o8, o9, o10, o11] [] X Q) :
    ∀ (d f : Nat) (o7 o8 : Option AV), f + d = pF X.1.1 → Xp zt L (g, ρ) 88 (P 88 113) [some (AR L), some (AI x), some (AI (lsU X.1.1 (X.1.1 4 0))), some (AI (X.1.1 8 0)), some (AI (sumP (cstV (-1) X.1.1) (plN X.1.1) f)), some (AI (rnP (plN X.1.1) f)), some (AI f), o7, o8, o9, o10, o11] [] X Q := by
  have hU := hW.1.1
  have b0 := hU.1
  have b4 := hU.2.2.2.1
  have b8 := hU.2.2.2.2.2.2.1
  obtain ⟨n1, n2, n3, n4, n5, n6⟩ := pl_nums hU
  obtain ⟨a1, a2, a3⟩ := best hU hl
  intro d
  induction d with
  | zero =>
    intro f o7 o8 hf
    have q := hQ (some (AI (rnP (plN X.1.1) f))) o7 o8
    have e : f = pF X.1.1 := by omega
    rw [e] at q ⊢
    rw [a2, n4, P_W_plan_113]
    simp only [xm_W_plan, b_W_plan_0, P_W_plan_23, b_W_plan_23, P_W_plan_102, b_W_plan_102, P_W_plan_103, b_W_plan_103, P_W_plan_139, b_W_plan_139, P_W_plan_149, b_W_plan_149, P_W_plan_188, b_W_plan_188, P_W_plan_221, b_W_plan_221, P_W_plan_223, b_W_plan_223, P_W_plan_237, b_W_plan_237, P_W_plan_238, b_W_plan_238, P_W_plan_275, b_W_plan_275, P_W_plan_366, b_W_plan_366, P_W_plan_367, b_W_plan_367, P_W_plan_388, b_W_plan_388, P_W_plan_413, b_W_plan_413, P_W_plan_414, b_W_plan_414, P_W_plan_419, b_W_plan_419, P_W_plan_438, b_W_plan_438, P_W_plan_439, b_W_plan_439, P_W_plan_451, b_W_plan_451, P_W_plan_452, b_W_plan_452, x_low, xp_aln0, xp_bipush, xp_cs1, xp_cs2, xp_cs3, xp_goto, xp_iadd, xp_iceq, xp_icge, xp_icgt, xp_icle, xp_iclt, xp_icne, xp_iconst, xp_il10, xp_il11, xp_il4, xp_il5, xp_il6, xp_il7, xp_il8, xp_il9, xp_iln1, xp_iln2, xp_iln3, xp_inc11, xp_inc6, xp_iret, xp_is10, xp_is11, xp_is4, xp_is5, xp_is6, xp_is7, xp_is8, xp_is9, xp_ishr, xp_isn2, xp_isn3, xp_isub, xp_izeq, xp_izle, xp_izne, xp_nop, xp_zret, xv_count, xv_drawnSum, xv_fault, xv_finish, xv_frame, xv_jump, xv_least, xv_leastWith, xv_number, xv_speedFor, xv_why, xv_wrongness, wrI_row, cpI_row, row_s, row_n, row_ss, row_sw, upd_s, upd_n, ad_inj, ad_z, ad_z2, Nat.reduceEqDiff, reduceCtorEq, List.cons_append, List.nil_append, Option.toList_some, Option.toList_none, Int.toNat_natCast, List.length_cons, List.length_nil, Int.cast_ofNat_Int, Nat.reduceAdd, Nat.reduceLeDiff, Nat.reduceLT, Nat.reduceMul, Int.reduceAdd, Int.reduceSub, Int.reduceMul, Int.reduceNeg, Int.reduceLT, Int.reduceLE, Int.reduceEq, Int.reduceToNat, eq_self, true_and, and_true, true_or, or_true, false_or, or_false, if_true, if_false, not_true_eq_false, not_false_eq_true, and_self, ne_eq, b_W_plan_113, Int.le_refl]
    (repeat' (first | apply And.intro | split)) <;> first | omega | exact q
  | succ d ih =>
    intro f o7 o8 hf
    have i1 := ih (f + 1)
    have hf1 : (f : Int) < X.1.1 8 0 := by omega
    have hnle : ¬ X.1.1 8 0 ≤ (f : Int) := by omega
    have hm := pln_lt hU f
    have q6 := sFr_6N hf1 hl
    have qw := sWr_at (X := X) hf1 hm
    have hw := wrg_b hU hf1 hm
    have hsb := sumN_b hU hl (f := f) (by omega)
    have hrb := rn_b (p := plN X.1.1) f
    obtain ⟨p1, p2⟩ := a3 f (by omega)
    rw [plU_N] at p1
    have q2 := sFr_2 (X := X) (f := f) ⟨by omega, hf1⟩
    rw [Int.toNat_natCast] at q2
    have es : sumP (cstV (-1) X.1.1) (plN X.1.1) (f + 1) = sumP (cstV (-1) X.1.1) (plN X.1.1) f + wrgV X.1.1 (kndV X.1.1 f) (plN X.1.1 f) := by
      rw [← p2]
      rfl
    have er : rnP (plN X.1.1) (f + 1) = if f = 0 ∨ plN X.1.1 f = plN X.1.1 (f - 1) then rnP (plN X.1.1) f + 1 else 1 := rfl
    rw [es, er] at i1
    have qp : nn (-99) (X.1.1 9 f) = -99 ∨ nn (-99) (X.1.1 9 f) = (plN X.1.1 f : Int) := by
      rcases p1 with p1 | p1
      · left
        rw [p1]
        rfl
      · right
        rw [p1]
        unfold nn
        rw [if_neg (by omega)]
    have hne : ¬ (plN X.1.1 f : Int) = -99 := by omega
    rw [P_W_plan_113]
    by_cases c0 : f = 0
    · subst c0
      have i2 := i1 (some (AI (plN X.1.1 0))) (some (AI (plN X.1.1 0))) (by omega)
      rw [if_pos (Or.inl rfl)] at i2
      have qj := sJu_at (X := X) hm hm
      have hj : jmpV X.1.1 (plN X.1.1 0) (plN X.1.1 0) = 0 := by
        unfold jmpV dstV
        omega
      rw [hj] at qj
      have hz : ((0 : Nat) : Int) = 0 := rfl
      rw [hz] at q2 q6 qw hnle hf1
      rcases qp with qp | qp
      · rw [qp] at q2
        simp only [xm_W_plan, b_W_plan_0, P_W_plan_23, b_W_plan_23, P_W_plan_102, b_W_plan_102, P_W_plan_103, b_W_plan_103, P_W_plan_139, b_W_plan_139, P_W_plan_149, b_W_plan_149, P_W_plan_188, b_W_plan_188, P_W_plan_221, b_W_plan_221, P_W_plan_223, b_W_plan_223, P_W_plan_237, b_W_plan_237, P_W_plan_238, b_W_plan_238, P_W_plan_275, b_W_plan_275, P_W_plan_366, b_W_plan_366, P_W_plan_367, b_W_plan_367, P_W_plan_388, b_W_plan_388, P_W_plan_413, b_W_plan_413, P_W_plan_414, b_W_plan_414, P_W_plan_419, b_W_plan_419, P_W_plan_438, b_W_plan_438, P_W_plan_439, b_W_plan_439, P_W_plan_451, b_W_plan_451, P_W_plan_452, b_W_plan_452, x_low, xp_aln0, xp_bipush, xp_cs1, xp_cs2, xp_cs3, xp_goto, xp_iadd, xp_iceq, xp_icge, xp_icgt, xp_icle, xp_iclt, xp_icne, xp_iconst, xp_il10, xp_il11, xp_il4, xp_il5, xp_il6, xp_il7, xp_il8, xp_il9, xp_iln1, xp_iln2, xp_iln3, xp_inc11, xp_inc6, xp_iret, xp_is10, xp_is11, xp_is4, xp_is5, xp_is6, xp_is7, xp_is8, xp_is9, xp_ishr, xp_isn2, xp_isn3, xp_isub, xp_izeq, xp_izle, xp_izne, xp_nop, xp_zret, xv_count, xv_drawnSum, xv_fault, xv_finish, xv_frame, xv_jump, xv_least, xv_leastWith, xv_number, xv_speedFor, xv_why, xv_wrongness, wrI_row, cpI_row, row_s, row_n, row_ss, row_sw, upd_s, upd_n, ad_inj, ad_z, ad_z2, Nat.reduceEqDiff, reduceCtorEq, List.cons_append, List.nil_append, Option.toList_some, Option.toList_none, Int.toNat_natCast, List.length_cons, List.length_nil, Int.cast_ofNat_Int, Nat.reduceAdd, Nat.reduceLeDiff, Nat.reduceLT, Nat.reduceMul, Int.reduceAdd, Int.reduceSub, Int.reduceMul, Int.reduceNeg, Int.reduceLT, Int.reduceLE, Int.reduceEq, Int.reduceToNat, eq_self, true_and, and_true, true_or, or_true, false_or, or_false, if_true, if_false, not_true_eq_false, not_false_eq_true, and_self, ne_eq, b_W_plan_113, sNm_0, sNm_1, q2, q6, qw, qj, hz, hnle]
        (repeat' (first | apply And.intro | split)) <;> first | omega | (simpa using i2)
      · rw [qp] at q2
        simp only [xm_W_plan, b_W_plan_0, P_W_plan_23, b_W_plan_23, P_W_plan_102, b_W_plan_102, P_W_plan_103, b_W_plan_103, P_W_plan_139, b_W_plan_139, P_W_plan_149, b_W_plan_149, P_W_plan_188, b_W_plan_188, P_W_plan_221, b_W_plan_221, P_W_plan_223, b_W_plan_223, P_W_plan_237, b_W_plan_237, P_W_plan_238, b_W_plan_238, P_W_plan_275, b_W_plan_275, P_W_plan_366, b_W_plan_366, P_W_plan_367, b_W_plan_367, P_W_plan_388, b_W_plan_388, P_W_plan_413, b_W_plan_413, P_W_plan_414, b_W_plan_414, P_W_plan_419, b_W_plan_419, P_W_plan_438, b_W_plan_438, P_W_plan_439, b_W_plan_439, P_W_plan_451, b_W_plan_451, P_W_plan_452, b_W_plan_452, x_low, xp_aln0, xp_bipush, xp_cs1, xp_cs2, xp_cs3, xp_goto, xp_iadd, xp_iceq, xp_icge, xp_icgt, xp_icle, xp_iclt, xp_icne, xp_iconst, xp_il10, xp_il11, xp_il4, xp_il5, xp_il6, xp_il7, xp_il8, xp_il9, xp_iln1, xp_iln2, xp_iln3, xp_inc11, xp_inc6, xp_iret, xp_is10, xp_is11, xp_is4, xp_is5, xp_is6, xp_is7, xp_is8, xp_is9, xp_ishr, xp_isn2, xp_isn3, xp_isub, xp_izeq, xp_izle, xp_izne, xp_nop, xp_zret, xv_count, xv_drawnSum, xv_fault, xv_finish, xv_frame, xv_jump, xv_least, xv_leastWith, xv_number, xv_speedFor, xv_why, xv_wrongness, wrI_row, cpI_row, row_s, row_n, row_ss, row_sw, upd_s, upd_n, ad_inj, ad_z, ad_z2, Nat.reduceEqDiff, reduceCtorEq, List.cons_append, List.nil_append, Option.toList_some, Option.toList_none, Int.toNat_natCast, List.length_cons, List.length_nil, Int.cast_ofNat_Int, Nat.reduceAdd, Nat.reduceLeDiff, Nat.reduceLT, Nat.reduceMul, Int.reduceAdd, Int.reduceSub, Int.reduceMul, Int.reduceNeg, Int.reduceLT, Int.reduceLE, Int.reduceEq, Int.reduceToNat, eq_self, true_and, and_true, true_or, or_true, false_or, or_false, if_true, if_false, not_true_eq_false, not_false_eq_true, and_self, ne_eq, b_W_plan_113, sNm_0, sNm_1, q2, q6, qw, qj, hz, hne, hnle]
        (repeat' (first | apply And.intro | split)) <;> first | omega | (simpa using i2)
    · have c0' : ¬ (f : Int) = 0 := by omega
      have hm' := pln_lt hU (f - 1)
      have e1 : ((f - 1 : Nat) : Int) = (f : Int) - 1 := by omega
      have q6' := sFr_6N (X := X) (f := f - 1) (by omega) hl
      rw [e1] at q6'
      have qj := sJu_at (X := X) hm' hm
      have i2 := i1 (some (AI (plN X.1.1 f))) (some (AI (plN X.1.1 (f - 1)))) (by omega)
      by_cases c1 : plN X.1.1 f = plN X.1.1 (f - 1)
      · rw [if_pos (Or.inr c1)] at i2
        have hj : jmpV X.1.1 (plN X.1.1 (f - 1)) (plN X.1.1 f) = 0 := by
          rw [c1]
          unfold jmpV dstV
          omega
        rw [hj] at qj
        have c1' : ((plN X.1.1 (f - 1) : Nat) : Int) = (plN X.1.1 f : Nat) := by rw [c1]
        rw [c1'] at q6' qj i2
        rcases qp with qp | qp
        · rw [qp] at q2
          simp only [xm_W_plan, b_W_plan_0, P_W_plan_23, b_W_plan_23, P_W_plan_102, b_W_plan_102, P_W_plan_103, b_W_plan_103, P_W_plan_139, b_W_plan_139, P_W_plan_149, b_W_plan_149, P_W_plan_188, b_W_plan_188, P_W_plan_221, b_W_plan_221, P_W_plan_223, b_W_plan_223, P_W_plan_237, b_W_plan_237, P_W_plan_238, b_W_plan_238, P_W_plan_275, b_W_plan_275, P_W_plan_366, b_W_plan_366, P_W_plan_367, b_W_plan_367, P_W_plan_388, b_W_plan_388, P_W_plan_413, b_W_plan_413, P_W_plan_414, b_W_plan_414, P_W_plan_419, b_W_plan_419, P_W_plan_438, b_W_plan_438, P_W_plan_439, b_W_plan_439, P_W_plan_451, b_W_plan_451, P_W_plan_452, b_W_plan_452, x_low, xp_aln0, xp_bipush, xp_cs1, xp_cs2, xp_cs3, xp_goto, xp_iadd, xp_iceq, xp_icge, xp_icgt, xp_icle, xp_iclt, xp_icne, xp_iconst, xp_il10, xp_il11, xp_il4, xp_il5, xp_il6, xp_il7, xp_il8, xp_il9, xp_iln1, xp_iln2, xp_iln3, xp_inc11, xp_inc6, xp_iret, xp_is10, xp_is11, xp_is4, xp_is5, xp_is6, xp_is7, xp_is8, xp_is9, xp_ishr, xp_isn2, xp_isn3, xp_isub, xp_izeq, xp_izle, xp_izne, xp_nop, xp_zret, xv_count, xv_drawnSum, xv_fault, xv_finish, xv_frame, xv_jump, xv_least, xv_leastWith, xv_number, xv_speedFor, xv_why, xv_wrongness, wrI_row, cpI_row, row_s, row_n, row_ss, row_sw, upd_s, upd_n, ad_inj, ad_z, ad_z2, Nat.reduceEqDiff, reduceCtorEq, List.cons_append, List.nil_append, Option.toList_some, Option.toList_none, Int.toNat_natCast, List.length_cons, List.length_nil, Int.cast_ofNat_Int, Nat.reduceAdd, Nat.reduceLeDiff, Nat.reduceLT, Nat.reduceMul, Int.reduceAdd, Int.reduceSub, Int.reduceMul, Int.reduceNeg, Int.reduceLT, Int.reduceLE, Int.reduceEq, Int.reduceToNat, eq_self, true_and, and_true, true_or, or_true, false_or, or_false, if_true, if_false, not_true_eq_false, not_false_eq_true, and_self, ne_eq, b_W_plan_113, sNm_0, sNm_1, q2, q6, qw, q6', qj, c0', hnle]
          (repeat' (first | apply And.intro | split)) <;> first | omega | (simpa using i2)
        · rw [qp] at q2
          simp only [xm_W_plan, b_W_plan_0, P_W_plan_23, b_W_plan_23, P_W_plan_102, b_W_plan_102, P_W_plan_103, b_W_plan_103, P_W_plan_139, b_W_plan_139, P_W_plan_149, b_W_plan_149, P_W_plan_188, b_W_plan_188, P_W_plan_221, b_W_plan_221, P_W_plan_223, b_W_plan_223, P_W_plan_237, b_W_plan_237, P_W_plan_238, b_W_plan_238, P_W_plan_275, b_W_plan_275, P_W_plan_366, b_W_plan_366, P_W_plan_367, b_W_plan_367, P_W_plan_388, b_W_plan_388, P_W_plan_413, b_W_plan_413, P_W_plan_414, b_W_plan_414, P_W_plan_419, b_W_plan_419, P_W_plan_438, b_W_plan_438, P_W_plan_439, b_W_plan_439, P_W_plan_451, b_W_plan_451, P_W_plan_452, b_W_plan_452, x_low, xp_aln0, xp_bipush, xp_cs1, xp_cs2, xp_cs3, xp_goto, xp_iadd, xp_iceq, xp_icge, xp_icgt, xp_icle, xp_iclt, xp_icne, xp_iconst, xp_il10, xp_il11, xp_il4, xp_il5, xp_il6, xp_il7, xp_il8, xp_il9, xp_iln1, xp_iln2, xp_iln3, xp_inc11, xp_inc6, xp_iret, xp_is10, xp_is11, xp_is4, xp_is5, xp_is6, xp_is7, xp_is8, xp_is9, xp_ishr, xp_isn2, xp_isn3, xp_isub, xp_izeq, xp_izle, xp_izne, xp_nop, xp_zret, xv_count, xv_drawnSum, xv_fault, xv_finish, xv_frame, xv_jump, xv_least, xv_leastWith, xv_number, xv_speedFor, xv_why, xv_wrongness, wrI_row, cpI_row, row_s, row_n, row_ss, row_sw, upd_s, upd_n, ad_inj, ad_z, ad_z2, Nat.reduceEqDiff, reduceCtorEq, List.cons_append, List.nil_append, Option.toList_some, Option.toList_none, Int.toNat_natCast, List.length_cons, List.length_nil, Int.cast_ofNat_Int, Nat.reduceAdd, Nat.reduceLeDiff, Nat.reduceLT, Nat.reduceMul, Int.reduceAdd, Int.reduceSub, Int.reduceMul, Int.reduceNeg, Int.reduceLT, Int.reduceLE, Int.reduceEq, Int.reduceToNat, eq_self, true_and, and_true, true_or, or_true, false_or, or_false, if_true, if_false, not_true_eq_false, not_false_eq_true, and_self, ne_eq, b_W_plan_113, sNm_0, sNm_1, q2, q6, qw, q6', qj, hne, c0', hnle]
          (repeat' (first | apply And.intro | split)) <;> first | omega | (simpa using i2)
      · rw [if_neg (by omega)] at i2
        have c1' : ¬ ((plN X.1.1 (f - 1) : Nat) : Int) = (plN X.1.1 f : Nat) := by omega
        obtain ⟨s1, s2⟩ := ok_step n2 a1 (f := f - 1) (by omega) (by rw [show f - 1 + 1 = f by omega]; exact c1)
        rw [show f - 1 + 1 = f by omega] at s1 s2
        have s3 := (clsV_i hm' hm).1 s2
        rw [n3] at s1
        have hjb := jmpV_b hU hm' hm
        have s4 : ¬ X.1.1 4 0 < jmpV X.1.1 (plN X.1.1 (f - 1)) (plN X.1.1 f) := by omega
        rcases qp with qp | qp
        · rw [qp] at q2
          simp only [xm_W_plan, b_W_plan_0, P_W_plan_23, b_W_plan_23, P_W_plan_102, b_W_plan_102, P_W_plan_103, b_W_plan_103, P_W_plan_139, b_W_plan_139, P_W_plan_149, b_W_plan_149, P_W_plan_188, b_W_plan_188, P_W_plan_221, b_W_plan_221, P_W_plan_223, b_W_plan_223, P_W_plan_237, b_W_plan_237, P_W_plan_238, b_W_plan_238, P_W_plan_275, b_W_plan_275, P_W_plan_366, b_W_plan_366, P_W_plan_367, b_W_plan_367, P_W_plan_388, b_W_plan_388, P_W_plan_413, b_W_plan_413, P_W_plan_414, b_W_plan_414, P_W_plan_419, b_W_plan_419, P_W_plan_438, b_W_plan_438, P_W_plan_439, b_W_plan_439, P_W_plan_451, b_W_plan_451, P_W_plan_452, b_W_plan_452, x_low, xp_aln0, xp_bipush, xp_cs1, xp_cs2, xp_cs3, xp_goto, xp_iadd, xp_iceq, xp_icge, xp_icgt, xp_icle, xp_iclt, xp_icne, xp_iconst, xp_il10, xp_il11, xp_il4, xp_il5, xp_il6, xp_il7, xp_il8, xp_il9, xp_iln1, xp_iln2, xp_iln3, xp_inc11, xp_inc6, xp_iret, xp_is10, xp_is11, xp_is4, xp_is5, xp_is6, xp_is7, xp_is8, xp_is9, xp_ishr, xp_isn2, xp_isn3, xp_isub, xp_izeq, xp_izle, xp_izne, xp_nop, xp_zret, xv_count, xv_drawnSum, xv_fault, xv_finish, xv_frame, xv_jump, xv_least, xv_leastWith, xv_number, xv_speedFor, xv_why, xv_wrongness, wrI_row, cpI_row, row_s, row_n, row_ss, row_sw, upd_s, upd_n, ad_inj, ad_z, ad_z2, Nat.reduceEqDiff, reduceCtorEq, List.cons_append, List.nil_append, Option.toList_some, Option.toList_none, Int.toNat_natCast, List.length_cons, List.length_nil, Int.cast_ofNat_Int, Nat.reduceAdd, Nat.reduceLeDiff, Nat.reduceLT, Nat.reduceMul, Int.reduceAdd, Int.reduceSub, Int.reduceMul, Int.reduceNeg, Int.reduceLT, Int.reduceLE, Int.reduceEq, Int.reduceToNat, eq_self, true_and, and_true, true_or, or_true, false_or, or_false, if_true, if_false, not_true_eq_false, not_false_eq_true, and_self, ne_eq, b_W_plan_113, sNm_0, sNm_1, q2, q6, qw, q6', qj, c0', c1', s1, s4, hnle]
          (repeat' (first | apply And.intro | split)) <;> first | omega | (simpa using i2)
        · rw [qp] at q2
          simp only [xm_W_plan, b_W_plan_0, P_W_plan_23, b_W_plan_23, P_W_plan_102, b_W_plan_102, P_W_plan_103, b_W_plan_103, P_W_plan_139, b_W_plan_139, P_W_plan_149, b_W_plan_149, P_W_plan_188, b_W_plan_188, P_W_plan_221, b_W_plan_221, P_W_plan_223, b_W_plan_223, P_W_plan_237, b_W_plan_237, P_W_plan_238, b_W_plan_238, P_W_plan_275, b_W_plan_275, P_W_plan_366, b_W_plan_366, P_W_plan_367, b_W_plan_367, P_W_plan_388, b_W_plan_388, P_W_plan_413, b_W_plan_413, P_W_plan_414, b_W_plan_414, P_W_plan_419, b_W_plan_419, P_W_plan_438, b_W_plan_438, P_W_plan_439, b_W_plan_439, P_W_plan_451, b_W_plan_451, P_W_plan_452, b_W_plan_452, x_low, xp_aln0, xp_bipush, xp_cs1, xp_cs2, xp_cs3, xp_goto, xp_iadd, xp_iceq, xp_icge, xp_icgt, xp_icle, xp_iclt, xp_icne, xp_iconst, xp_il10, xp_il11, xp_il4, xp_il5, xp_il6, xp_il7, xp_il8, xp_il9, xp_iln1, xp_iln2, xp_iln3, xp_inc11, xp_inc6, xp_iret, xp_is10, xp_is11, xp_is4, xp_is5, xp_is6, xp_is7, xp_is8, xp_is9, xp_ishr, xp_isn2, xp_isn3, xp_isub, xp_izeq, xp_izle, xp_izne, xp_nop, xp_zret, xv_count, xv_drawnSum, xv_fault, xv_finish, xv_frame, xv_jump, xv_least, xv_leastWith, xv_number, xv_speedFor, xv_why, xv_wrongness, wrI_row, cpI_row, row_s, row_n, row_ss, row_sw, upd_s, upd_n, ad_inj, ad_z, ad_z2, Nat.reduceEqDiff, reduceCtorEq, List.cons_append, List.nil_append, Option.toList_some, Option.toList_none, Int.toNat_natCast, List.length_cons, List.length_nil, Int.cast_ofNat_Int, Nat.reduceAdd, Nat.reduceLeDiff, Nat.reduceLT, Nat.reduceMul, Int.reduceAdd, Int.reduceSub, Int.reduceMul, Int.reduceNeg, Int.reduceLT, Int.reduceLE, Int.reduceEq, Int.reduceToNat, eq_self, true_and, and_true, true_or, or_true, false_or, or_false, if_true, if_false, not_true_eq_false, not_false_eq_true, and_self, ne_eq, b_W_plan_113, sNm_0, sNm_1, q2, q6, qw, q6', qj, hne, c0', c1', s1, s4, hnle]
          (repeat' (first | apply And.intro | split)) <;> first | omega | (simpa using i2)
/-- is no mouth of the first b less wrong? -/
def nonB (v : Nat → Int) (t : Int) : Nat → Int
  | 0 => 1
  | b + 1 => if nonB v t b = 0 ∨ v b < t then 0 else 1
theorem nonB_b {v : Nat → Int} {t : Int} : ∀ b : Nat, (nonB v t b = 0 ∨ nonB v t b = 1) ∧ (nonB v t b = 1 ↔ ∀ j, j < b → t ≤ v j)
  | 0 => ⟨Or.inr rfl, fun _ j hj => by omega, fun _ => rfl⟩
  | b + 1 => by
    obtain ⟨h1, h2⟩ := nonB_b (v := v) (t := t) b
    simp only [nonB]
    by_cases c : nonB v t b = 0 ∨ v b < t
    · rw [if_pos c]
      refine ⟨Or.inl rfl, fun q => by omega, fun q => ?_⟩
      have h3 := q b (by omega)
      have h4 := h2.2 (fun j hj => q j (by omega))
      omega
    · rw [if_neg c]
      refine ⟨Or.inr rfl, fun _ j hj => ?_, fun _ => rfl⟩
      by_cases e : j = b
      · subst e
        omega
      · exact h2.1 (by omega) j (by omega)
theorem plan_2 (hW : WFX X) (hl : lsU X.1.1 (X.1.1 4 0) ≠ -99) {f : Nat} (hf : (f : Int) < X.1.1 8 0) {Q : Option AV → XV → Prop} {o1 o2 o3 o4 o5 o7 o8 : Option AV} (hQ : Xp zt L (g, ρ) 88 (P 88 375) [some (AR L), o1, o2, o3, o4, o5, some (AI f), o7, o8, some (AI (plN X.1.1 f)), some (AI (nonB (fun b => wrgV X.1.1 (kndV X.1.1 f) b) (wrgV X.1.1 (kndV X.1.1 f) (plN X.1.1 f)) (pM X.1.1))), some (AI (X.1.1 0 0))] [] X Q) :
    ∀ (d b : Nat), b + d = pM X.1.1 → Xp zt L (g, ρ) 88 (P 88 328) [some (AR L), o1, o2, o3, o4, o5, some (AI f), o7, o8, some (AI (plN X.1.1 f)), some (AI (nonB (fun b => wrgV X.1.1 (kndV X.1.1 f) b) (wrgV X.1.1 (kndV X.1.1 f) (plN X.1.1 f)) b)), some (AI b)] [] X Q := by
  have hU := hW.1.1
  have b0 := hU.1
  have b8 := hU.2.2.2.2.2.2.1
  obtain ⟨n1, n2, n3, n4, n5, n6⟩ := pl_nums hU
  intro d
  induction d with
  | zero =>
    intro b hb
    have e : b = pM X.1.1 := by omega
    rw [e, n5, P_W_plan_328]
    simp only [xm_W_plan, b_W_plan_0, P_W_plan_23, b_W_plan_23, P_W_plan_102, b_W_plan_102, P_W_plan_103, b_W_plan_103, P_W_plan_139, b_W_plan_139, P_W_plan_149, b_W_plan_149, P_W_plan_188, b_W_plan_188, P_W_plan_221, b_W_plan_221, P_W_plan_223, b_W_plan_223, P_W_plan_237, b_W_plan_237, P_W_plan_238, b_W_plan_238, P_W_plan_275, b_W_plan_275, P_W_plan_366, b_W_plan_366, P_W_plan_367, b_W_plan_367, P_W_plan_388, b_W_plan_388, P_W_plan_413, b_W_plan_413, P_W_plan_414, b_W_plan_414, P_W_plan_419, b_W_plan_419, P_W_plan_438, b_W_plan_438, P_W_plan_439, b_W_plan_439, P_W_plan_451, b_W_plan_451, P_W_plan_452, b_W_plan_452, x_low, xp_aln0, xp_bipush, xp_cs1, xp_cs2, xp_cs3, xp_goto, xp_iadd, xp_iceq, xp_icge, xp_icgt, xp_icle, xp_iclt, xp_icne, xp_iconst, xp_il10, xp_il11, xp_il4, xp_il5, xp_il6, xp_il7, xp_il8, xp_il9, xp_iln1, xp_iln2, xp_iln3, xp_inc11, xp_inc6, xp_iret, xp_is10, xp_is11, xp_is4, xp_is5, xp_is6, xp_is7, xp_is8, xp_is9, xp_ishr, xp_isn2, xp_isn3, xp_isub, xp_izeq, xp_izle, xp_izne, xp_nop, xp_zret, xv_count, xv_drawnSum, xv_fault, xv_finish, xv_frame, xv_jump, xv_least, xv_leastWith, xv_number, xv_speedFor, xv_why, xv_wrongness, wrI_row, cpI_row, row_s, row_n, row_ss, row_sw, upd_s, upd_n, ad_inj, ad_z, ad_z2, Nat.reduceEqDiff, reduceCtorEq, List.cons_append, List.nil_append, Option.toList_some, Option.toList_none, Int.toNat_natCast, List.length_cons, List.length_nil, Int.cast_ofNat_Int, Nat.reduceAdd, Nat.reduceLeDiff, Nat.reduceLT, Nat.reduceMul, Int.reduceAdd, Int.reduceSub, Int.reduceMul, Int.reduceNeg, Int.reduceLT, Int.reduceLE, Int.reduceEq, Int.reduceToNat, eq_self, true_and, and_true, true_or, or_true, false_or, or_false, if_true, if_false, not_true_eq_false, not_false_eq_true, and_self, ne_eq, b_W_plan_328, sCt_0, Int.le_refl]
    (repeat' (first | apply And.intro | split)) <;> first | omega | exact hQ
  | succ d ih =>
    intro b hb
    have i1 := ih (b + 1) (by omega)
    have hb1 : (b : Int) < X.1.1 0 0 := by omega
    have hnle : ¬ X.1.1 0 0 ≤ (b : Int) := by omega
    have hm := pln_lt hU f
    have w1 := sWr_at (X := X) hf hb1
    have w2 := sWr_at (X := X) hf hm
    have k1 := wrg_b hU hf hb1
    have k2 := wrg_b hU hf hm
    have hB := (nonB_b (v := fun b => wrgV X.1.1 (kndV X.1.1 f) b) (t := wrgV X.1.1 (kndV X.1.1 f) (plN X.1.1 f)) b).1
    simp only [nonB] at i1
    rw [P_W_plan_328]
    rcases hB with hB | hB
    · rw [hB] at i1 ⊢
      rw [if_pos (Or.inl rfl)] at i1
      simp only [xm_W_plan, b_W_plan_0, P_W_plan_23, b_W_plan_23, P_W_plan_102, b_W_plan_102, P_W_plan_103, b_W_plan_103, P_W_plan_139, b_W_plan_139, P_W_plan_149, b_W_plan_149, P_W_plan_188, b_W_plan_188, P_W_plan_221, b_W_plan_221, P_W_plan_223, b_W_plan_223, P_W_plan_237, b_W_plan_237, P_W_plan_238, b_W_plan_238, P_W_plan_275, b_W_plan_275, P_W_plan_366, b_W_plan_366, P_W_plan_367, b_W_plan_367, P_W_plan_388, b_W_plan_388, P_W_plan_413, b_W_plan_413, P_W_plan_414, b_W_plan_414, P_W_plan_419, b_W_plan_419, P_W_plan_438, b_W_plan_438, P_W_plan_439, b_W_plan_439, P_W_plan_451, b_W_plan_451, P_W_plan_452, b_W_plan_452, x_low, xp_aln0, xp_bipush, xp_cs1, xp_cs2, xp_cs3, xp_goto, xp_iadd, xp_iceq, xp_icge, xp_icgt, xp_icle, xp_iclt, xp_icne, xp_iconst, xp_il10, xp_il11, xp_il4, xp_il5, xp_il6, xp_il7, xp_il8, xp_il9, xp_iln1, xp_iln2, xp_iln3, xp_inc11, xp_inc6, xp_iret, xp_is10, xp_is11, xp_is4, xp_is5, xp_is6, xp_is7, xp_is8, xp_is9, xp_ishr, xp_isn2, xp_isn3, xp_isub, xp_izeq, xp_izle, xp_izne, xp_nop, xp_zret, xv_count, xv_drawnSum, xv_fault, xv_finish, xv_frame, xv_jump, xv_least, xv_leastWith, xv_number, xv_speedFor, xv_why, xv_wrongness, wrI_row, cpI_row, row_s, row_n, row_ss, row_sw, upd_s, upd_n, ad_inj, ad_z, ad_z2, Nat.reduceEqDiff, reduceCtorEq, List.cons_append, List.nil_append, Option.toList_some, Option.toList_none, Int.toNat_natCast, List.length_cons, List.length_nil, Int.cast_ofNat_Int, Nat.reduceAdd, Nat.reduceLeDiff, Nat.reduceLT, Nat.reduceMul, Int.reduceAdd, Int.reduceSub, Int.reduceMul, Int.reduceNeg, Int.reduceLT, Int.reduceLE, Int.reduceEq, Int.reduceToNat, eq_self, true_and, and_true, true_or, or_true, false_or, or_false, if_true, if_false, not_true_eq_false, not_false_eq_true, and_self, ne_eq, b_W_plan_328, sCt_0, w1, w2, hnle]
      (repeat' (first | apply And.intro | split)) <;> first | omega | (simpa using i1)
    · rw [hB] at i1 ⊢
      by_cases c : wrgV X.1.1 (kndV X.1.1 f) b < wrgV X.1.1 (kndV X.1.1 f) (plN X.1.1 f)
      · rw [if_pos (Or.inr c)] at i1
        simp only [xm_W_plan, b_W_plan_0, P_W_plan_23, b_W_plan_23, P_W_plan_102, b_W_plan_102, P_W_plan_103, b_W_plan_103, P_W_plan_139, b_W_plan_139, P_W_plan_149, b_W_plan_149, P_W_plan_188, b_W_plan_188, P_W_plan_221, b_W_plan_221, P_W_plan_223, b_W_plan_223, P_W_plan_237, b_W_plan_237, P_W_plan_238, b_W_plan_238, P_W_plan_275, b_W_plan_275, P_W_plan_366, b_W_plan_366, P_W_plan_367, b_W_plan_367, P_W_plan_388, b_W_plan_388, P_W_plan_413, b_W_plan_413, P_W_plan_414, b_W_plan_414, P_W_plan_419, b_W_plan_419, P_W_plan_438, b_W_plan_438, P_W_plan_439, b_W_plan_439, P_W_plan_451, b_W_plan_451, P_W_plan_452, b_W_plan_452, x_low, xp_aln0, xp_bipush, xp_cs1, xp_cs2, xp_cs3, xp_goto, xp_iadd, xp_iceq, xp_icge, xp_icgt, xp_icle, xp_iclt, xp_icne, xp_iconst, xp_il10, xp_il11, xp_il4, xp_il5, xp_il6, xp_il7, xp_il8, xp_il9, xp_iln1, xp_iln2, xp_iln3, xp_inc11, xp_inc6, xp_iret, xp_is10, xp_is11, xp_is4, xp_is5, xp_is6, xp_is7, xp_is8, xp_is9, xp_ishr, xp_isn2, xp_isn3, xp_isub, xp_izeq, xp_izle, xp_izne, xp_nop, xp_zret, xv_count, xv_drawnSum, xv_fault, xv_finish, xv_frame, xv_jump, xv_least, xv_leastWith, xv_number, xv_speedFor, xv_why, xv_wrongness, wrI_row, cpI_row, row_s, row_n, row_ss, row_sw, upd_s, upd_n, ad_inj, ad_z, ad_z2, Nat.reduceEqDiff, reduceCtorEq, List.cons_append, List.nil_append, Option.toList_some, Option.toList_none, Int.toNat_natCast, List.length_cons, List.length_nil, Int.cast_ofNat_Int, Nat.reduceAdd, Nat.reduceLeDiff, Nat.reduceLT, Nat.reduceMul, Int.reduceAdd, Int.reduceSub, Int.reduceMul, Int.reduceNeg, Int.reduceLT, Int.reduceLE, Int.reduceEq, Int.reduceToNat, eq_self, true_and, and_true, true_or, or_true, false_or, or_false, if_true, if_false, not_true_eq_false, not_false_eq_true, and_self, ne_eq, b_W_plan_328, sCt_0, w1, w2, c, hnle]
        (repeat' (first | apply And.intro | split)) <;> first | omega | (simpa using i1)
      · rw [if_neg (by omega)] at i1
        simp only [xm_W_plan, b_W_plan_0, P_W_plan_23, b_W_plan_23, P_W_plan_102, b_W_plan_102, P_W_plan_103, b_W_plan_103, P_W_plan_139, b_W_plan_139, P_W_plan_149, b_W_plan_149, P_W_plan_188, b_W_plan_188, P_W_plan_221, b_W_plan_221, P_W_plan_223, b_W_plan_223, P_W_plan_237, b_W_plan_237, P_W_plan_238, b_W_plan_238, P_W_plan_275, b_W_plan_275, P_W_plan_366, b_W_plan_366, P_W_plan_367, b_W_plan_367, P_W_plan_388, b_W_plan_388, P_W_plan_413, b_W_plan_413, P_W_plan_414, b_W_plan_414, P_W_plan_419, b_W_plan_419, P_W_plan_438, b_W_plan_438, P_W_plan_439, b_W_plan_439, P_W_plan_451, b_W_plan_451, P_W_plan_452, b_W_plan_452, x_low, xp_aln0, xp_bipush, xp_cs1, xp_cs2, xp_cs3, xp_goto, xp_iadd, xp_iceq, xp_icge, xp_icgt, xp_icle, xp_iclt, xp_icne, xp_iconst, xp_il10, xp_il11, xp_il4, xp_il5, xp_il6, xp_il7, xp_il8, xp_il9, xp_iln1, xp_iln2, xp_iln3, xp_inc11, xp_inc6, xp_iret, xp_is10, xp_is11, xp_is4, xp_is5, xp_is6, xp_is7, xp_is8, xp_is9, xp_ishr, xp_isn2, xp_isn3, xp_isub, xp_izeq, xp_izle, xp_izne, xp_nop, xp_zret, xv_count, xv_drawnSum, xv_fault, xv_finish, xv_frame, xv_jump, xv_least, xv_leastWith, xv_number, xv_speedFor, xv_why, xv_wrongness, wrI_row, cpI_row, row_s, row_n, row_ss, row_sw, upd_s, upd_n, ad_inj, ad_z, ad_z2, Nat.reduceEqDiff, reduceCtorEq, List.cons_append, List.nil_append, Option.toList_some, Option.toList_none, Int.toNat_natCast, List.length_cons, List.length_nil, Int.cast_ofNat_Int, Nat.reduceAdd, Nat.reduceLeDiff, Nat.reduceLT, Nat.reduceMul, Int.reduceAdd, Int.reduceSub, Int.reduceMul, Int.reduceNeg, Int.reduceLT, Int.reduceLE, Int.reduceEq, Int.reduceToNat, eq_self, true_and, and_true, true_or, or_true, false_or, or_false, if_true, if_false, not_true_eq_false, not_false_eq_true, and_self, ne_eq, b_W_plan_328, sCt_0, w1, w2, c, hnle]
        (repeat' (first | apply And.intro | split)) <;> first | omega | (simpa using i1)
theorem plan_3 (hW : WFX X) (hl : lsU X.1.1 (X.1.1 4 0) ≠ -99) {Q : Option AV → XV → Prop} (hQ : Q (some (AI 1)) X) {o1 o3 o4 o5 o6 o7 o8 o9 o10 o11 : Option AV} : Xp zt L (g, ρ) 88 (P 88 421) [some (AR L), o1, some (AI (lsU X.1.1 (X.1.1 4 0))), o3, o4, o5, o6, o7, o8, o9, o10, o11] [] X Q := by
  have hU := hW.1.1
  have hb := ls_b hU hl
  have hfb := sFl_b hU (w := 0) (by omega)
  have b8 := hU.2.2.2.2.2.2.1
  have hdb := dsU_b hU (X.1.1 8 0).toNat (by omega)
  rw [P_W_plan_421]
  by_cases c : sFault 0 X = -99
  · obtain ⟨r1, r2, r3⟩ := drawn_ok hU ((sFl_none (w := 0) (by omega)).1 c)
    have hd : sDrawnSum X = dsU X.1.1 (X.1.1 8 0).toNat := by
      rw [sDr_eq hU, if_neg]
      have := (cntS_all (r := X.1.1 10) (X.1.1 8 0).toNat).2 r3
      omega
    have c2 : ¬ dsU X.1.1 (X.1.1 8 0).toNat < lsU X.1.1 (X.1.1 4 0) := by omega
    simp only [xm_W_plan, b_W_plan_0, P_W_plan_23, b_W_plan_23, P_W_plan_102, b_W_plan_102, P_W_plan_103, b_W_plan_103, P_W_plan_139, b_W_plan_139, P_W_plan_149, b_W_plan_149, P_W_plan_188, b_W_plan_188, P_W_plan_221, b_W_plan_221, P_W_plan_223, b_W_plan_223, P_W_plan_237, b_W_plan_237, P_W_plan_238, b_W_plan_238, P_W_plan_275, b_W_plan_275, P_W_plan_366, b_W_plan_366, P_W_plan_367, b_W_plan_367, P_W_plan_388, b_W_plan_388, P_W_plan_413, b_W_plan_413, P_W_plan_414, b_W_plan_414, P_W_plan_419, b_W_plan_419, P_W_plan_438, b_W_plan_438, P_W_plan_439, b_W_plan_439, P_W_plan_451, b_W_plan_451, P_W_plan_452, b_W_plan_452, x_low, xp_aln0, xp_bipush, xp_cs1, xp_cs2, xp_cs3, xp_goto, xp_iadd, xp_iceq, xp_icge, xp_icgt, xp_icle, xp_iclt, xp_icne, xp_iconst, xp_il10, xp_il11, xp_il4, xp_il5, xp_il6, xp_il7, xp_il8, xp_il9, xp_iln1, xp_iln2, xp_iln3, xp_inc11, xp_inc6, xp_iret, xp_is10, xp_is11, xp_is4, xp_is5, xp_is6, xp_is7, xp_is8, xp_is9, xp_ishr, xp_isn2, xp_isn3, xp_isub, xp_izeq, xp_izle, xp_izne, xp_nop, xp_zret, xv_count, xv_drawnSum, xv_fault, xv_finish, xv_frame, xv_jump, xv_least, xv_leastWith, xv_number, xv_speedFor, xv_why, xv_wrongness, wrI_row, cpI_row, row_s, row_n, row_ss, row_sw, upd_s, upd_n, ad_inj, ad_z, ad_z2, Nat.reduceEqDiff, reduceCtorEq, List.cons_append, List.nil_append, Option.toList_some, Option.toList_none, Int.toNat_natCast, List.length_cons, List.length_nil, Int.cast_ofNat_Int, Nat.reduceAdd, Nat.reduceLeDiff, Nat.reduceLT, Nat.reduceMul, Int.reduceAdd, Int.reduceSub, Int.reduceMul, Int.reduceNeg, Int.reduceLT, Int.reduceLE, Int.reduceEq, Int.reduceToNat, eq_self, true_and, and_true, true_or, or_true, false_or, or_false, if_true, if_false, not_true_eq_false, not_false_eq_true, and_self, ne_eq, b_W_plan_421, c, hd, c2]
    (repeat' (first | apply And.intro | split)) <;> first | omega | exact hQ
  · simp only [xm_W_plan, b_W_plan_0, P_W_plan_23, b_W_plan_23, P_W_plan_102, b_W_plan_102, P_W_plan_103, b_W_plan_103, P_W_plan_139, b_W_plan_139, P_W_plan_149, b_W_plan_149, P_W_plan_188, b_W_plan_188, P_W_plan_221, b_W_plan_221, P_W_plan_223, b_W_plan_223, P_W_plan_237, b_W_plan_237, P_W_plan_238, b_W_plan_238, P_W_plan_275, b_W_plan_275, P_W_plan_366, b_W_plan_366, P_W_plan_367, b_W_plan_367, P_W_plan_388, b_W_plan_388, P_W_plan_413, b_W_plan_413, P_W_plan_414, b_W_plan_414, P_W_plan_419, b_W_plan_419, P_W_plan_438, b_W_plan_438, P_W_plan_439, b_W_plan_439, P_W_plan_451, b_W_plan_451, P_W_plan_452, b_W_plan_452, x_low, xp_aln0, xp_bipush, xp_cs1, xp_cs2, xp_cs3, xp_goto, xp_iadd, xp_iceq, xp_icge, xp_icgt, xp_icle, xp_iclt, xp_icne, xp_iconst, xp_il10, xp_il11, xp_il4, xp_il5, xp_il6, xp_il7, xp_il8, xp_il9, xp_iln1, xp_iln2, xp_iln3, xp_inc11, xp_inc6, xp_iret, xp_is10, xp_is11, xp_is4, xp_is5, xp_is6, xp_is7, xp_is8, xp_is9, xp_ishr, xp_isn2, xp_isn3, xp_isub, xp_izeq, xp_izle, xp_izne, xp_nop, xp_zret, xv_count, xv_drawnSum, xv_fault, xv_finish, xv_frame, xv_jump, xv_least, xv_leastWith, xv_number, xv_speedFor, xv_why, xv_wrongness, wrI_row, cpI_row, row_s, row_n, row_ss, row_sw, upd_s, upd_n, ad_inj, ad_z, ad_z2, Nat.reduceEqDiff, reduceCtorEq, List.cons_append, List.nil_append, Option.toList_some, Option.toList_none, Int.toNat_natCast, List.length_cons, List.length_nil, Int.cast_ofNat_Int, Nat.reduceAdd, Nat.reduceLeDiff, Nat.reduceLT, Nat.reduceMul, Int.reduceAdd, Int.reduceSub, Int.reduceMul, Int.reduceNeg, Int.reduceLT, Int.reduceLE, Int.reduceEq, Int.reduceToNat, eq_self, true_and, and_true, true_or, or_true, false_or, or_false, if_true, if_false, not_true_eq_false, not_false_eq_true, and_self, ne_eq, b_W_plan_421, c, Int.lt_irrefl]
    (repeat' (first | apply And.intro | split)) <;> first | omega | exact hQ
theorem plan_4 (hW : WFX X) (hl : lsU X.1.1 (X.1.1 4 0) ≠ -99) {x : Int} {Q : Option AV → XV → Prop} (hQ : Q (some (AI 1)) X) {o4 o5 o6 o7 o8 o9 o10 o11 : Option AV} : Xp zt L (g, ρ) 88 (P 88 277) [some (AR L), some (AI x), some (AI (lsU X.1.1 (X.1.1 4 0))), some (AI (X.1.1 8 0)), o4, o5, o6, o7, o8, o9, o10, o11] [] X Q := by
  have hU := hW.1.1
  have b0 := hU.1
  have b8 := hU.2.2.2.2.2.2.1
  obtain ⟨n1, n2, n3, n4, n5, n6⟩ := pl_nums hU
  have hb := ls_b hU hl
  rw [P_W_plan_277]
  by_cases c : X.1.1 8 0 ≤ 0
  · have k := fun o6 o7 o8 o9 o10 o11 => plan_3 (zt := zt) (L := L) (g := g) (ρ := ρ) hW hl (o1 := some (AI x)) (o3 := some (AI (X.1.1 8 0))) (o4 := o4) (o5 := o5) (o6 := o6) (o7 := o7) (o8 := o8) (o9 := o9) (o10 := o10) (o11 := o11) hQ
    simp only [xm_W_plan, b_W_plan_0, P_W_plan_23, b_W_plan_23, P_W_plan_102, b_W_plan_102, P_W_plan_103, b_W_plan_103, P_W_plan_139, b_W_plan_139, P_W_plan_149, b_W_plan_149, P_W_plan_188, b_W_plan_188, P_W_plan_221, b_W_plan_221, P_W_plan_223, b_W_plan_223, P_W_plan_237, b_W_plan_237, P_W_plan_238, b_W_plan_238, P_W_plan_275, b_W_plan_275, P_W_plan_366, b_W_plan_366, P_W_plan_367, b_W_plan_367, P_W_plan_388, b_W_plan_388, P_W_plan_413, b_W_plan_413, P_W_plan_414, b_W_plan_414, P_W_plan_419, b_W_plan_419, P_W_plan_438, b_W_plan_438, P_W_plan_439, b_W_plan_439, P_W_plan_451, b_W_plan_451, P_W_plan_452, b_W_plan_452, x_low, xp_aln0, xp_bipush, xp_cs1, xp_cs2, xp_cs3, xp_goto, xp_iadd, xp_iceq, xp_icge, xp_icgt, xp_icle, xp_iclt, xp_icne, xp_iconst, xp_il10, xp_il11, xp_il4, xp_il5, xp_il6, xp_il7, xp_il8, xp_il9, xp_iln1, xp_iln2, xp_iln3, xp_inc11, xp_inc6, xp_iret, xp_is10, xp_is11, xp_is4, xp_is5, xp_is6, xp_is7, xp_is8, xp_is9, xp_ishr, xp_isn2, xp_isn3, xp_isub, xp_izeq, xp_izle, xp_izne, xp_nop, xp_zret, xv_count, xv_drawnSum, xv_fault, xv_finish, xv_frame, xv_jump, xv_least, xv_leastWith, xv_number, xv_speedFor, xv_why, xv_wrongness, wrI_row, cpI_row, row_s, row_n, row_ss, row_sw, upd_s, upd_n, ad_inj, ad_z, ad_z2, Nat.reduceEqDiff, reduceCtorEq, List.cons_append, List.nil_append, Option.toList_some, Option.toList_none, Int.toNat_natCast, List.length_cons, List.length_nil, Int.cast_ofNat_Int, Nat.reduceAdd, Nat.reduceLeDiff, Nat.reduceLT, Nat.reduceMul, Int.reduceAdd, Int.reduceSub, Int.reduceMul, Int.reduceNeg, Int.reduceLT, Int.reduceLE, Int.reduceEq, Int.reduceToNat, eq_self, true_and, and_true, true_or, or_true, false_or, or_false, if_true, if_false, not_true_eq_false, not_false_eq_true, and_self, ne_eq, b_W_plan_277, c]
    (repeat' (first | apply And.intro | split)) <;> first | omega | exact k _ _ _ _ _ _
  · have f1 := lowI_b (v := x) (n := X.1.1 8 0) (by omega)
    have f2 := lowI_b (v := shrI x 7) (n := X.1.1 0 0) (by omega)
    obtain ⟨f, hf⟩ : ∃ f : Nat, lowI x (X.1.1 8 0) = (f : Int) := ⟨(lowI x (X.1.1 8 0)).toNat, by omega⟩
    obtain ⟨m, hm⟩ : ∃ m : Nat, lowI (shrI x 7) (X.1.1 0 0) = (m : Int) := ⟨(lowI (shrI x 7) (X.1.1 0 0)).toNat, by omega⟩
    rw [hf] at f1
    rw [hm] at f2
    have q6 := sFr_6N (X := X) f1.2 hl
    have hpl := pln_lt hU f
    have hw1 : sLeastWith f m X = lstV (pF X.1.1) (pM X.1.1) (pH X.1.1) (cstB X.1.1 f m) (clsV X.1.1 (X.1.1 4 0)) := by
      unfold sLeastWith
      rw [if_pos ⟨f1, f2⟩, Int.toNat_natCast, Int.toNat_natCast]
    have hw2 : sLeastWith f (plN X.1.1 f : Int) X = lsU X.1.1 (X.1.1 4 0) := by
      rw [← with_own hU f1.2 hl]
      unfold sLeastWith
      rw [if_pos ⟨f1, by omega, hpl⟩, Int.toNat_natCast, Int.toNat_natCast]
    have hge := with_ge hU (mo := m) f1.2 hl
    have hwb := lstV_b (F := pF X.1.1) (M := pM X.1.1) (h := pH X.1.1) (c := cstB X.1.1 f m) (cl := clsV X.1.1 (X.1.1 4 0)) (fun f' m' => (cstB_b hU f' m').1)
    rw [← hw1] at hge hwb
    obtain ⟨wb, wy⟩ := why_0 hU f1.2 hl
    obtain ⟨nb1, nb2⟩ := nonB_b (v := fun b => wrgV X.1.1 (kndV X.1.1 f) b) (t := wrgV X.1.1 (kndV X.1.1 f) (plN X.1.1 f)) (pM X.1.1)
    have k := fun o4 o5 o6 o7 o8 o9 o10 o11 => plan_3 (zt := zt) (L := L) (g := g) (ρ := ρ) hW hl (o1 := some (AI x)) (o3 := some (AI (X.1.1 8 0))) (o4 := o4) (o5 := o5) (o6 := o6) (o7 := o7) (o8 := o8) (o9 := o9) (o10 := o10) (o11 := o11) hQ
    have end3 : ∀ o4 o5 : Option AV, Xp zt L (g, ρ) 88 (P 88 375) [some (AR L), some (AI x), some (AI (lsU X.1.1 (X.1.1 4 0))), some (AI (X.1.1 8 0)), o4, o5, some (AI f), some (AI m), some (AI (sLeastWith f m X)), some (AI (plN X.1.1 f)), some (AI (nonB (fun b => wrgV X.1.1 (kndV X.1.1 f) b) (wrgV X.1.1 (kndV X.1.1 f) (plN X.1.1 f)) (pM X.1.1))), some (AI (X.1.1 0 0))] [] X Q := by
      intro o4 o5
      have hyn : (sWhy f X = 0 ∧ nonB (fun b => wrgV X.1.1 (kndV X.1.1 f) b) (wrgV X.1.1 (kndV X.1.1 f) (plN X.1.1 f)) (pM X.1.1) = 1) ∨ (¬ sWhy f X = 0 ∧ nonB (fun b => wrgV X.1.1 (kndV X.1.1 f) b) (wrgV X.1.1 (kndV X.1.1 f) (plN X.1.1 f)) (pM X.1.1) = 0) := by
        by_cases z : sWhy f X = 0
        · exact Or.inl ⟨z, nb2.2 (fun j hj => wy.1 z j (by omega))⟩
        · refine Or.inr ⟨z, ?_⟩
          rcases nb1 with h | h
          · exact h
          · exact absurd (wy.2 (fun b hb => nb2.1 h b (by omega))) z
      generalize nonB (fun b => wrgV X.1.1 (kndV X.1.1 f) b) (wrgV X.1.1 (kndV X.1.1 f) (plN X.1.1 f)) (pM X.1.1) = nB at hyn ⊢
      rw [P_W_plan_375]
      rcases hyn with ⟨z1, z2⟩ | ⟨z1, z2⟩
      · subst z2
        rcases hge with hge | hge
        · rw [hge]
          simp only [xm_W_plan, b_W_plan_0, P_W_plan_23, b_W_plan_23, P_W_plan_102, b_W_plan_102, P_W_plan_103, b_W_plan_103, P_W_plan_139, b_W_plan_139, P_W_plan_149, b_W_plan_149, P_W_plan_188, b_W_plan_188, P_W_plan_221, b_W_plan_221, P_W_plan_223, b_W_plan_223, P_W_plan_237, b_W_plan_237, P_W_plan_238, b_W_plan_238, P_W_plan_275, b_W_plan_275, P_W_plan_366, b_W_plan_366, P_W_plan_367, b_W_plan_367, P_W_plan_388, b_W_plan_388, P_W_plan_413, b_W_plan_413, P_W_plan_414, b_W_plan_414, P_W_plan_419, b_W_plan_419, P_W_plan_438, b_W_plan_438, P_W_plan_439, b_W_plan_439, P_W_plan_451, b_W_plan_451, P_W_plan_452, b_W_plan_452, x_low, xp_aln0, xp_bipush, xp_cs1, xp_cs2, xp_cs3, xp_goto, xp_iadd, xp_iceq, xp_icge, xp_icgt, xp_icle, xp_iclt, xp_icne, xp_iconst, xp_il10, xp_il11, xp_il4, xp_il5, xp_il6, xp_il7, xp_il8, xp_il9, xp_iln1, xp_iln2, xp_iln3, xp_inc11, xp_inc6, xp_iret, xp_is10, xp_is11, xp_is4, xp_is5, xp_is6, xp_is7, xp_is8, xp_is9, xp_ishr, xp_isn2, xp_isn3, xp_isub, xp_izeq, xp_izle, xp_izne, xp_nop, xp_zret, xv_count, xv_drawnSum, xv_fault, xv_finish, xv_frame, xv_jump, xv_least, xv_leastWith, xv_number, xv_speedFor, xv_why, xv_wrongness, wrI_row, cpI_row, row_s, row_n, row_ss, row_sw, upd_s, upd_n, ad_inj, ad_z, ad_z2, Nat.reduceEqDiff, reduceCtorEq, List.cons_append, List.nil_append, Option.toList_some, Option.toList_none, Int.toNat_natCast, List.length_cons, List.length_nil, Int.cast_ofNat_Int, Nat.reduceAdd, Nat.reduceLeDiff, Nat.reduceLT, Nat.reduceMul, Int.reduceAdd, Int.reduceSub, Int.reduceMul, Int.reduceNeg, Int.reduceLT, Int.reduceLE, Int.reduceEq, Int.reduceToNat, eq_self, true_and, and_true, true_or, or_true, false_or, or_false, if_true, if_false, not_true_eq_false, not_false_eq_true, and_self, ne_eq, b_W_plan_375, hw2, z1]
          (repeat' (first | apply And.intro | split)) <;> first | omega | exact k _ _ _ _ _ _ _ _
        · have e1 : ¬ sLeastWith f m X = -99 := by omega
          have e2 : ¬ sLeastWith f m X < lsU X.1.1 (X.1.1 4 0) := by omega
          simp only [xm_W_plan, b_W_plan_0, P_W_plan_23, b_W_plan_23, P_W_plan_102, b_W_plan_102, P_W_plan_103, b_W_plan_103, P_W_plan_139, b_W_plan_139, P_W_plan_149, b_W_plan_149, P_W_plan_188, b_W_plan_188, P_W_plan_221, b_W_plan_221, P_W_plan_223, b_W_plan_223, P_W_plan_237, b_W_plan_237, P_W_plan_238, b_W_plan_238, P_W_plan_275, b_W_plan_275, P_W_plan_366, b_W_plan_366, P_W_plan_367, b_W_plan_367, P_W_plan_388, b_W_plan_388, P_W_plan_413, b_W_plan_413, P_W_plan_414, b_W_plan_414, P_W_plan_419, b_W_plan_419, P_W_plan_438, b_W_plan_438, P_W_plan_439, b_W_plan_439, P_W_plan_451, b_W_plan_451, P_W_plan_452, b_W_plan_452, x_low, xp_aln0, xp_bipush, xp_cs1, xp_cs2, xp_cs3, xp_goto, xp_iadd, xp_iceq, xp_icge, xp_icgt, xp_icle, xp_iclt, xp_icne, xp_iconst, xp_il10, xp_il11, xp_il4, xp_il5, xp_il6, xp_il7, xp_il8, xp_il9, xp_iln1, xp_iln2, xp_iln3, xp_inc11, xp_inc6, xp_iret, xp_is10, xp_is11, xp_is4, xp_is5, xp_is6, xp_is7, xp_is8, xp_is9, xp_ishr, xp_isn2, xp_isn3, xp_isub, xp_izeq, xp_izle, xp_izne, xp_nop, xp_zret, xv_count, xv_drawnSum, xv_fault, xv_finish, xv_frame, xv_jump, xv_least, xv_leastWith, xv_number, xv_speedFor, xv_why, xv_wrongness, wrI_row, cpI_row, row_s, row_n, row_ss, row_sw, upd_s, upd_n, ad_inj, ad_z, ad_z2, Nat.reduceEqDiff, reduceCtorEq, List.cons_append, List.nil_append, Option.toList_some, Option.toList_none, Int.toNat_natCast, List.length_cons, List.length_nil, Int.cast_ofNat_Int, Nat.reduceAdd, Nat.reduceLeDiff, Nat.reduceLT, Nat.reduceMul, Int.reduceAdd, Int.reduceSub, Int.reduceMul, Int.reduceNeg, Int.reduceLT, Int.reduceLE, Int.reduceEq, Int.reduceToNat, eq_self, true_and, and_true, true_or, or_true, false_or, or_false, if_true, if_false, not_true_eq_false, not_false_eq_true, and_self, ne_eq, b_W_plan_375, hw2, z1, e1, e2]
          (repeat' (first | apply And.intro | split)) <;> first | omega | exact k _ _ _ _ _ _ _ _
      · subst z2
        rcases hge with hge | hge
        · rw [hge]
          simp only [xm_W_plan, b_W_plan_0, P_W_plan_23, b_W_plan_23, P_W_plan_102, b_W_plan_102, P_W_plan_103, b_W_plan_103, P_W_plan_139, b_W_plan_139, P_W_plan_149, b_W_plan_149, P_W_plan_188, b_W_plan_188, P_W_plan_221, b_W_plan_221, P_W_plan_223, b_W_plan_223, P_W_plan_237, b_W_plan_237, P_W_plan_238, b_W_plan_238, P_W_plan_275, b_W_plan_275, P_W_plan_366, b_W_plan_366, P_W_plan_367, b_W_plan_367, P_W_plan_388, b_W_plan_388, P_W_plan_413, b_W_plan_413, P_W_plan_414, b_W_plan_414, P_W_plan_419, b_W_plan_419, P_W_plan_438, b_W_plan_438, P_W_plan_439, b_W_plan_439, P_W_plan_451, b_W_plan_451, P_W_plan_452, b_W_plan_452, x_low, xp_aln0, xp_bipush, xp_cs1, xp_cs2, xp_cs3, xp_goto, xp_iadd, xp_iceq, xp_icge, xp_icgt, xp_icle, xp_iclt, xp_icne, xp_iconst, xp_il10, xp_il11, xp_il4, xp_il5, xp_il6, xp_il7, xp_il8, xp_il9, xp_iln1, xp_iln2, xp_iln3, xp_inc11, xp_inc6, xp_iret, xp_is10, xp_is11, xp_is4, xp_is5, xp_is6, xp_is7, xp_is8, xp_is9, xp_ishr, xp_isn2, xp_isn3, xp_isub, xp_izeq, xp_izle, xp_izne, xp_nop, xp_zret, xv_count, xv_drawnSum, xv_fault, xv_finish, xv_frame, xv_jump, xv_least, xv_leastWith, xv_number, xv_speedFor, xv_why, xv_wrongness, wrI_row, cpI_row, row_s, row_n, row_ss, row_sw, upd_s, upd_n, ad_inj, ad_z, ad_z2, Nat.reduceEqDiff, reduceCtorEq, List.cons_append, List.nil_append, Option.toList_some, Option.toList_none, Int.toNat_natCast, List.length_cons, List.length_nil, Int.cast_ofNat_Int, Nat.reduceAdd, Nat.reduceLeDiff, Nat.reduceLT, Nat.reduceMul, Int.reduceAdd, Int.reduceSub, Int.reduceMul, Int.reduceNeg, Int.reduceLT, Int.reduceLE, Int.reduceEq, Int.reduceToNat, eq_self, true_and, and_true, true_or, or_true, false_or, or_false, if_true, if_false, not_true_eq_false, not_false_eq_true, and_self, ne_eq, b_W_plan_375, hw2, z1]
          (repeat' (first | apply And.intro | split)) <;> first | omega | exact k _ _ _ _ _ _ _ _
        · have e1 : ¬ sLeastWith f m X = -99 := by omega
          have e2 : ¬ sLeastWith f m X < lsU X.1.1 (X.1.1 4 0) := by omega
          simp only [xm_W_plan, b_W_plan_0, P_W_plan_23, b_W_plan_23, P_W_plan_102, b_W_plan_102, P_W_plan_103, b_W_plan_103, P_W_plan_139, b_W_plan_139, P_W_plan_149, b_W_plan_149, P_W_plan_188, b_W_plan_188, P_W_plan_221, b_W_plan_221, P_W_plan_223, b_W_plan_223, P_W_plan_237, b_W_plan_237, P_W_plan_238, b_W_plan_238, P_W_plan_275, b_W_plan_275, P_W_plan_366, b_W_plan_366, P_W_plan_367, b_W_plan_367, P_W_plan_388, b_W_plan_388, P_W_plan_413, b_W_plan_413, P_W_plan_414, b_W_plan_414, P_W_plan_419, b_W_plan_419, P_W_plan_438, b_W_plan_438, P_W_plan_439, b_W_plan_439, P_W_plan_451, b_W_plan_451, P_W_plan_452, b_W_plan_452, x_low, xp_aln0, xp_bipush, xp_cs1, xp_cs2, xp_cs3, xp_goto, xp_iadd, xp_iceq, xp_icge, xp_icgt, xp_icle, xp_iclt, xp_icne, xp_iconst, xp_il10, xp_il11, xp_il4, xp_il5, xp_il6, xp_il7, xp_il8, xp_il9, xp_iln1, xp_iln2, xp_iln3, xp_inc11, xp_inc6, xp_iret, xp_is10, xp_is11, xp_is4, xp_is5, xp_is6, xp_is7, xp_is8, xp_is9, xp_ishr, xp_isn2, xp_isn3, xp_isub, xp_izeq, xp_izle, xp_izne, xp_nop, xp_zret, xv_count, xv_drawnSum, xv_fault, xv_finish, xv_frame, xv_jump, xv_least, xv_leastWith, xv_number, xv_speedFor, xv_why, xv_wrongness, wrI_row, cpI_row, row_s, row_n, row_ss, row_sw, upd_s, upd_n, ad_inj, ad_z, ad_z2, Nat.reduceEqDiff, reduceCtorEq, List.cons_append, List.nil_append, Option.toList_some, Option.toList_none, Int.toNat_natCast, List.length_cons, List.length_nil, Int.cast_ofNat_Int, Nat.reduceAdd, Nat.reduceLeDiff, Nat.reduceLT, Nat.reduceMul, Int.reduceAdd, Int.reduceSub, Int.reduceMul, Int.reduceNeg, Int.reduceLT, Int.reduceLE, Int.reduceEq, Int.reduceToNat, eq_self, true_and, and_true, true_or, or_true, false_or, or_false, if_true, if_false, not_true_eq_false, not_false_eq_true, and_self, ne_eq, b_W_plan_375, hw2, z1, e1, e2]
          (repeat' (first | apply And.intro | split)) <;> first | omega | exact k _ _ _ _ _ _ _ _
    have l2 := plan_2 (zt := zt) (L := L) (g := g) (ρ := ρ) hW hl f1.2 (end3 o4 o5) (pM X.1.1) 0 (by omega)
    have hz : ((0 : Nat) : Int) = 0 := rfl
    rw [hz] at l2
    simp only [xm_W_plan, b_W_plan_0, P_W_plan_23, b_W_plan_23, P_W_plan_102, b_W_plan_102, P_W_plan_103, b_W_plan_103, P_W_plan_139, b_W_plan_139, P_W_plan_149, b_W_plan_149, P_W_plan_188, b_W_plan_188, P_W_plan_221, b_W_plan_221, P_W_plan_223, b_W_plan_223, P_W_plan_237, b_W_plan_237, P_W_plan_238, b_W_plan_238, P_W_plan_275, b_W_plan_275, P_W_plan_366, b_W_plan_366, P_W_plan_367, b_W_plan_367, P_W_plan_388, b_W_plan_388, P_W_plan_413, b_W_plan_413, P_W_plan_414, b_W_plan_414, P_W_plan_419, b_W_plan_419, P_W_plan_438, b_W_plan_438, P_W_plan_439, b_W_plan_439, P_W_plan_451, b_W_plan_451, P_W_plan_452, b_W_plan_452, x_low, xp_aln0, xp_bipush, xp_cs1, xp_cs2, xp_cs3, xp_goto, xp_iadd, xp_iceq, xp_icge, xp_icgt, xp_icle, xp_iclt, xp_icne, xp_iconst, xp_il10, xp_il11, xp_il4, xp_il5, xp_il6, xp_il7, xp_il8, xp_il9, xp_iln1, xp_iln2, xp_iln3, xp_inc11, xp_inc6, xp_iret, xp_is10, xp_is11, xp_is4, xp_is5, xp_is6, xp_is7, xp_is8, xp_is9, xp_ishr, xp_isn2, xp_isn3, xp_isub, xp_izeq, xp_izle, xp_izne, xp_nop, xp_zret, xv_count, xv_drawnSum, xv_fault, xv_finish, xv_frame, xv_jump, xv_least, xv_leastWith, xv_number, xv_speedFor, xv_why, xv_wrongness, wrI_row, cpI_row, row_s, row_n, row_ss, row_sw, upd_s, upd_n, ad_inj, ad_z, ad_z2, Nat.reduceEqDiff, reduceCtorEq, List.cons_append, List.nil_append, Option.toList_some, Option.toList_none, Int.toNat_natCast, List.length_cons, List.length_nil, Int.cast_ofNat_Int, Nat.reduceAdd, Nat.reduceLeDiff, Nat.reduceLT, Nat.reduceMul, Int.reduceAdd, Int.reduceSub, Int.reduceMul, Int.reduceNeg, Int.reduceLT, Int.reduceLE, Int.reduceEq, Int.reduceToNat, eq_self, true_and, and_true, true_or, or_true, false_or, or_false, if_true, if_false, not_true_eq_false, not_false_eq_true, and_self, ne_eq, b_W_plan_277, c, sCt_0, hf, hm, q6]
    (repeat' (first | apply And.intro | split)) <;> first | omega | exact l2
theorem x_plan (hW : WFX X) {x : Int} (Q : Option AV → XV → Prop) : XpM zt L (g, ρ) 88 [AR L, AI x] X Q ↔ Q (some (AI 1)) X := by
  refine xpm_iff (fun Q hQ => ?_) Q
  have hU := hW.1.1
  have b0 := hU.1
  have b4 := hU.2.2.2.1
  have b8 := hU.2.2.2.2.2.2.1
  have hb := ls_r hU
  by_cases c : lsU X.1.1 (X.1.1 4 0) = -99
  · have hF : ¬ X.1.1 8 0 ≤ 0 := by
      intro q
      unfold lsU lstV at c
      rw [if_pos (by unfold pF; omega)] at c
      omega
    have f1 := lowI_b (v := x) (n := X.1.1 8 0) (by omega)
    have f2 := lowI_b (v := shrI x 7) (n := X.1.1 0 0) (by omega)
    have q6 : sFrame (lowI x (X.1.1 8 0)) 6 X = -99 := by rw [sFr_6 f1, if_pos c]
    have qy : sWhy (lowI x (X.1.1 8 0)) X = -99 := by
      unfold sWhy
      rw [if_pos f1, if_pos c]
    have qw : sLeastWith (lowI x (X.1.1 8 0)) (lowI (shrI x 7) (X.1.1 0 0)) X = -99 := by
      unfold sLeastWith
      rw [if_pos ⟨f1, f2⟩]
      exact with_none hU (by omega) c
    have qf : sFinish X = (-2, X) := if_pos c
    simp only [xm_W_plan, b_W_plan_0, P_W_plan_23, b_W_plan_23, P_W_plan_102, b_W_plan_102, P_W_plan_103, b_W_plan_103, P_W_plan_139, b_W_plan_139, P_W_plan_149, b_W_plan_149, P_W_plan_188, b_W_plan_188, P_W_plan_221, b_W_plan_221, P_W_plan_223, b_W_plan_223, P_W_plan_237, b_W_plan_237, P_W_plan_238, b_W_plan_238, P_W_plan_275, b_W_plan_275, P_W_plan_366, b_W_plan_366, P_W_plan_367, b_W_plan_367, P_W_plan_388, b_W_plan_388, P_W_plan_413, b_W_plan_413, P_W_plan_414, b_W_plan_414, P_W_plan_419, b_W_plan_419, P_W_plan_438, b_W_plan_438, P_W_plan_439, b_W_plan_439, P_W_plan_451, b_W_plan_451, P_W_plan_452, b_W_plan_452, x_low, xp_aln0, xp_bipush, xp_cs1, xp_cs2, xp_cs3, xp_goto, xp_iadd, xp_iceq, xp_icge, xp_icgt, xp_icle, xp_iclt, xp_icne, xp_iconst, xp_il10, xp_il11, xp_il4, xp_il5, xp_il6, xp_il7, xp_il8, xp_il9, xp_iln1, xp_iln2, xp_iln3, xp_inc11, xp_inc6, xp_iret, xp_is10, xp_is11, xp_is4, xp_is5, xp_is6, xp_is7, xp_is8, xp_is9, xp_ishr, xp_isn2, xp_isn3, xp_isub, xp_izeq, xp_izle, xp_izne, xp_nop, xp_zret, xv_count, xv_drawnSum, xv_fault, xv_finish, xv_frame, xv_jump, xv_least, xv_leastWith, xv_number, xv_speedFor, xv_why, xv_wrongness, wrI_row, cpI_row, row_s, row_n, row_ss, row_sw, upd_s, upd_n, ad_inj, ad_z, ad_z2, Nat.reduceEqDiff, reduceCtorEq, List.cons_append, List.nil_append, Option.toList_some, Option.toList_none, Int.toNat_natCast, List.length_cons, List.length_nil, Int.cast_ofNat_Int, Nat.reduceAdd, Nat.reduceLeDiff, Nat.reduceLT, Nat.reduceMul, Int.reduceAdd, Int.reduceSub, Int.reduceMul, Int.reduceNeg, Int.reduceLT, Int.reduceLE, Int.reduceEq, Int.reduceToNat, eq_self, true_and, and_true, true_or, or_true, false_or, or_false, if_true, if_false, not_true_eq_false, not_false_eq_true, and_self, ne_eq, sLs_0, sLs_1, sCt_0, sCt_2, c, hF, q6, qy, qw, qf]
    (repeat' (first | apply And.intro | split)) <;> first | omega | exact hQ
  · obtain ⟨s1, s2⟩ := speed_le hU c
    have s3 : ¬ sSpeedFor (lsU X.1.1 (X.1.1 4 0)) X = -99 := by omega
    have k := fun o4 o5 o6 o7 o8 o9 o10 o11 => plan_4 (zt := zt) (L := L) (g := g) (ρ := ρ) hW c (x := x) (o4 := o4) (o5 := o5) (o6 := o6) (o7 := o7) (o8 := o8) (o9 := o9) (o10 := o10) (o11 := o11) hQ
    have k2 : ∀ o5 o7 o8 : Option AV, Xp zt L (g, ρ) 88 (P 88 246) [some (AR L), some (AI x), some (AI (lsU X.1.1 (X.1.1 4 0))), some (AI (X.1.1 8 0)), some (AI (lsU X.1.1 (X.1.1 4 0))), o5, some (AI (X.1.1 8 0)), o7, o8, none, none, none] [] X Q := by
      intro o5 o7 o8
      rw [P_W_plan_246]
      simp only [xm_W_plan, b_W_plan_0, P_W_plan_23, b_W_plan_23, P_W_plan_102, b_W_plan_102, P_W_plan_103, b_W_plan_103, P_W_plan_139, b_W_plan_139, P_W_plan_149, b_W_plan_149, P_W_plan_188, b_W_plan_188, P_W_plan_221, b_W_plan_221, P_W_plan_223, b_W_plan_223, P_W_plan_237, b_W_plan_237, P_W_plan_238, b_W_plan_238, P_W_plan_275, b_W_plan_275, P_W_plan_366, b_W_plan_366, P_W_plan_367, b_W_plan_367, P_W_plan_388, b_W_plan_388, P_W_plan_413, b_W_plan_413, P_W_plan_414, b_W_plan_414, P_W_plan_419, b_W_plan_419, P_W_plan_438, b_W_plan_438, P_W_plan_439, b_W_plan_439, P_W_plan_451, b_W_plan_451, P_W_plan_452, b_W_plan_452, x_low, xp_aln0, xp_bipush, xp_cs1, xp_cs2, xp_cs3, xp_goto, xp_iadd, xp_iceq, xp_icge, xp_icgt, xp_icle, xp_iclt, xp_icne, xp_iconst, xp_il10, xp_il11, xp_il4, xp_il5, xp_il6, xp_il7, xp_il8, xp_il9, xp_iln1, xp_iln2, xp_iln3, xp_inc11, xp_inc6, xp_iret, xp_is10, xp_is11, xp_is4, xp_is5, xp_is6, xp_is7, xp_is8, xp_is9, xp_ishr, xp_isn2, xp_isn3, xp_isub, xp_izeq, xp_izle, xp_izne, xp_nop, xp_zret, xv_count, xv_drawnSum, xv_fault, xv_finish, xv_frame, xv_jump, xv_least, xv_leastWith, xv_number, xv_speedFor, xv_why, xv_wrongness, wrI_row, cpI_row, row_s, row_n, row_ss, row_sw, upd_s, upd_n, ad_inj, ad_z, ad_z2, Nat.reduceEqDiff, reduceCtorEq, List.cons_append, List.nil_append, Option.toList_some, Option.toList_none, Int.toNat_natCast, List.length_cons, List.length_nil, Int.cast_ofNat_Int, Nat.reduceAdd, Nat.reduceLeDiff, Nat.reduceLT, Nat.reduceMul, Int.reduceAdd, Int.reduceSub, Int.reduceMul, Int.reduceNeg, Int.reduceLT, Int.reduceLE, Int.reduceEq, Int.reduceToNat, eq_self, true_and, and_true, true_or, or_true, false_or, or_false, if_true, if_false, not_true_eq_false, not_false_eq_true, and_self, ne_eq, b_W_plan_246, sNm_0, s3, s2]
      (repeat' (first | apply And.intro | split)) <;> first | omega | exact k _ _ _ _ _ _ _ _
    have l1 := plan_1 (zt := zt) (L := L) (g := g) (ρ := ρ) hW c k2 (pF X.1.1) 0 none none (by omega)
    have e1 : sumP (cstV (-1) X.1.1) (plN X.1.1) 0 = 0 := rfl
    have e2 : rnP (plN X.1.1) 0 = 0 := rfl
    have hz : ((0 : Nat) : Int) = 0 := rfl
    rw [e1, e2, hz] at l1
    simp only [xm_W_plan, b_W_plan_0, P_W_plan_23, b_W_plan_23, P_W_plan_102, b_W_plan_102, P_W_plan_103, b_W_plan_103, P_W_plan_104, b_W_plan_104, P_W_plan_139, b_W_plan_139, P_W_plan_149, b_W_plan_149, P_W_plan_188, b_W_plan_188, P_W_plan_221, b_W_plan_221, P_W_plan_223, b_W_plan_223, P_W_plan_237, b_W_plan_237, P_W_plan_238, b_W_plan_238, P_W_plan_275, b_W_plan_275, P_W_plan_366, b_W_plan_366, P_W_plan_367, b_W_plan_367, P_W_plan_388, b_W_plan_388, P_W_plan_413, b_W_plan_413, P_W_plan_414, b_W_plan_414, P_W_plan_419, b_W_plan_419, P_W_plan_438, b_W_plan_438, P_W_plan_439, b_W_plan_439, P_W_plan_451, b_W_plan_451, P_W_plan_452, b_W_plan_452, x_low, xp_aln0, xp_bipush, xp_cs1, xp_cs2, xp_cs3, xp_goto, xp_iadd, xp_iceq, xp_icge, xp_icgt, xp_icle, xp_iclt, xp_icne, xp_iconst, xp_il10, xp_il11, xp_il4, xp_il5, xp_il6, xp_il7, xp_il8, xp_il9, xp_iln1, xp_iln2, xp_iln3, xp_inc11, xp_inc6, xp_iret, xp_is10, xp_is11, xp_is4, xp_is5, xp_is6, xp_is7, xp_is8, xp_is9, xp_ishr, xp_isn2, xp_isn3, xp_isub, xp_izeq, xp_izle, xp_izne, xp_nop, xp_zret, xv_count, xv_drawnSum, xv_fault, xv_finish, xv_frame, xv_jump, xv_least, xv_leastWith, xv_number, xv_speedFor, xv_why, xv_wrongness, wrI_row, cpI_row, row_s, row_n, row_ss, row_sw, upd_s, upd_n, ad_inj, ad_z, ad_z2, Nat.reduceEqDiff, reduceCtorEq, List.cons_append, List.nil_append, Option.toList_some, Option.toList_none, Int.toNat_natCast, List.length_cons, List.length_nil, Int.cast_ofNat_Int, Nat.reduceAdd, Nat.reduceLeDiff, Nat.reduceLT, Nat.reduceMul, Int.reduceAdd, Int.reduceSub, Int.reduceMul, Int.reduceNeg, Int.reduceLT, Int.reduceLE, Int.reduceEq, Int.reduceToNat, eq_self, true_and, and_true, true_or, or_true, false_or, or_false, if_true, if_false, not_true_eq_false, not_false_eq_true, and_self, ne_eq, sLs_0, sLs_1, sCt_2, c]
    (repeat' (first | apply And.intro | split)) <;> first | omega | exact l1
end XPL
