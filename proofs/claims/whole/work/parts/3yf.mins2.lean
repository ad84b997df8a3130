/-! inserts; insert, remove, stretch -/
/-- a page with a new segment -/
def insM (r : Nat → Int) (F0 F G s : Nat) (kd : Int) (m : Nat) : Nat → Int := upd1 (upd1 (upd1 (mvR (pnR r (opM (fun j => r (119 + j)) F0 m F) (opM (fun j => r (218 + j)) F0 m F)) (59 + 2 * s) 2 (59 + 2 * G)) (59 + 2 * s) kd) (60 + 2 * s) m) 58 ((G : Int) + 1)
theorem mvR_o {r : Nat → Int} {f m F y : Nat} (h : y < f + m ∨ F + m ≤ y) : mvR r f m F y = r y := if_neg (by omega)
theorem mvR_i {r : Nat → Int} {f m F y : Nat} (h : f + m ≤ y) (h2 : y < F + m) : mvR r f m F y = r (y - m) := if_pos ⟨h, h2⟩
theorem insM_lr {r : Nat → Int} {U : Vw} (hR : LR (-1) (vwM r) U) (hU : WFV (-1) U) {s m G F0 F : Nat} {kd : Int} (hG : (G : Int) = U 5 0) (hF : (F : Int) = U 8 0) (hF0 : (F0 : Int) = sumL U s) (hs : s ≤ G) (hk : 0 ≤ kd ∧ kd ≤ 9) (hm : 1 ≤ m ∧ m ≤ 20) (hG3 : U 5 0 < 30) (hF9 : U 8 0 + m ≤ 99) : LR (-1) (vwM (insM r F0 F G s kd m)) (insV U s kd m) := by
  have hW := insV_wf hU (s := s) (m := m) (kd := kd) (by omega) hG3 hk hm hF9
  have b0 := hU.1
  have sb := sumL_at hU (s := s) (by omega)
  have e0 : (sumL U s).toNat = F0 := by omega
  refine lrm_mk hW ?_ ?_ (fun j hj => ?_) (fun j hj => ?_) (fun j hj => ?_) (fun j hj => ?_) (fun j hj => ?_)
  · show insM r F0 F G s kd m 0 = U 0 0
    unfold insM
    rw [upd_n (by omega), upd_n (by omega), upd_n (by omega), mvR_o (by omega), pnR_o (by omega)]
    exact m_0 hR
  · show insM r F0 F G s kd m 58 = U 5 0 + 1
    unfold insM
    rw [upd_s]
    omega
  · replace hj : (j : Int) < U 0 0 := hj
    show insM r F0 F G s kd m (1 + 2 * j) = U 1 j ∧ insM r F0 F G s kd m (2 + 2 * j) = U 2 j
    unfold insM
    rw [upd_n (by omega), upd_n (by omega), upd_n (by omega), mvR_o (by omega), pnR_o (by omega), upd_n (by omega), upd_n (by omega), upd_n (by omega), mvR_o (by omega), pnR_o (by omega)]
    exact p_1 hR hU hj
  · show insM r F0 F G s kd m (17 + j) = U 3 j
    unfold insM
    rw [upd_n (by omega), upd_n (by omega), upd_n (by omega), mvR_o (by omega), pnR_o (by omega)]
    exact m_sn hR hj
  · show insM r F0 F G s kd m (53 + j) = U 4 j
    unfold insM
    rw [upd_n (by omega), upd_n (by omega), upd_n (by omega), mvR_o (by omega), pnR_o (by omega)]
    exact m_nm hR hj
  · replace hj : (j : Int) < U 5 0 + 1 := hj
    show insM r F0 F G s kd m (59 + 2 * j) = insR (U 6) s kd j ∧ insM r F0 F G s kd m (60 + 2 * j) = insR (U 7) s m j
    unfold insM insR
    rw [upd_n (show ¬ 59 + 2 * j = 58 by omega), upd_n (show ¬ 59 + 2 * j = 60 + 2 * s by omega), upd_n (show ¬ 60 + 2 * j = 58 by omega)]
    by_cases c1 : j < s
    · have q := p_6 hR hU (j := j) (by omega)
      rw [if_pos c1, if_pos c1, upd_n (by omega), mvR_o (by omega), pnR_o (by omega), upd_n (by omega), upd_n (by omega), mvR_o (by omega), pnR_o (by omega)]
      exact q
    · by_cases c2 : j = s
      · rw [if_neg c1, if_neg c1, if_pos c2, if_pos c2, c2, upd_s, upd_s]
        exact ⟨rfl, rfl⟩
      · have q := p_6 hR hU (j := j - 1) (by omega)
        rw [if_neg c1, if_neg c1, if_neg c2, if_neg c2, upd_n (by omega), mvR_i (by omega) (by omega), pnR_o (by omega), upd_n (by omega), upd_n (by omega), mvR_i (by omega) (by omega), pnR_o (by omega), show 59 + 2 * j - 2 = 59 + 2 * (j - 1) by omega, show 60 + 2 * j - 2 = 60 + 2 * (j - 1) by omega]
        exact q
  · replace hj : (j : Int) < U 8 0 + m := hj
    show insM r F0 F G s kd m (119 + j) = opnR (U 9) (sumL U s).toNat m j ∧ insM r F0 F G s kd m (218 + j) = opnR (U 10) (sumL U s).toNat m j
    unfold insM
    rw [upd_n (by omega), upd_n (by omega), upd_n (by omega), mvR_o (by omega), pnR_p (by omega), upd_n (by omega), upd_n (by omega), upd_n (by omega), mvR_o (by omega), pnR_d (by omega), opM_v (by omega), opM_v (by omega), e0]
    unfold opnR
    by_cases c1 : j < F0
    · rw [if_pos c1, if_pos c1, if_pos c1, if_pos c1]
      exact p_9 hR hU (by omega)
    · rw [if_neg c1, if_neg c1, if_neg c1, if_neg c1]
      by_cases c2 : j < F0 + m
      · rw [if_pos c2, if_pos c2, if_pos c2, if_pos c2]
        exact ⟨rfl, rfl⟩
      · rw [if_neg c2, if_neg c2, if_neg c2, if_neg c2]
        exact p_9 hR hU (by omega)
theorem insM_hi {r : Nat → Int} {s m G F0 F y : Nat} {kd : Int} (hs : s ≤ G) (hG : G < 30) (h : 317 ≤ y) : insM r F0 F G s kd m y = r y := by
  unfold insM
  rw [upd_n (by omega), upd_n (by omega), upd_n (by omega), mvR_o (by omega), pnR_o (by omega)]
section MSI
variable {zt : Nat → Nat} {g : Nat → Nat → Int} {ρ : Ri} {b : Nat} {U : Vw}
theorem inserts_shift (hb : kdI ρ b 0) (hl : lnA ρ b = 953) {s G : Nat} {kd m : Int} {o4 o5 : Option AV} (hs : s ≤ G) (hG : G < 30) {R1 : Nat → Int} {Q : Option AV → Sto → Prop} (hQ : ∀ o6 : Option AV, Wp zt 113 (P 113 89) [some (AR b), some (AI s), some (AI kd), some (AI m), o4, o5, o6] [] (setRow g b (mvR R1 (59 + 2 * s) 2 (59 + 2 * G)), ρ) Q) :
    ∀ (d x : Nat), x = 59 + 2 * s + d → x ≤ 59 + 2 * G → Wp zt 113 (P 113 62) [some (AR b), some (AI s), some (AI kd), some (AI m), o4, o5, some (AI ((x : Int) - 1))] [] (setRow g b (mvR R1 x 2 (59 + 2 * G)), ρ) Q := by
  intro d
  induction d with
  | zero =>
    intro x h1 h2
    have e : x = 59 + 2 * s := by omega
    subst e
    have q := hQ (some (AI (((59 + 2 * s : Nat) : Int) - 1)))
    rw [P_M_inserts_62]
    simp only [m_M_inserts, b_M_inserts_0, wp_abs, wp_aln0, wp_bipush, wp_copy, wp_cs1, wp_cs2, wp_cs3, wp_cs4, wp_cs5, wp_cs6, wp_cs7, wp_dup2, wp_goto, wp_iadd, wp_iald, wp_iast, wp_icge, wp_iclt, wp_iconst, wp_il4, wp_il5, wp_il6, wp_iln1, wp_iln2, wp_iln3, wp_imul, wp_inc6, wp_is4, wp_is5, wp_is6, wp_isub, wp_max, wp_min, wp_nop, wp_ret, wrI_row, cpI_row, row_s, row_n, row_ss, row_sw, upd_s, upd_n, ad_inj, ad_z, ad_z2, Nat.reduceEqDiff, reduceCtorEq, List.cons_append, List.nil_append, Option.toList_some, Option.toList_none, Int.toNat_natCast, List.length_cons, List.length_nil, Int.cast_ofNat_Int, Nat.reduceAdd, Nat.reduceLeDiff, Nat.reduceLT, Nat.reduceMul, Int.reduceAdd, Int.reduceSub, Int.reduceMul, Int.reduceNeg, Int.reduceLT, Int.reduceLE, Int.reduceEq, Int.reduceToNat, eq_self, true_and, and_true, true_or, or_true, false_or, or_false, if_true, if_false, not_true_eq_false, not_false_eq_true, and_self, ne_eq, b_M_inserts_62]
    (repeat' (first | apply And.intro | split)) <;> first | omega | exact q
  | succ d ih =>
    intro x h1 h2
    obtain ⟨x2, rfl⟩ : ∃ x2, x = x2 + 1 := ⟨x - 1, by omega⟩
    have i1 := ih x2 (by omega) (by omega)
    rw [← mvR_st (show x2 < 59 + 2 * G by omega)] at i1
    have e1 : ((x2 + 1 : Nat) : Int) - 1 = (x2 : Int) := by omega
    have e2 : ((x2 : Int) + 2).toNat = x2 + 2 := by omega
    have e3 : ((x2 : Int) + -1) = (x2 : Int) - 1 := by omega
    rw [P_M_inserts_62, e1]
    simp only [m_M_inserts, b_M_inserts_0, wp_abs, wp_aln0, wp_bipush, wp_copy, wp_cs1, wp_cs2, wp_cs3, wp_cs4, wp_cs5, wp_cs6, wp_cs7, wp_dup2, wp_goto, wp_iadd, wp_iald, wp_iast, wp_icge, wp_iclt, wp_iconst, wp_il4, wp_il5, wp_il6, wp_iln1, wp_iln2, wp_iln3, wp_imul, wp_inc6, wp_is4, wp_is5, wp_is6, wp_isub, wp_max, wp_min, wp_nop, wp_ret, wrI_row, cpI_row, row_s, row_n, row_ss, row_sw, upd_s, upd_n, ad_inj, ad_z, ad_z2, Nat.reduceEqDiff, reduceCtorEq, List.cons_append, List.nil_append, Option.toList_some, Option.toList_none, Int.toNat_natCast, List.length_cons, List.length_nil, Int.cast_ofNat_Int, Nat.reduceAdd, Nat.reduceLeDiff, Nat.reduceLT, Nat.reduceMul, Int.reduceAdd, Int.reduceSub, Int.reduceMul, Int.reduceNeg, Int.reduceLT, Int.reduceLE, Int.reduceEq, Int.reduceToNat, eq_self, true_and, and_true, true_or, or_true, false_or, or_false, if_true, if_false, not_true_eq_false, not_false_eq_true, and_self, ne_eq, b_M_inserts_62, hb, hl, e2, e3]
    (repeat' (first | apply And.intro | split)) <;> first | omega | exact i1
theorem inserts_sum (hb : kdI ρ b 0) (hl : lnA ρ b = 953) (hR : LR (-1) (vwM (g b)) U) (hU : WFV (-1) U) {s : Nat} (hs : (s : Int) ≤ U 5 0) {kd m F : Int} {Q : Option AV → Sto → Prop} (hQ : ∀ o6 : Option AV, Wp zt 113 (P 113 40) [some (AR b), some (AI s), some (AI kd), some (AI m), some (AI F), some (AI (sumL U s)), o6] [] (g, ρ) Q) :
    ∀ (d k : Nat), k + d = s → Wp zt 113 (P 113 12) [some (AR b), some (AI s), some (AI kd), some (AI m), some (AI F), some (AI (sumL U k)), some (AI k)] [] (g, ρ) Q := by
  have b5 := hU.2.2.2.2.1
  intro d
  induction d with
  | zero =>
    intro k hk
    have e : k = s := by omega
    subst e
    have q := hQ (some (AI (k : Int)))
    rw [P_M_inserts_12]
    simp only [m_M_inserts, b_M_inserts_0, wp_abs, wp_aln0, wp_bipush, wp_copy, wp_cs1, wp_cs2, wp_cs3, wp_cs4, wp_cs5, wp_cs6, wp_cs7, wp_dup2, wp_goto, wp_iadd, wp_iald, wp_iast, wp_icge, wp_iclt, wp_iconst, wp_il4, wp_il5, wp_il6, wp_iln1, wp_iln2, wp_iln3, wp_imul, wp_inc6, wp_is4, wp_is5, wp_is6, wp_isub, wp_max, wp_min, wp_nop, wp_ret, wrI_row, cpI_row, row_s, row_n, row_ss, row_sw, upd_s, upd_n, ad_inj, ad_z, ad_z2, Nat.reduceEqDiff, reduceCtorEq, List.cons_append, List.nil_append, Option.toList_some, Option.toList_none, Int.toNat_natCast, List.length_cons, List.length_nil, Int.cast_ofNat_Int, Nat.reduceAdd, Nat.reduceLeDiff, Nat.reduceLT, Nat.reduceMul, Int.reduceAdd, Int.reduceSub, Int.reduceMul, Int.reduceNeg, Int.reduceLT, Int.reduceLE, Int.reduceEq, Int.reduceToNat, eq_self, true_and, and_true, true_or, or_true, false_or, or_false, if_true, if_false, not_true_eq_false, not_false_eq_true, and_self, ne_eq, b_M_inserts_12]
    (repeat' (first | apply And.intro | split)) <;> first | omega | exact q
  | succ d ih =>
    intro k hk
    have i1 := ih (k + 1) (by omega)
    have e1 := m_ln hR hU (s := k) (by omega) (by omega)
    rw [Int.toNat_natCast] at e1
    simp only [sumL] at i1
    rw [P_M_inserts_12]
    simp only [m_M_inserts, b_M_inserts_0, wp_abs, wp_aln0, wp_bipush, wp_copy, wp_cs1, wp_cs2, wp_cs3, wp_cs4, wp_cs5, wp_cs6, wp_cs7, wp_dup2, wp_goto, wp_iadd, wp_iald, wp_iast, wp_icge, wp_iclt, wp_iconst, wp_il4, wp_il5, wp_il6, wp_iln1, wp_iln2, wp_iln3, wp_imul, wp_inc6, wp_is4, wp_is5, wp_is6, wp_isub, wp_max, wp_min, wp_nop, wp_ret, wrI_row, cpI_row, row_s, row_n, row_ss, row_sw, upd_s, upd_n, ad_inj, ad_z, ad_z2, Nat.reduceEqDiff, reduceCtorEq, List.cons_append, List.nil_append, Option.toList_some, Option.toList_none, Int.toNat_natCast, List.length_cons, List.length_nil, Int.cast_ofNat_Int, Nat.reduceAdd, Nat.reduceLeDiff, Nat.reduceLT, Nat.reduceMul, Int.reduceAdd, Int.reduceSub, Int.reduceMul, Int.reduceNeg, Int.reduceLT, Int.reduceLE, Int.reduceEq, Int.reduceToNat, eq_self, true_and, and_true, true_or, or_true, false_or, or_false, if_true, if_false, not_true_eq_false, not_false_eq_true, and_self, ne_eq, b_M_inserts_12, hb, hl, e1]
    (repeat' (first | apply And.intro | split)) <;> first | omega | exact i1
theorem inserts_ok (hb : kdI ρ b 0) (hl : lnA ρ b = 953) (hR : LR (-1) (vwM (g b)) U) (hU : WFV (-1) U) {s m : Nat} {kd : Int} (hs : (s : Int) ≤ U 5 0) (hk : 0 ≤ kd ∧ kd ≤ 9) (hm : 1 ≤ m ∧ m ≤ 20) (hG3 : U 5 0 < 30) (hF9 : U 8 0 + m ≤ 99) {s' m' : Int} (es : s' = s) (em : m' = m) {Q : Option AV → Sto → Prop} (hQ : ∀ R' : Nat → Int, LR (-1) (vwM R') (insV U s kd m) → (∀ y, 317 ≤ y → R' y = g b y) → Q none (setRow g b R', ρ)) : WpM zt 113 [AR b, AI s', AI kd, AI m'] (g, ρ) Q := by
  subst es em
  have b5 := hU.2.2.2.2.1
  have b8 := hU.2.2.2.2.2.2.1
  have sb := sumL_at hU (s := s) hs
  obtain ⟨G, hG⟩ := Int.eq_ofNat_of_zero_le b5.1
  obtain ⟨F, hF⟩ := Int.eq_ofNat_of_zero_le b8.1
  obtain ⟨F0, hF0⟩ := Int.eq_ofNat_of_zero_le sb.1
  have e5 := m_5 hR
  have q := hQ (insM (g b) F0 F G s kd m) (insM_lr hR hU hG.symm hF.symm hF0.symm (by omega) hk hm hG3 hF9) (fun y hy => insM_hi (by omega) (by omega) hy)
  have a1 := allOf_ok (zt := zt) hb hl hR hU
  have op := fun Q => opens_ok (zt := zt) (g := g) hb hl (f := F0) (m := m) (F := F) (f' := sumL U s) (m' := m) (F' := U 8 0) (by omega) (by omega) hF0 rfl hF Q
  have f58 : pnR (g b) (opM (fun j => g b (119 + j)) F0 m F) (opM (fun j => g b (218 + j)) F0 m F) 58 = (G : Int) := by
    rw [pnR_o (by omega), e5, hG]
  have f58b : mvR (pnR (g b) (opM (fun j => g b (119 + j)) F0 m F) (opM (fun j => g b (218 + j)) F0 m F)) (59 + 2 * s) 2 (59 + 2 * G) 58 = (G : Int) := by
    rw [mvR_o (by omega), f58]
  have i1 : (59 + 2 * (s : Int)).toNat = 59 + 2 * s := by omega
  have i2 : (59 + 2 * (s : Int) + 1).toNat = 60 + 2 * s := by omega
  have n1 : (58 = 59 + 2 * s) ↔ False := iff_false_intro (by omega)
  have n2 : (58 = 60 + 2 * s) ↔ False := iff_false_intro (by omega)
  have fin1 : ∀ o6 : Option AV, Wp zt 113 (P 113 89) [some (AR b), some (AI s), some (AI kd), some (AI m), some (AI (U 8 0)), some (AI (sumL U s)), o6] [] (setRow g b (mvR (pnR (g b) (opM (fun j => g b (119 + j)) F0 m F) (opM (fun j => g b (218 + j)) F0 m F)) (59 + 2 * s) 2 (59 + 2 * G)), ρ) Q := by
    intro o6
    unfold insM at q
    rw [P_M_inserts_89]
    simp only [m_M_inserts, b_M_inserts_0, wp_abs, wp_aln0, wp_bipush, wp_copy, wp_cs1, wp_cs2, wp_cs3, wp_cs4, wp_cs5, wp_cs6, wp_cs7, wp_dup2, wp_goto, wp_iadd, wp_iald, wp_iast, wp_icge, wp_iclt, wp_iconst, wp_il4, wp_il5, wp_il6, wp_iln1, wp_iln2, wp_iln3, wp_imul, wp_inc6, wp_is4, wp_is5, wp_is6, wp_isub, wp_max, wp_min, wp_nop, wp_ret, wrI_row, cpI_row, row_s, row_n, row_ss, row_sw, upd_s, upd_n, ad_inj, ad_z, ad_z2, Nat.reduceEqDiff, reduceCtorEq, List.cons_append, List.nil_append, Option.toList_some, Option.toList_none, Int.toNat_natCast, List.length_cons, List.length_nil, Int.cast_ofNat_Int, Nat.reduceAdd, Nat.reduceLeDiff, Nat.reduceLT, Nat.reduceMul, Int.reduceAdd, Int.reduceSub, Int.reduceMul, Int.reduceNeg, Int.reduceLT, Int.reduceLE, Int.reduceEq, Int.reduceToNat, eq_self, true_and, and_true, true_or, or_true, false_or, or_false, if_true, if_false, not_true_eq_false, not_false_eq_true, and_self, ne_eq, b_M_inserts_89, hb, hl, i1, i2, n1, n2, f58b, wp_dup2]
    (repeat' (first | apply And.intro | split)) <;> first | omega | exact q
  have sh := inserts_shift (zt := zt) (g := g) (kd := kd) (m := m) (o4 := some (AI (U 8 0))) (o5 := some (AI (sumL U s))) hb hl (s := s) (G := G) (by omega) (by omega) fin1 (2 * G - 2 * s) (59 + 2 * G) (by omega) (Nat.le_refl _)
  rw [mvR_0] at sh
  rw [show ((59 + 2 * G : Nat) : Int) - 1 = 59 + 2 * (G : Int) - 1 by omega] at sh
  have k40 : ∀ o6 : Option AV, Wp zt 113 (P 113 40) [some (AR b), some (AI s), some (AI kd), some (AI m), some (AI (U 8 0)), some (AI (sumL U s)), o6] [] (g, ρ) Q := by
    intro o6
    rw [P_M_inserts_40]
    simp only [m_M_inserts, b_M_inserts_0, wp_abs, wp_aln0, wp_bipush, wp_copy, wp_cs1, wp_cs2, wp_cs3, wp_cs4, wp_cs5, wp_cs6, wp_cs7, wp_dup2, wp_goto, wp_iadd, wp_iald, wp_iast, wp_icge, wp_iclt, wp_iconst, wp_il4, wp_il5, wp_il6, wp_iln1, wp_iln2, wp_iln3, wp_imul, wp_inc6, wp_is4, wp_is5, wp_is6, wp_isub, wp_max, wp_min, wp_nop, wp_ret, wrI_row, cpI_row, row_s, row_n, row_ss, row_sw, upd_s, upd_n, ad_inj, ad_z, ad_z2, Nat.reduceEqDiff, reduceCtorEq, List.cons_append, List.nil_append, Option.toList_some, Option.toList_none, Int.toNat_natCast, List.length_cons, List.length_nil, Int.cast_ofNat_Int, Nat.reduceAdd, Nat.reduceLeDiff, Nat.reduceLT, Nat.reduceMul, Int.reduceAdd, Int.reduceSub, Int.reduceMul, Int.reduceNeg, Int.reduceLT, Int.reduceLE, Int.reduceEq, Int.reduceToNat, eq_self, true_and, and_true, true_or, or_true, false_or, or_false, if_true, if_false, not_true_eq_false, not_false_eq_true, and_self, ne_eq, b_M_inserts_40, hb, hl, op, f58]
    (repeat' (first | apply And.intro | split)) <;> first | omega | exact sh
  have k1 := inserts_sum (zt := zt) hb hl hR hU hs k40 s 0 (by omega)
  simp only [m_M_inserts, b_M_inserts_0, wp_abs, wp_aln0, wp_bipush, wp_copy, wp_cs1, wp_cs2, wp_cs3, wp_cs4, wp_cs5, wp_cs6, wp_cs7, wp_dup2, wp_goto, wp_iadd, wp_iald, wp_iast, wp_icge, wp_iclt, wp_iconst, wp_il4, wp_il5, wp_il6, wp_iln1, wp_iln2, wp_iln3, wp_imul, wp_inc6, wp_is4, wp_is5, wp_is6, wp_isub, wp_max, wp_min, wp_nop, wp_ret, wrI_row, cpI_row, row_s, row_n, row_ss, row_sw, upd_s, upd_n, ad_inj, ad_z, ad_z2, Nat.reduceEqDiff, reduceCtorEq, List.cons_append, List.nil_append, Option.toList_some, Option.toList_none, Int.toNat_natCast, List.length_cons, List.length_nil, Int.cast_ofNat_Int, Nat.reduceAdd, Nat.reduceLeDiff, Nat.reduceLT, Nat.reduceMul, Int.reduceAdd, Int.reduceSub, Int.reduceMul, Int.reduceNeg, Int.reduceLT, Int.reduceLE, Int.reduceEq, Int.reduceToNat, eq_self, true_and, and_true, true_or, or_true, false_or, or_false, if_true, if_false, not_true_eq_false, not_false_eq_true, and_self, ne_eq, hb, hl, a1]
  exact k1
end MSI
section MSJ
variable {zt : Nat → Nat} {g : Nat → Nat → Int} {ρ : Ri} {M : Nat} {X : XV} {Q : Option AV → Sto → Prop}
theorem d_insert (hX : RepM g ρ M X) (hW : WFX X) {s kd m : Int} (hs : i32 s) (hk : i32 kd) (hm : i32 m) (hQ : MdQ g ρ M (sInsert s kd m X) Q) : WpM zt 115 [AR M, AI s, AI kd, AI m] (g, ρ) Q := by
  obtain ⟨hM, hS, -⟩ := id hX
  have hR := hS.1
  have hU := hW.1.1
  have e0 := m_0 hR
  have e5 := m_5 hR
  have b0 := hU.1
  have b5 := hU.2.2.2.2.1
  have b8 := hU.2.2.2.2.2.2.1
  unfold sInsert at hQ
  by_cases c1 : 0 ≤ s ∧ s ≤ X.1.1 5 0
  · have ho1 := fun Q => in_t (zt := zt) (g := g) (ρ := ρ) (lo := 0) (hi := X.1.1 5 0) (by omega) (by omega) c1 Q
    by_cases c2 : 0 ≤ kd ∧ kd ≤ 9
    · have ho2 := fun Q => in_t (zt := zt) (g := g) (ρ := ρ) (lo := 0) (hi := 9) (by omega) (by omega) c2 Q
      by_cases c3 : 1 ≤ m ∧ m ≤ 20
      · have ho3 := fun Q => in_t (zt := zt) (g := g) (ρ := ρ) (lo := 1) (hi := 20) (by omega) (by omega) c3 Q
        rw [if_pos ⟨c1, c2, c3⟩] at hQ
        have hro := hasRoom_ok (zt := zt) (qmd_k1 hM) (qmd_l1 hM) hR hU (m := m) (by omega)
        by_cases c4 : X.1.1 5 0 < 30 ∧ X.1.1 8 0 + m ≤ 99
        · rw [b2_t c4] at hro
          rw [if_pos c4] at hQ
          simp only [m_M_insert, b_M_insert_0, P_M_insert_35, b_M_insert_35, P_M_insert_37, b_M_insert_37, P_M_insert_51, b_M_insert_51, wp_abs, wp_aln0, wp_bipush, wp_copy, wp_cs1, wp_cs2, wp_cs3, wp_cs4, wp_cs5, wp_cs6, wp_cs7, wp_cv1, wp_cv2, wp_cv3, wp_cv4, wp_cv5, wp_cv6, wp_cv7, wp_iald, wp_iconst, wp_iln1, wp_iln2, wp_iln3, wp_iret, wp_izeq, wp_izne, wp_max, wp_min, wp_nop, wp_zret, qmd_kd, qmd_k1, qmd_l1, qmd_gf0, qmd_k2, qmd_l2, qmd_gf1, qmd_k3, qmd_l3, qmd_gf2, qmd_k4, qmd_l4, qmd_gf4, qmd_k5, qmd_l5, qmd_gf6, qmd_k6, qmd_l6, qmd_gf7, qmd_k7, qmd_l7, qmd_gf10, qmd_k8, qmd_l8, qmd_gf11, qmd_k9, qmd_l9, qmd_gf12, qmd_gf3, qmd_pf3, qmd_gf5, qmd_pf5, qmd_gf8, qmd_pf8, qmd_gf9, qmd_pf9, wrI_row, cpI_row, row_s, row_n, row_ss, row_sw, upd_s, upd_n, ad_inj, ad_z, ad_z2, Nat.reduceEqDiff, reduceCtorEq, List.cons_append, List.nil_append, Option.toList_some, Option.toList_none, Int.toNat_natCast, List.length_cons, List.length_nil, Int.cast_ofNat_Int, Nat.reduceAdd, Nat.reduceLeDiff, Nat.reduceLT, Nat.reduceMul, Int.reduceAdd, Int.reduceSub, Int.reduceMul, Int.reduceNeg, Int.reduceLT, Int.reduceLE, Int.reduceEq, Int.reduceToNat, eq_self, true_and, and_true, true_or, or_true, false_or, or_false, if_true, if_false, not_true_eq_false, not_false_eq_true, and_self, ne_eq, hM, e5, ho1, ho2, ho3, hro]
          (repeat' (first | apply And.intro | split)) <;> first | omega | skip
          refine keep_ok hX hW (fun g' j1 j2 j3 => ?_)
          have hM' := j1.1
          have hR' : LR (-1) (vwM (g' (ad M 1))) X.1.1 := j1.2.1.1
          simp only [m_M_insert, b_M_insert_0, P_M_insert_35, b_M_insert_35, P_M_insert_37, b_M_insert_37, P_M_insert_51, b_M_insert_51, wp_abs, wp_aln0, wp_bipush, wp_copy, wp_cs1, wp_cs2, wp_cs3, wp_cs4, wp_cs5, wp_cs6, wp_cs7, wp_cv1, wp_cv2, wp_cv3, wp_cv4, wp_cv5, wp_cv6, wp_cv7, wp_iald, wp_iconst, wp_iln1, wp_iln2, wp_iln3, wp_iret, wp_izeq, wp_izne, wp_max, wp_min, wp_nop, wp_zret, qmd_kd, qmd_k1, qmd_l1, qmd_gf0, qmd_k2, qmd_l2, qmd_gf1, qmd_k3, qmd_l3, qmd_gf2, qmd_k4, qmd_l4, qmd_gf4, qmd_k5, qmd_l5, qmd_gf6, qmd_k6, qmd_l6, qmd_gf7, qmd_k7, qmd_l7, qmd_gf10, qmd_k8, qmd_l8, qmd_gf11, qmd_k9, qmd_l9, qmd_gf12, qmd_gf3, qmd_pf3, qmd_gf5, qmd_pf5, qmd_gf8, qmd_pf8, qmd_gf9, qmd_pf9, wrI_row, cpI_row, row_s, row_n, row_ss, row_sw, upd_s, upd_n, ad_inj, ad_z, ad_z2, Nat.reduceEqDiff, reduceCtorEq, List.cons_append, List.nil_append, Option.toList_some, Option.toList_none, Int.toNat_natCast, List.length_cons, List.length_nil, Int.cast_ofNat_Int, Nat.reduceAdd, Nat.reduceLeDiff, Nat.reduceLT, Nat.reduceMul, Int.reduceAdd, Int.reduceSub, Int.reduceMul, Int.reduceNeg, Int.reduceLT, Int.reduceLE, Int.reduceEq, Int.reduceToNat, eq_self, true_and, and_true, true_or, or_true, false_or, or_false, if_true, if_false, not_true_eq_false, not_false_eq_true, and_self, ne_eq, hM']
          refine inserts_ok (qmd_k1 hM) (qmd_l1 hM) hR' hU (s := s.toNat) (m := m.toNat) (by omega) c2 (by omega) c4.1 (by omega) (by omega) (by omega) (fun R' y1 y2 => ?_)
          have hW1 := insV_wf hU (s := s.toNat) (m := m.toNat) (kd := kd) (by omega) c4.1 c2 (by omega) (by omega)
          have hfr := frames_ok (zt := zt) (g := setRow g' (ad M 1) R') hM' (by rw [row_s]; exact y1) hW1
          have e8' : insV X.1.1 s.toNat kd m.toNat 8 0 = X.1.1 8 0 + m := by
            show X.1.1 8 0 + (m.toNat : Int) = _
            omega
          rw [e8'] at hfr
          have q := hQ (setRow g' (ad M 1) R') (j1.pg hW y1 (fun y z1 z2 => y2 y z1)) (pg_fr j2)
          simp only [m_M_insert, b_M_insert_0, P_M_insert_35, b_M_insert_35, P_M_insert_37, b_M_insert_37, P_M_insert_51, b_M_insert_51, wp_abs, wp_aln0, wp_bipush, wp_copy, wp_cs1, wp_cs2, wp_cs3, wp_cs4, wp_cs5, wp_cs6, wp_cs7, wp_cv1, wp_cv2, wp_cv3, wp_cv4, wp_cv5, wp_cv6, wp_cv7, wp_iald, wp_iconst, wp_iln1, wp_iln2, wp_iln3, wp_iret, wp_izeq, wp_izne, wp_max, wp_min, wp_nop, wp_zret, qmd_kd, qmd_k1, qmd_l1, qmd_gf0, qmd_k2, qmd_l2, qmd_gf1, qmd_k3, qmd_l3, qmd_gf2, qmd_k4, qmd_l4, qmd_gf4, qmd_k5, qmd_l5, qmd_gf6, qmd_k6, qmd_l6, qmd_gf7, qmd_k7, qmd_l7, qmd_gf10, qmd_k8, qmd_l8, qmd_gf11, qmd_k9, qmd_l9, qmd_gf12, qmd_gf3, qmd_pf3, qmd_gf5, qmd_pf5, qmd_gf8, qmd_pf8, qmd_gf9, qmd_pf9, wrI_row, cpI_row, row_s, row_n, row_ss, row_sw, upd_s, upd_n, ad_inj, ad_z, ad_z2, Nat.reduceEqDiff, reduceCtorEq, List.cons_append, List.nil_append, Option.toList_some, Option.toList_none, Int.toNat_natCast, List.length_cons, List.length_nil, Int.cast_ofNat_Int, Nat.reduceAdd, Nat.reduceLeDiff, Nat.reduceLT, Nat.reduceMul, Int.reduceAdd, Int.reduceSub, Int.reduceMul, Int.reduceNeg, Int.reduceLT, Int.reduceLE, Int.reduceEq, Int.reduceToNat, eq_self, true_and, and_true, true_or, or_true, false_or, or_false, if_true, if_false, not_true_eq_false, not_false_eq_true, and_self, ne_eq, hM', hfr]
          (repeat' (first | apply And.intro | split)) <;> first | omega | exact q
        · rw [b2_f c4] at hro
          rw [if_neg c4] at hQ
          have q := hQ.ro hX
          simp only [m_M_insert, b_M_insert_0, P_M_insert_35, b_M_insert_35, P_M_insert_37, b_M_insert_37, P_M_insert_51, b_M_insert_51, wp_abs, wp_aln0, wp_bipush, wp_copy, wp_cs1, wp_cs2, wp_cs3, wp_cs4, wp_cs5, wp_cs6, wp_cs7, wp_cv1, wp_cv2, wp_cv3, wp_cv4, wp_cv5, wp_cv6, wp_cv7, wp_iald, wp_iconst, wp_iln1, wp_iln2, wp_iln3, wp_iret, wp_izeq, wp_izne, wp_max, wp_min, wp_nop, wp_zret, qmd_kd, qmd_k1, qmd_l1, qmd_gf0, qmd_k2, qmd_l2, qmd_gf1, qmd_k3, qmd_l3, qmd_gf2, qmd_k4, qmd_l4, qmd_gf4, qmd_k5, qmd_l5, qmd_gf6, qmd_k6, qmd_l6, qmd_gf7, qmd_k7, qmd_l7, qmd_gf10, qmd_k8, qmd_l8, qmd_gf11, qmd_k9, qmd_l9, qmd_gf12, qmd_gf3, qmd_pf3, qmd_gf5, qmd_pf5, qmd_gf8, qmd_pf8, qmd_gf9, qmd_pf9, wrI_row, cpI_row, row_s, row_n, row_ss, row_sw, upd_s, upd_n, ad_inj, ad_z, ad_z2, Nat.reduceEqDiff, reduceCtorEq, List.cons_append, List.nil_append, Option.toList_some, Option.toList_none, Int.toNat_natCast, List.length_cons, List.length_nil, Int.cast_ofNat_Int, Nat.reduceAdd, Nat.reduceLeDiff, Nat.reduceLT, Nat.reduceMul, Int.reduceAdd, Int.reduceSub, Int.reduceMul, Int.reduceNeg, Int.reduceLT, Int.reduceLE, Int.reduceEq, Int.reduceToNat, eq_self, true_and, and_true, true_or, or_true, false_or, or_false, if_true, if_false, not_true_eq_false, not_false_eq_true, and_self, ne_eq, hM, e5, ho1, ho2, ho3, hro]
          (repeat' (first | apply And.intro | split)) <;> first | omega | exact q
      · have ho3 := fun Q => in_f (zt := zt) (g := g) (ρ := ρ) (lo := 1) (hi := 20) hm (by omega) (by omega) c3 Q
        rw [if_neg (fun z => c3 z.2.2)] at hQ
        have q := hQ.ro hX
        simp only [m_M_insert, b_M_insert_0, P_M_insert_35, b_M_insert_35, P_M_insert_37, b_M_insert_37, P_M_insert_51, b_M_insert_51, wp_abs, wp_aln0, wp_bipush, wp_copy, wp_cs1, wp_cs2, wp_cs3, wp_cs4, wp_cs5, wp_cs6, wp_cs7, wp_cv1, wp_cv2, wp_cv3, wp_cv4, wp_cv5, wp_cv6, wp_cv7, wp_iald, wp_iconst, wp_iln1, wp_iln2, wp_iln3, wp_iret, wp_izeq, wp_izne, wp_max, wp_min, wp_nop, wp_zret, qmd_kd, qmd_k1, qmd_l1, qmd_gf0, qmd_k2, qmd_l2, qmd_gf1, qmd_k3, qmd_l3, qmd_gf2, qmd_k4, qmd_l4, qmd_gf4, qmd_k5, qmd_l5, qmd_gf6, qmd_k6, qmd_l6, qmd_gf7, qmd_k7, qmd_l7, qmd_gf10, qmd_k8, qmd_l8, qmd_gf11, qmd_k9, qmd_l9, qmd_gf12, qmd_gf3, qmd_pf3, qmd_gf5, qmd_pf5, qmd_gf8, qmd_pf8, qmd_gf9, qmd_pf9, wrI_row, cpI_row, row_s, row_n, row_ss, row_sw, upd_s, upd_n, ad_inj, ad_z, ad_z2, Nat.reduceEqDiff, reduceCtorEq, List.cons_append, List.nil_append, Option.toList_some, Option.toList_none, Int.toNat_natCast, List.length_cons, List.length_nil, Int.cast_ofNat_Int, Nat.reduceAdd, Nat.reduceLeDiff, Nat.reduceLT, Nat.reduceMul, Int.reduceAdd, Int.reduceSub, Int.reduceMul, Int.reduceNeg, Int.reduceLT, Int.reduceLE, Int.reduceEq, Int.reduceToNat, eq_self, true_and, and_true, true_or, or_true, false_or, or_false, if_true, if_false, not_true_eq_false, not_false_eq_true, and_self, ne_eq, hM, e5, ho1, ho2, ho3]
        (repeat' (first | apply And.intro | split)) <;> first | omega | exact q
    · have ho2 := fun Q => in_f (zt := zt) (g := g) (ρ := ρ) (lo := 0) (hi := 9) hk (by omega) (by omega) c2 Q
      rw [if_neg (fun z => c2 z.2.1)] at hQ
      have q := hQ.ro hX
      simp only [m_M_insert, b_M_insert_0, P_M_insert_35, b_M_insert_35, P_M_insert_37, b_M_insert_37, P_M_insert_51, b_M_insert_51, wp_abs, wp_aln0, wp_bipush, wp_copy, wp_cs1, wp_cs2, wp_cs3, wp_cs4, wp_cs5, wp_cs6, wp_cs7, wp_cv1, wp_cv2, wp_cv3, wp_cv4, wp_cv5, wp_cv6, wp_cv7, wp_iald, wp_iconst, wp_iln1, wp_iln2, wp_iln3, wp_iret, wp_izeq, wp_izne, wp_max, wp_min, wp_nop, wp_zret, qmd_kd, qmd_k1, qmd_l1, qmd_gf0, qmd_k2, qmd_l2, qmd_gf1, qmd_k3, qmd_l3, qmd_gf2, qmd_k4, qmd_l4, qmd_gf4, qmd_k5, qmd_l5, qmd_gf6, qmd_k6, qmd_l6, qmd_gf7, qmd_k7, qmd_l7, qmd_gf10, qmd_k8, qmd_l8, qmd_gf11, qmd_k9, qmd_l9, qmd_gf12, qmd_gf3, qmd_pf3, qmd_gf5, qmd_pf5, qmd_gf8, qmd_pf8, qmd_gf9, qmd_pf9, wrI_row, cpI_row, row_s, row_n, row_ss, row_sw, upd_s, upd_n, ad_inj, ad_z, ad_z2, Nat.reduceEqDiff, reduceCtorEq, List.cons_append, List.nil_append, Option.toList_some, Option.toList_none, Int.toNat_natCast, List.length_cons, List.length_nil, Int.cast_ofNat_Int, Nat.reduceAdd, Nat.reduceLeDiff, Nat.reduceLT, Nat.reduceMul, Int.reduceAdd, Int.reduceSub, Int.reduceMul, Int.reduceNeg, Int.reduceLT, Int.reduceLE, Int.reduceEq, Int.reduceToNat, eq_self, true_and, and_true, true_or, or_true, false_or, or_false, if_true, if_false, not_true_eq_false, not_false_eq_true, and_self, ne_eq, hM, e5, ho1, ho2]
      (repeat' (first | apply And.intro | split)) <;> first | omega | exact q
  · have ho1 := fun Q => in_f (zt := zt) (g := g) (ρ := ρ) (lo := 0) (hi := X.1.1 5 0) hs (by omega) (by omega) c1 Q
    rw [if_neg (fun z => c1 z.1)] at hQ
    have q := hQ.ro hX
    simp only [m_M_insert, b_M_insert_0, P_M_insert_35, b_M_insert_35, P_M_insert_37, b_M_insert_37, P_M_insert_51, b_M_insert_51, wp_abs, wp_aln0, wp_bipush, wp_copy, wp_cs1, wp_cs2, wp_cs3, wp_cs4, wp_cs5, wp_cs6, wp_cs7, wp_cv1, wp_cv2, wp_cv3, wp_cv4, wp_cv5, wp_cv6, wp_cv7, wp_iald, wp_iconst, wp_iln1, wp_iln2, wp_iln3, wp_iret, wp_izeq, wp_izne, wp_max, wp_min, wp_nop, wp_zret, qmd_kd, qmd_k1, qmd_l1, qmd_gf0, qmd_k2, qmd_l2, qmd_gf1, qmd_k3, qmd_l3, qmd_gf2, qmd_k4, qmd_l4, qmd_gf4, qmd_k5, qmd_l5, qmd_gf6, qmd_k6, qmd_l6, qmd_gf7, qmd_k7, qmd_l7, qmd_gf10, qmd_k8, qmd_l8, qmd_gf11, qmd_k9, qmd_l9, qmd_gf12, qmd_gf3, qmd_pf3, qmd_gf5, qmd_pf5, qmd_gf8, qmd_pf8, qmd_gf9, qmd_pf9, wrI_row, cpI_row, row_s, row_n, row_ss, row_sw, upd_s, upd_n, ad_inj, ad_z, ad_z2, Nat.reduceEqDiff, reduceCtorEq, List.cons_append, List.nil_append, Option.toList_some, Option.toList_none, Int.toNat_natCast, List.length_cons, List.length_nil, Int.cast_ofNat_Int, Nat.reduceAdd, Nat.reduceLeDiff, Nat.reduceLT, Nat.reduceMul, Int.reduceAdd, Int.reduceSub, Int.reduceMul, Int.reduceNeg, Int.reduceLT, Int.reduceLE, Int.reduceEq, Int.reduceToNat, eq_self, true_and, and_true, true_or, or_true, false_or, or_false, if_true, if_false, not_true_eq_false, not_false_eq_true, and_self, ne_eq, hM, e5, ho1]
    (repeat' (first | apply And.intro | split)) <;> first | omega | exact q
end MSJ
