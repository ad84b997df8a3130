/-! THE PLANNER FROM THE START -/
section FWP
variable {zt : Nat → Nat} {g : Nat → Nat → Int} {ρ : Ri} {w F M h : Nat} {c : Nat → Nat → Int} {cl : Nat → Nat → Bool}
theorem plI_row5 (hP : plI g w F M h c cl) (R : Nat → Int) : plI (setRow g (ad w 5) R) w F M h c cl := by
  obtain ⟨p1, p2, p3, p4, p5⟩ := hP
  have e0 : setRow g (ad w 5) R w = g w := row_n (by rw [ad_z2]; decide)
  have e2 : setRow g (ad w 5) R (ad w 2) = g (ad w 2) := row_n (by rw [ad_inj]; decide)
  have e3 : setRow g (ad w 5) R (ad w 3) = g (ad w 3) := row_n (by rw [ad_inj]; decide)
  unfold plI
  rw [e0, e2, e3]
  exact ⟨p1, p2, p3, p4, p5⟩
theorem plI_row6 (hP : plI g w F M h c cl) (R : Nat → Int) : plI (setRow g (ad w 6) R) w F M h c cl := by
  obtain ⟨p1, p2, p3, p4, p5⟩ := hP
  have e0 : setRow g (ad w 6) R w = g w := row_n (by rw [ad_z2]; decide)
  have e2 : setRow g (ad w 6) R (ad w 2) = g (ad w 2) := row_n (by rw [ad_inj]; decide)
  have e3 : setRow g (ad w 6) R (ad w 3) = g (ad w 3) := row_n (by rw [ad_inj]; decide)
  unfold plI
  rw [e0, e2, e3]
  exact ⟨p1, p2, p3, p4, p5⟩
theorem leastOfEntering_loop (hA : isPl ρ w) (hP : plI g w F M h c cl) (hM8 : M ≤ 8) (h1 : 1 ≤ h) (h3 : h ≤ 3) {m : Nat} (hm : m < M) {v : Nat → Int} (hv : ∀ j, 0 ≤ v j ∧ v j ≤ 1000000) (hR : ∀ o, o < M → g (ad w 6) (o * 3 + (h - 1)) = v o) {Q : Option AV → Sto → Prop} (hQ : Q (some (AI (minB (fun o => !(o == m) && cl o m) v M))) (g, ρ)) :
    ∀ (d n : Nat), n + d = M → Wp zt 14 (P 14 5) [some (AR w), some (AI m), some (AI (minB (fun o => !(o == m) && cl o m) v n)), some (AI n)] [] (g, ρ) Q := by
  obtain ⟨p1, p2, p3, p4, p5⟩ := hP
  intro d
  induction d with
  | zero =>
    intro n hn
    have e : M = n := by omega
    subst e
    rw [P_P_leastOfEntering_5]
    simp only [m_P_leastOfEntering, b_P_leastOfEntering_0, P_P_leastOfEntering_52, b_P_leastOfEntering_52, P_P_leastOfEntering_58, b_P_leastOfEntering_58, wp_abs, wp_aln0, wp_bald, wp_bipush, wp_copy, wp_cs1, wp_cs2, wp_cs3, wp_cs4, wp_cs5, wp_cs6, wp_cs7, wp_goto, wp_iadd, wp_iald, wp_iceq, wp_icge, wp_iconst, wp_iln1, wp_iln2, wp_iln3, wp_imul, wp_inc3, wp_iret, wp_isn2, wp_isn3, wp_isub, wp_izeq, wp_ldc, wp_max, wp_min, wp_nop, wp_zret, qpl_kd, qpl_k1, qpl_l1, qpl_gf0, qpl_k2, qpl_l2, qpl_gf1, qpl_k3, qpl_l3, qpl_gf2, qpl_k4, qpl_l4, qpl_gf3, qpl_k5, qpl_l5, qpl_gf4, qpl_k6, qpl_l6, qpl_gf5, qpl_gf6, qpl_pf6, qpl_gf7, qpl_pf7, qpl_gf8, qpl_pf8, wrI_row, cpI_row, row_s, row_n, row_ss, row_sw, upd_s, upd_n, ad_inj, ad_z, ad_z2, Nat.reduceEqDiff, reduceCtorEq, List.cons_append, List.nil_append, Option.toList_some, Option.toList_none, Int.toNat_natCast, List.length_cons, List.length_nil, Int.cast_ofNat_Int, Nat.reduceAdd, Nat.reduceLeDiff, Nat.reduceLT, Nat.reduceMul, Int.reduceAdd, Int.reduceSub, Int.reduceMul, Int.reduceNeg, Int.reduceLT, Int.reduceLE, Int.reduceEq, Int.reduceToNat, eq_self, true_and, and_true, true_or, or_true, false_or, or_false, if_true, if_false, not_true_eq_false, not_false_eq_true, and_self, ne_eq, b_P_leastOfEntering_5, hA, p2]
    (repeat' (first | apply And.intro | split)) <;> first | omega | exact hQ | (rw [b2_t (by omega)] at hQ; exact hQ) | (rw [b2_f (by omega)] at hQ; exact hQ)
  | succ d ih =>
    intro n hn
    have i1 := ih (n + 1) (by omega)
    have hb := minB_b (p := fun o => !(o == m) && cl o m) (v := v) (fun j => (hv j).1) n
    have hvn := hv n
    have e2 : ((n : Int) * 8 + (m : Int)).toNat = n * 8 + m := by omega
    have e3 : ((n : Int) * 3 + (h : Int) - 1).toNat = n * 3 + (h - 1) := by omega
    have r1 := hR n (by omega)
    have r2 := p5 n m (by omega) hm
    simp only [minB] at i1
    by_cases hc : n = m
    · rw [if_neg (by simp [hc])] at i1
      have hc2 : (n : Int) = (m : Int) := by omega
      rw [P_P_leastOfEntering_5]
      simp only [m_P_leastOfEntering, b_P_leastOfEntering_0, P_P_leastOfEntering_52, b_P_leastOfEntering_52, P_P_leastOfEntering_58, b_P_leastOfEntering_58, wp_abs, wp_aln0, wp_bald, wp_bipush, wp_copy, wp_cs1, wp_cs2, wp_cs3, wp_cs4, wp_cs5, wp_cs6, wp_cs7, wp_goto, wp_iadd, wp_iald, wp_iceq, wp_icge, wp_iconst, wp_iln1, wp_iln2, wp_iln3, wp_imul, wp_inc3, wp_iret, wp_isn2, wp_isn3, wp_isub, wp_izeq, wp_ldc, wp_max, wp_min, wp_nop, wp_zret, qpl_kd, qpl_k1, qpl_l1, qpl_gf0, qpl_k2, qpl_l2, qpl_gf1, qpl_k3, qpl_l3, qpl_gf2, qpl_k4, qpl_l4, qpl_gf3, qpl_k5, qpl_l5, qpl_gf4, qpl_k6, qpl_l6, qpl_gf5, qpl_gf6, qpl_pf6, qpl_gf7, qpl_pf7, qpl_gf8, qpl_pf8, wrI_row, cpI_row, row_s, row_n, row_ss, row_sw, upd_s, upd_n, ad_inj, ad_z, ad_z2, Nat.reduceEqDiff, reduceCtorEq, List.cons_append, List.nil_append, Option.toList_some, Option.toList_none, Int.toNat_natCast, List.length_cons, List.length_nil, Int.cast_ofNat_Int, Nat.reduceAdd, Nat.reduceLeDiff, Nat.reduceLT, Nat.reduceMul, Int.reduceAdd, Int.reduceSub, Int.reduceMul, Int.reduceNeg, Int.reduceLT, Int.reduceLE, Int.reduceEq, Int.reduceToNat, eq_self, true_and, and_true, true_or, or_true, false_or, or_false, if_true, if_false, not_true_eq_false, not_false_eq_true, and_self, ne_eq, b_P_leastOfEntering_5, hA, p2, p3, hc2]
      rw [show ((n + 1 : Nat) : Int) = (m : Int) + 1 by omega] at i1
      (repeat' (first | apply And.intro | split)) <;> first | omega | exact i1 | (rw [b2_t (by omega)] at i1; exact i1) | (rw [b2_f (by omega)] at i1; exact i1)
    · have hc2 : ¬ (n : Int) = (m : Int) := by omega
      by_cases hcl : cl n m = true
      · rw [if_pos (by simp [hc, hcl])] at i1
        rw [if_pos hcl] at r2
        rw [P_P_leastOfEntering_5]
        simp only [m_P_leastOfEntering, b_P_leastOfEntering_0, P_P_leastOfEntering_52, b_P_leastOfEntering_52, P_P_leastOfEntering_58, b_P_leastOfEntering_58, wp_abs, wp_aln0, wp_bald, wp_bipush, wp_copy, wp_cs1, wp_cs2, wp_cs3, wp_cs4, wp_cs5, wp_cs6, wp_cs7, wp_goto, wp_iadd, wp_iald, wp_iceq, wp_icge, wp_iconst, wp_iln1, wp_iln2, wp_iln3, wp_imul, wp_inc3, wp_iret, wp_isn2, wp_isn3, wp_isub, wp_izeq, wp_ldc, wp_max, wp_min, wp_nop, wp_zret, qpl_kd, qpl_k1, qpl_l1, qpl_gf0, qpl_k2, qpl_l2, qpl_gf1, qpl_k3, qpl_l3, qpl_gf2, qpl_k4, qpl_l4, qpl_gf3, qpl_k5, qpl_l5, qpl_gf4, qpl_k6, qpl_l6, qpl_gf5, qpl_gf6, qpl_pf6, qpl_gf7, qpl_pf7, qpl_gf8, qpl_pf8, wrI_row, cpI_row, row_s, row_n, row_ss, row_sw, upd_s, upd_n, ad_inj, ad_z, ad_z2, Nat.reduceEqDiff, reduceCtorEq, List.cons_append, List.nil_append, Option.toList_some, Option.toList_none, Int.toNat_natCast, List.length_cons, List.length_nil, Int.cast_ofNat_Int, Nat.reduceAdd, Nat.reduceLeDiff, Nat.reduceLT, Nat.reduceMul, Int.reduceAdd, Int.reduceSub, Int.reduceMul, Int.reduceNeg, Int.reduceLT, Int.reduceLE, Int.reduceEq, Int.reduceToNat, eq_self, true_and, and_true, true_or, or_true, false_or, or_false, if_true, if_false, not_true_eq_false, not_false_eq_true, and_self, ne_eq, b_P_leastOfEntering_5, hA, p2, p3, hc2, e2, e3, r1, r2]
        (repeat' (first | apply And.intro | split)) <;> first | omega | exact i1 | (rw [b2_t (by omega)] at i1; exact i1) | (rw [b2_f (by omega)] at i1; exact i1)
      · rw [if_neg (by simp [hc, hcl])] at i1
        rw [if_neg hcl] at r2
        rw [P_P_leastOfEntering_5]
        simp only [m_P_leastOfEntering, b_P_leastOfEntering_0, P_P_leastOfEntering_52, b_P_leastOfEntering_52, P_P_leastOfEntering_58, b_P_leastOfEntering_58, wp_abs, wp_aln0, wp_bald, wp_bipush, wp_copy, wp_cs1, wp_cs2, wp_cs3, wp_cs4, wp_cs5, wp_cs6, wp_cs7, wp_goto, wp_iadd, wp_iald, wp_iceq, wp_icge, wp_iconst, wp_iln1, wp_iln2, wp_iln3, wp_imul, wp_inc3, wp_iret, wp_isn2, wp_isn3, wp_isub, wp_izeq, wp_ldc, wp_max, wp_min, wp_nop, wp_zret, qpl_kd, qpl_k1, qpl_l1, qpl_gf0, qpl_k2, qpl_l2, qpl_gf1, qpl_k3, qpl_l3, qpl_gf2, qpl_k4, qpl_l4, qpl_gf3, qpl_k5, qpl_l5, qpl_gf4, qpl_k6, qpl_l6, qpl_gf5, qpl_gf6, qpl_pf6, qpl_gf7, qpl_pf7, qpl_gf8, qpl_pf8, wrI_row, cpI_row, row_s, row_n, row_ss, row_sw, upd_s, upd_n, ad_inj, ad_z, ad_z2, Nat.reduceEqDiff, reduceCtorEq, List.cons_append, List.nil_append, Option.toList_some, Option.toList_none, Int.toNat_natCast, List.length_cons, List.length_nil, Int.cast_ofNat_Int, Nat.reduceAdd, Nat.reduceLeDiff, Nat.reduceLT, Nat.reduceMul, Int.reduceAdd, Int.reduceSub, Int.reduceMul, Int.reduceNeg, Int.reduceLT, Int.reduceLE, Int.reduceEq, Int.reduceToNat, eq_self, true_and, and_true, true_or, or_true, false_or, or_false, if_true, if_false, not_true_eq_false, not_false_eq_true, and_self, ne_eq, b_P_leastOfEntering_5, hA, p2, p3, hc2, e2, e3, r1, r2]
        (repeat' (first | apply And.intro | split)) <;> first | omega | exact i1 | (rw [b2_t (by omega)] at i1; exact i1) | (rw [b2_f (by omega)] at i1; exact i1)
theorem leastOfEntering_ok (hA : isPl ρ w) (hP : plI g w F M h c cl) (hM8 : M ≤ 8) (h1 : 1 ≤ h) (h3 : h ≤ 3) {m : Nat} (hm : m < M) {v : Nat → Int} (hv : ∀ j, 0 ≤ v j ∧ v j ≤ 1000000) (hR : ∀ o, o < M → g (ad w 6) (o * 3 + (h - 1)) = v o) (Q : Option AV → Sto → Prop) : WpM zt 14 [AR w, AI m] (g, ρ) Q ↔ Q (some (AI (minB (fun o => !(o == m) && cl o m) v M))) (g, ρ) := by
  refine wpm_iff (fun Q hQ => ?_) Q
  have k1 := leastOfEntering_loop (zt := zt) hA hP hM8 h1 h3 hm hv hR hQ M 0 (by omega)
  simp only [m_P_leastOfEntering, b_P_leastOfEntering_0, P_P_leastOfEntering_52, b_P_leastOfEntering_52, P_P_leastOfEntering_58, b_P_leastOfEntering_58, wp_abs, wp_aln0, wp_bald, wp_bipush, wp_copy, wp_cs1, wp_cs2, wp_cs3, wp_cs4, wp_cs5, wp_cs6, wp_cs7, wp_goto, wp_iadd, wp_iald, wp_iceq, wp_icge, wp_iconst, wp_iln1, wp_iln2, wp_iln3, wp_imul, wp_inc3, wp_iret, wp_isn2, wp_isn3, wp_isub, wp_izeq, wp_ldc, wp_max, wp_min, wp_nop, wp_zret, qpl_kd, qpl_k1, qpl_l1, qpl_gf0, qpl_k2, qpl_l2, qpl_gf1, qpl_k3, qpl_l3, qpl_gf2, qpl_k4, qpl_l4, qpl_gf3, qpl_k5, qpl_l5, qpl_gf4, qpl_k6, qpl_l6, qpl_gf5, qpl_gf6, qpl_pf6, qpl_gf7, qpl_pf7, qpl_gf8, qpl_pf8, wrI_row, cpI_row, row_s, row_n, row_ss, row_sw, upd_s, upd_n, ad_inj, ad_z, ad_z2, Nat.reduceEqDiff, reduceCtorEq, List.cons_append, List.nil_append, Option.toList_some, Option.toList_none, Int.toNat_natCast, List.length_cons, List.length_nil, Int.cast_ofNat_Int, Nat.reduceAdd, Nat.reduceLeDiff, Nat.reduceLT, Nat.reduceMul, Int.reduceAdd, Int.reduceSub, Int.reduceMul, Int.reduceNeg, Int.reduceLT, Int.reduceLE, Int.reduceEq, Int.reduceToNat, eq_self, true_and, and_true, true_or, or_true, false_or, or_false, if_true, if_false, not_true_eq_false, not_false_eq_true, and_self, ne_eq, hA]
  exact k1
theorem fillHere_last (hA : isPl ρ w) (hP : plI g w F M h c cl) (hM8 : M ≤ 8) (h1 : 1 ≤ h) (h3 : h ≤ 3) (hF : F ≤ 99) (hc : ∀ f m, 0 ≤ c f m ∧ c f m ≤ 1000000) {f m : Nat} (hf : f < F) (hm : m < M) {E : Nat → Int} (hE : ∀ r, 0 ≤ E r ∧ E r ≤ 1000000) {Q : Option AV → Sto → Prop} {o4 : Option AV}
    (hQ : ∀ R : Nat → Int, (∀ r, r < h → R (m * 3 + r) = min 1000000 (E r + c f m)) → (∀ y, y < m * 3 → R y = g (ad w 5) y) → Q none (setRow g (ad w 5) R, ρ)) :
    ∀ (d n : Nat) (R : Nat → Int), n + d = h → (∀ r, r < n → R (m * 3 + r) = min 1000000 (E r + c f m)) → (∀ r, n ≤ r → r < h → R (m * 3 + r) = E r) → (∀ y, y < m * 3 → R y = g (ad w 5) y) → Wp zt 13 (P 13 123) [some (AR w), some (AI f), some (AI m), some (AI ((m : Int) * 3)), o4, some (AI n)] [] (setRow g (ad w 5) R, ρ) Q := by
  obtain ⟨p1, p2, p3, p4, p5⟩ := id hP
  intro d
  induction d with
  | zero =>
    intro n R hn q1 q2 q3
    have e : n = h := by omega
    subst e
    have k1 := hQ R q1 q3
    rw [P_P_fillHere_123]
    simp only [m_P_fillHere, b_P_fillHere_0, P_P_fillHere_33, b_P_fillHere_33, P_P_fillHere_46, b_P_fillHere_46, P_P_fillHere_51, b_P_fillHere_51, P_P_fillHere_60, b_P_fillHere_60, P_P_fillHere_64, b_P_fillHere_64, P_P_fillHere_120, b_P_fillHere_120, P_P_fillHere_173, b_P_fillHere_173, wp_abs, wp_aln0, wp_bipush, wp_copy, wp_cs1, wp_cs2, wp_cs3, wp_cs4, wp_cs5, wp_cs6, wp_cs7, wp_cv1, wp_cv2, wp_cv3, wp_cv4, wp_cv5, wp_cv6, wp_cv7, wp_goto, wp_iadd, wp_iald, wp_iast, wp_icge, wp_iconst, wp_il4, wp_il5, wp_iln1, wp_iln2, wp_iln3, wp_imul, wp_inc4, wp_inc5, wp_is4, wp_is5, wp_isn3, wp_izne, wp_ldc, wp_max, wp_min, wp_nop, wp_ret, qpl_kd, qpl_k1, qpl_l1, qpl_gf0, qpl_k2, qpl_l2, qpl_gf1, qpl_k3, qpl_l3, qpl_gf2, qpl_k4, qpl_l4, qpl_gf3, qpl_k5, qpl_l5, qpl_gf4, qpl_k6, qpl_l6, qpl_gf5, qpl_gf6, qpl_pf6, qpl_gf7, qpl_pf7, qpl_gf8, qpl_pf8, wrI_row, cpI_row, row_s, row_n, row_ss, row_sw, upd_s, upd_n, ad_inj, ad_z, ad_z2, Nat.reduceEqDiff, reduceCtorEq, List.cons_append, List.nil_append, Option.toList_some, Option.toList_none, Int.toNat_natCast, List.length_cons, List.length_nil, Int.cast_ofNat_Int, Nat.reduceAdd, Nat.reduceLeDiff, Nat.reduceLT, Nat.reduceMul, Int.reduceAdd, Int.reduceSub, Int.reduceMul, Int.reduceNeg, Int.reduceLT, Int.reduceLE, Int.reduceEq, Int.reduceToNat, eq_self, true_and, and_true, true_or, or_true, false_or, or_false, if_true, if_false, not_true_eq_false, not_false_eq_true, and_self, ne_eq, b_P_fillHere_123, hA, p3]
    (repeat' (first | apply And.intro | split)) <;> first | omega | exact k1 | (rw [b2_t (by omega)] at k1; exact k1) | (rw [b2_f (by omega)] at k1; exact k1)
  | succ d ih =>
    intro n R hn q1 q2 q3
    have e2 : ((f : Int) * 8 + (m : Int)).toNat = f * 8 + m := by omega
    have e3 : ((m : Int) * 3 + (n : Int)).toNat = m * 3 + n := by omega
    have r1 := q2 n (Nat.le_refl _) (by omega)
    have r4 := p4 f m hf hm
    have b1 := hE n
    have b2 := hc f m
    have i1 := ih (n + 1) (upd1 R (m * 3 + n) (min 1000000 (E n + c f m))) (by omega) (fun r z => by
        by_cases e : r = n
        · subst e
          rw [upd_s]
        · rw [upd_n (by omega)]
          exact q1 r (by omega)) (fun r z1 z2 => by
        rw [upd_n (by omega)]
        exact q2 r (by omega) z2) (fun y z => by
        rw [upd_n (by omega)]
        exact q3 y z)
    rw [P_P_fillHere_123]
    simp only [m_P_fillHere, b_P_fillHere_0, P_P_fillHere_33, b_P_fillHere_33, P_P_fillHere_46, b_P_fillHere_46, P_P_fillHere_51, b_P_fillHere_51, P_P_fillHere_60, b_P_fillHere_60, P_P_fillHere_64, b_P_fillHere_64, P_P_fillHere_120, b_P_fillHere_120, P_P_fillHere_173, b_P_fillHere_173, wp_abs, wp_aln0, wp_bipush, wp_copy, wp_cs1, wp_cs2, wp_cs3, wp_cs4, wp_cs5, wp_cs6, wp_cs7, wp_cv1, wp_cv2, wp_cv3, wp_cv4, wp_cv5, wp_cv6, wp_cv7, wp_goto, wp_iadd, wp_iald, wp_iast, wp_icge, wp_iconst, wp_il4, wp_il5, wp_iln1, wp_iln2, wp_iln3, wp_imul, wp_inc4, wp_inc5, wp_is4, wp_is5, wp_isn3, wp_izne, wp_ldc, wp_max, wp_min, wp_nop, wp_ret, qpl_kd, qpl_k1, qpl_l1, qpl_gf0, qpl_k2, qpl_l2, qpl_gf1, qpl_k3, qpl_l3, qpl_gf2, qpl_k4, qpl_l4, qpl_gf3, qpl_k5, qpl_l5, qpl_gf4, qpl_k6, qpl_l6, qpl_gf5, qpl_gf6, qpl_pf6, qpl_gf7, qpl_pf7, qpl_gf8, qpl_pf8, wrI_row, cpI_row, row_s, row_n, row_ss, row_sw, upd_s, upd_n, ad_inj, ad_z, ad_z2, Nat.reduceEqDiff, reduceCtorEq, List.cons_append, List.nil_append, Option.toList_some, Option.toList_none, Int.toNat_natCast, List.length_cons, List.length_nil, Int.cast_ofNat_Int, Nat.reduceAdd, Nat.reduceLeDiff, Nat.reduceLT, Nat.reduceMul, Int.reduceAdd, Int.reduceSub, Int.reduceMul, Int.reduceNeg, Int.reduceLT, Int.reduceLE, Int.reduceEq, Int.reduceToNat, eq_self, true_and, and_true, true_or, or_true, false_or, or_false, if_true, if_false, not_true_eq_false, not_false_eq_true, and_self, ne_eq, b_P_fillHere_123, hA, p3, e2, e3, r1, r4]
    (repeat' (first | apply And.intro | split)) <;> first | omega | exact i1
theorem fillHere_mid (hA : isPl ρ w) (hP : plI g w F M h c cl) (hM8 : M ≤ 8) (h1 : 1 ≤ h) (h3 : h ≤ 3) (hF : F ≤ 99) (hc : ∀ f m, 0 ≤ c f m ∧ c f m ≤ 1000000) {f m : Nat} (hf : f < F) (hm : m < M) {E H : Nat → Int} (hE : ∀ r, 0 ≤ E r ∧ E r ≤ 1000000) (hH : ∀ r, 0 ≤ H r ∧ H r ≤ 1000000) (hR6 : ∀ r, r < h → g (ad w 6) (m * 3 + r) = H r) {Q : Option AV → Sto → Prop}
    (hQ : ∀ R : Nat → Int, (∀ r, r < h → R (m * 3 + r) = min 1000000 (min (E r) (minB (fun run => decide (min (run + 1) (h - 1) = r)) H h) + c f m)) → (∀ y, y < m * 3 → R y = g (ad w 5) y) → Q none (setRow g (ad w 5) R, ρ)) :
    ∀ (d n : Nat) (R : Nat → Int), n + d = h → (∀ r, r < h → R (m * 3 + r) = min (E r) (minB (fun run => decide (min (run + 1) (h - 1) = r)) H n)) → (∀ y, y < m * 3 → R y = g (ad w 5) y) → Wp zt 13 (P 13 69) [some (AR w), some (AI f), some (AI m), some (AI ((m : Int) * 3)), some (AI h), some (AI n)] [] (setRow g (ad w 5) R, ρ) Q := by
  obtain ⟨p1, p2, p3, p4, p5⟩ := id hP
  intro d
  induction d with
  | zero =>
    intro n R hn q1 q2
    have e : n = h := by omega
    subst e
    have k1 := fillHere_last (zt := zt) hA hP hM8 h1 h3 hF hc hf hm (E := fun r => min (E r) (minB (fun run => decide (min (run + 1) (n - 1) = r)) H n)) (fun r => by
      have b1 := hE r
      have b2 := minB_b (p := fun run => decide (min (run + 1) (n - 1) = r)) (v := H) (fun o => (hH o).1) n
      omega) (o4 := some (AI n)) hQ n 0 R (by omega) (fun r z => by omega) (fun r _ z => q1 r z) q2
    rw [P_P_fillHere_69]
    simp only [m_P_fillHere, b_P_fillHere_0, P_P_fillHere_33, b_P_fillHere_33, P_P_fillHere_46, b_P_fillHere_46, P_P_fillHere_51, b_P_fillHere_51, P_P_fillHere_60, b_P_fillHere_60, P_P_fillHere_64, b_P_fillHere_64, P_P_fillHere_120, b_P_fillHere_120, P_P_fillHere_173, b_P_fillHere_173, wp_abs, wp_aln0, wp_bipush, wp_copy, wp_cs1, wp_cs2, wp_cs3, wp_cs4, wp_cs5, wp_cs6, wp_cs7, wp_cv1, wp_cv2, wp_cv3, wp_cv4, wp_cv5, wp_cv6, wp_cv7, wp_goto, wp_iadd, wp_iald, wp_iast, wp_icge, wp_iconst, wp_il4, wp_il5, wp_iln1, wp_iln2, wp_iln3, wp_imul, wp_inc4, wp_inc5, wp_is4, wp_is5, wp_isn3, wp_izne, wp_ldc, wp_max, wp_min, wp_nop, wp_ret, qpl_kd, qpl_k1, qpl_l1, qpl_gf0, qpl_k2, qpl_l2, qpl_gf1, qpl_k3, qpl_l3, qpl_gf2, qpl_k4, qpl_l4, qpl_gf3, qpl_k5, qpl_l5, qpl_gf4, qpl_k6, qpl_l6, qpl_gf5, qpl_gf6, qpl_pf6, qpl_gf7, qpl_pf7, qpl_gf8, qpl_pf8, wrI_row, cpI_row, row_s, row_n, row_ss, row_sw, upd_s, upd_n, ad_inj, ad_z, ad_z2, Nat.reduceEqDiff, reduceCtorEq, List.cons_append, List.nil_append, Option.toList_some, Option.toList_none, Int.toNat_natCast, List.length_cons, List.length_nil, Int.cast_ofNat_Int, Nat.reduceAdd, Nat.reduceLeDiff, Nat.reduceLT, Nat.reduceMul, Int.reduceAdd, Int.reduceSub, Int.reduceMul, Int.reduceNeg, Int.reduceLT, Int.reduceLE, Int.reduceEq, Int.reduceToNat, eq_self, true_and, and_true, true_or, or_true, false_or, or_false, if_true, if_false, not_true_eq_false, not_false_eq_true, and_self, ne_eq, b_P_fillHere_69, hA, p3]
    (repeat' (first | apply And.intro | split)) <;> first | omega | exact k1
  | succ d ih =>
    intro n R hn q1 q2
    have hlg := longer_ok (zt := zt) (ρ := ρ) (w := w) (h := h) (g := setRow g (ad w 5) R) hA ((congrFun (row_n (by rw [ad_z2]; decide)) 8).trans p3) h1 h3 (r := n) (by omega)
    have e2 : ((m : Int) * 3 + ((min (n + 1) (h - 1) : Nat) : Int)).toNat = m * 3 + min (n + 1) (h - 1) := by omega
    have e3 : ((m : Int) * 3 + (n : Int)).toNat = m * 3 + n := by omega
    have r1 := q1 (min (n + 1) (h - 1)) (by omega)
    have r6 := hR6 n (by omega)
    have b1 := hE (min (n + 1) (h - 1))
    have b2 := minB_b (p := fun run => decide (min (run + 1) (h - 1) = min (n + 1) (h - 1))) (v := H) (fun o => (hH o).1) n
    have b3 := hH n
    have i1 := ih (n + 1) (upd1 R (m * 3 + min (n + 1) (h - 1)) (min (min (E (min (n + 1) (h - 1))) (minB (fun run => decide (min (run + 1) (h - 1) = min (n + 1) (h - 1))) H n)) (H n))) (by omega) (fun r z => by
        simp only [minB]
        by_cases e : min (n + 1) (h - 1) = r
        · rw [if_pos (by simpa using e)]
          subst e
          rw [upd_s]
          omega
        · rw [if_neg (by simpa using e), upd_n (by omega)]
          exact q1 r z) (fun y z => by
        rw [upd_n (by omega)]
        exact q2 y z)
    generalize hu : minB (fun run => decide (min (run + 1) (h - 1) = min (n + 1) (h - 1))) H n = u at *
    generalize hL : min (n + 1) (h - 1) = L at *
    rw [P_P_fillHere_69]
    simp only [m_P_fillHere, b_P_fillHere_0, P_P_fillHere_33, b_P_fillHere_33, P_P_fillHere_46, b_P_fillHere_46, P_P_fillHere_51, b_P_fillHere_51, P_P_fillHere_60, b_P_fillHere_60, P_P_fillHere_64, b_P_fillHere_64, P_P_fillHere_120, b_P_fillHere_120, P_P_fillHere_173, b_P_fillHere_173, wp_abs, wp_aln0, wp_bipush, wp_copy, wp_cs1, wp_cs2, wp_cs3, wp_cs4, wp_cs5, wp_cs6, wp_cs7, wp_cv1, wp_cv2, wp_cv3, wp_cv4, wp_cv5, wp_cv6, wp_cv7, wp_goto, wp_iadd, wp_iald, wp_iast, wp_icge, wp_iconst, wp_il4, wp_il5, wp_iln1, wp_iln2, wp_iln3, wp_imul, wp_inc4, wp_inc5, wp_is4, wp_is5, wp_isn3, wp_izne, wp_ldc, wp_max, wp_min, wp_nop, wp_ret, qpl_kd, qpl_k1, qpl_l1, qpl_gf0, qpl_k2, qpl_l2, qpl_gf1, qpl_k3, qpl_l3, qpl_gf2, qpl_k4, qpl_l4, qpl_gf3, qpl_k5, qpl_l5, qpl_gf4, qpl_k6, qpl_l6, qpl_gf5, qpl_gf6, qpl_pf6, qpl_gf7, qpl_pf7, qpl_gf8, qpl_pf8, wrI_row, cpI_row, row_s, row_n, row_ss, row_sw, upd_s, upd_n, ad_inj, ad_z, ad_z2, Nat.reduceEqDiff, reduceCtorEq, List.cons_append, List.nil_append, Option.toList_some, Option.toList_none, Int.toNat_natCast, List.length_cons, List.length_nil, Int.cast_ofNat_Int, Nat.reduceAdd, Nat.reduceLeDiff, Nat.reduceLT, Nat.reduceMul, Int.reduceAdd, Int.reduceSub, Int.reduceMul, Int.reduceNeg, Int.reduceLT, Int.reduceLE, Int.reduceEq, Int.reduceToNat, eq_self, true_and, and_true, true_or, or_true, false_or, or_false, if_true, if_false, not_true_eq_false, not_false_eq_true, and_self, ne_eq, b_P_fillHere_69, hA, p3, hlg, e2, e3, r1, r6]
    (repeat' (first | apply And.intro | split)) <;> first | omega | exact i1
theorem fillHere_fill (hA : isPl ρ w) (hh : g w 8 = h) (h3 : h ≤ 3) {f m : Nat} (hm : m < 8) {Q : Option AV → Sto → Prop}
    (kk : ∀ R : Nat → Int, (∀ r, r < h → R (m * 3 + r) = 1000000) → (∀ y, y < m * 3 → R y = g (ad w 5) y) → Wp zt 13 (P 13 33) [some (AR w), some (AI f), some (AI m), some (AI ((m : Int) * 3)), some (AI h), none] [] (setRow g (ad w 5) R, ρ) Q) :
    ∀ (d n : Nat) (R : Nat → Int), n + d = h → (∀ r, r < n → R (m * 3 + r) = 1000000) → (∀ y, y < m * 3 → R y = g (ad w 5) y) → Wp zt 13 (P 13 7) [some (AR w), some (AI f), some (AI m), some (AI ((m : Int) * 3)), some (AI n), none] [] (setRow g (ad w 5) R, ρ) Q := by
  intro d
  induction d with
  | zero =>
    intro n R hn q1 q2
    have e : n = h := by omega
    subst e
    have k1 := kk R q1 q2
    rw [P_P_fillHere_7]
    simp only [m_P_fillHere, b_P_fillHere_0, P_P_fillHere_46, b_P_fillHere_46, P_P_fillHere_51, b_P_fillHere_51, P_P_fillHere_60, b_P_fillHere_60, P_P_fillHere_64, b_P_fillHere_64, P_P_fillHere_120, b_P_fillHere_120, P_P_fillHere_173, b_P_fillHere_173, wp_abs, wp_aln0, wp_bipush, wp_copy, wp_cs1, wp_cs2, wp_cs3, wp_cs4, wp_cs5, wp_cs6, wp_cs7, wp_cv1, wp_cv2, wp_cv3, wp_cv4, wp_cv5, wp_cv6, wp_cv7, wp_goto, wp_iadd, wp_iald, wp_iast, wp_icge, wp_iconst, wp_il4, wp_il5, wp_iln1, wp_iln2, wp_iln3, wp_imul, wp_inc4, wp_inc5, wp_is4, wp_is5, wp_isn3, wp_izne, wp_ldc, wp_max, wp_min, wp_nop, wp_ret, qpl_kd, qpl_k1, qpl_l1, qpl_gf0, qpl_k2, qpl_l2, qpl_gf1, qpl_k3, qpl_l3, qpl_gf2, qpl_k4, qpl_l4, qpl_gf3, qpl_k5, qpl_l5, qpl_gf4, qpl_k6, qpl_l6, qpl_gf5, qpl_gf6, qpl_pf6, qpl_gf7, qpl_pf7, qpl_gf8, qpl_pf8, wrI_row, cpI_row, row_s, row_n, row_ss, row_sw, upd_s, upd_n, ad_inj, ad_z, ad_z2, Nat.reduceEqDiff, reduceCtorEq, List.cons_append, List.nil_append, Option.toList_some, Option.toList_none, Int.toNat_natCast, List.length_cons, List.length_nil, Int.cast_ofNat_Int, Nat.reduceAdd, Nat.reduceLeDiff, Nat.reduceLT, Nat.reduceMul, Int.reduceAdd, Int.reduceSub, Int.reduceMul, Int.reduceNeg, Int.reduceLT, Int.reduceLE, Int.reduceEq, Int.reduceToNat, eq_self, true_and, and_true, true_or, or_true, false_or, or_false, if_true, if_false, not_true_eq_false, not_false_eq_true, and_self, ne_eq, b_P_fillHere_7, hA, hh]
    (repeat' (first | apply And.intro | split)) <;> first | omega | exact k1
  | succ d ih =>
    intro n R hn q1 q2
    have e3 : ((m : Int) * 3 + (n : Int)).toNat = m * 3 + n := by omega
    have i1 := ih (n + 1) (upd1 R (m * 3 + n) 1000000) (by omega) (fun r z => by
        by_cases e : r = n
        · subst e
          rw [upd_s]
        · rw [upd_n (by omega)]
          exact q1 r (by omega)) (fun y z => by
        rw [upd_n (by omega)]
        exact q2 y z)
    rw [P_P_fillHere_7]
    simp only [m_P_fillHere, b_P_fillHere_0, P_P_fillHere_46, b_P_fillHere_46, P_P_fillHere_51, b_P_fillHere_51, P_P_fillHere_60, b_P_fillHere_60, P_P_fillHere_64, b_P_fillHere_64, P_P_fillHere_120, b_P_fillHere_120, P_P_fillHere_173, b_P_fillHere_173, wp_abs, wp_aln0, wp_bipush, wp_copy, wp_cs1, wp_cs2, wp_cs3, wp_cs4, wp_cs5, wp_cs6, wp_cs7, wp_cv1, wp_cv2, wp_cv3, wp_cv4, wp_cv5, wp_cv6, wp_cv7, wp_goto, wp_iadd, wp_iald, wp_iast, wp_icge, wp_iconst, wp_il4, wp_il5, wp_iln1, wp_iln2, wp_iln3, wp_imul, wp_inc4, wp_inc5, wp_is4, wp_is5, wp_isn3, wp_izne, wp_ldc, wp_max, wp_min, wp_nop, wp_ret, qpl_kd, qpl_k1, qpl_l1, qpl_gf0, qpl_k2, qpl_l2, qpl_gf1, qpl_k3, qpl_l3, qpl_gf2, qpl_k4, qpl_l4, qpl_gf3, qpl_k5, qpl_l5, qpl_gf4, qpl_k6, qpl_l6, qpl_gf5, qpl_gf6, qpl_pf6, qpl_gf7, qpl_pf7, qpl_gf8, qpl_pf8, wrI_row, cpI_row, row_s, row_n, row_ss, row_sw, upd_s, upd_n, ad_inj, ad_z, ad_z2, Nat.reduceEqDiff, reduceCtorEq, List.cons_append, List.nil_append, Option.toList_some, Option.toList_none, Int.toNat_natCast, List.length_cons, List.length_nil, Int.cast_ofNat_Int, Nat.reduceAdd, Nat.reduceLeDiff, Nat.reduceLT, Nat.reduceMul, Int.reduceAdd, Int.reduceSub, Int.reduceMul, Int.reduceNeg, Int.reduceLT, Int.reduceLE, Int.reduceEq, Int.reduceToNat, eq_self, true_and, and_true, true_or, or_true, false_or, or_false, if_true, if_false, not_true_eq_false, not_false_eq_true, and_self, ne_eq, b_P_fillHere_7, hA, hh, e3]
    (repeat' (first | apply And.intro | split)) <;> first | omega | exact i1
theorem fillHere_ok (hA : isPl ρ w) (hP : plI g w F M h c cl) (hM8 : M ≤ 8) (h1 : 1 ≤ h) (h3 : h ≤ 3) (hF : F ≤ 99) (hc : ∀ f m, 0 ≤ c f m ∧ c f m ≤ 1000000) {f m : Nat} (hf : f < F) (hm : m < M) (hR6 : ∀ f', f = f' + 1 → ∀ m r, m < M → r < h → g (ad w 6) (m * 3 + r) = Hv M h c cl f' m r) {Q : Option AV → Sto → Prop}
    (hQ : ∀ R : Nat → Int, (∀ r, r < h → R (m * 3 + r) = Hv M h c cl f m r) → (∀ y, y < m * 3 → R y = g (ad w 5) y) → Q none (setRow g (ad w 5) R, ρ)) : WpM zt 13 [AR w, AI f, AI m] (g, ρ) Q := by
  obtain ⟨p1, p2, p3, p4, p5⟩ := id hP
  have k1 := fillHere_fill (zt := zt) (g := g) (ρ := ρ) (w := w) (h := h) (Q := Q) hA p3 h3 (f := f) (m := m) (by omega) (fun R q1 q2 => by
    have e3 : ((m : Int) * 3).toNat = m * 3 := by omega
    rw [P_P_fillHere_33]
    cases f with
    | zero =>
      have k2 := fillHere_last (zt := zt) (Q := Q) hA hP hM8 h1 h3 hF hc hf hm (E := fun r => if r = 0 then 0 else 1000000) (fun r => by split <;> omega) (o4 := some (AI 0)) hQ h 0 (upd1 R (m * 3) 0) (by omega) (fun r z => by omega) (fun r _ z => by
        by_cases e : r = 0
        · subst e
          rw [if_pos rfl]
          exact upd_s
        · rw [if_neg e, upd_n (by omega)]
          exact q1 r z) (fun y z => by
        rw [upd_n (by omega)]
        exact q2 y z)
      simp only [m_P_fillHere, b_P_fillHere_0, P_P_fillHere_33, b_P_fillHere_33, P_P_fillHere_46, b_P_fillHere_46, P_P_fillHere_51, b_P_fillHere_51, P_P_fillHere_60, b_P_fillHere_60, P_P_fillHere_64, b_P_fillHere_64, P_P_fillHere_69, b_P_fillHere_69, P_P_fillHere_120, b_P_fillHere_120, P_P_fillHere_173, b_P_fillHere_173, wp_abs, wp_aln0, wp_bipush, wp_copy, wp_cs1, wp_cs2, wp_cs3, wp_cs4, wp_cs5, wp_cs6, wp_cs7, wp_cv1, wp_cv2, wp_cv3, wp_cv4, wp_cv5, wp_cv6, wp_cv7, wp_goto, wp_iadd, wp_iald, wp_iast, wp_icge, wp_iconst, wp_il4, wp_il5, wp_iln1, wp_iln2, wp_iln3, wp_imul, wp_inc4, wp_inc5, wp_is4, wp_is5, wp_isn3, wp_izne, wp_ldc, wp_max, wp_min, wp_nop, wp_ret, qpl_kd, qpl_k1, qpl_l1, qpl_gf0, qpl_k2, qpl_l2, qpl_gf1, qpl_k3, qpl_l3, qpl_gf2, qpl_k4, qpl_l4, qpl_gf3, qpl_k5, qpl_l5, qpl_gf4, qpl_k6, qpl_l6, qpl_gf5, qpl_gf6, qpl_pf6, qpl_gf7, qpl_pf7, qpl_gf8, qpl_pf8, wrI_row, cpI_row, row_s, row_n, row_ss, row_sw, upd_s, upd_n, ad_inj, ad_z, ad_z2, Nat.reduceEqDiff, reduceCtorEq, List.cons_append, List.nil_append, Option.toList_some, Option.toList_none, Int.toNat_natCast, List.length_cons, List.length_nil, Int.cast_ofNat_Int, Nat.reduceAdd, Nat.reduceLeDiff, Nat.reduceLT, Nat.reduceMul, Int.reduceAdd, Int.reduceSub, Int.reduceMul, Int.reduceNeg, Int.reduceLT, Int.reduceLE, Int.reduceEq, Int.reduceToNat, eq_self, true_and, and_true, true_or, or_true, false_or, or_false, if_true, if_false, not_true_eq_false, not_false_eq_true, and_self, ne_eq, b_P_fillHere_33, hA, p3, e3]
      (repeat' (first | apply And.intro | split)) <;> first | omega | exact k2
    | succ f' =>
      have hr6 := hR6 f' rfl
      have hlo := leastOfEntering_ok (zt := zt) (ρ := ρ) (g := setRow g (ad w 5) R) hA (plI_row5 hP R) hM8 h1 h3 hm (v := fun o => Hv M h c cl f' o (h - 1)) (fun o => (Hv_b (fun f m => (hc f m).1) f' o (h - 1)).1) (fun o ho => by
        rw [row_n (by rw [ad_inj]; decide)]
        exact hr6 o (h - 1) ho (by omega))
      have b1 := minB_b (p := fun o => !(o == m) && cl o m) (v := fun o => Hv M h c cl f' o (h - 1)) (fun o => (Hv_b (fun f m => (hc f m).1) f' o (h - 1)).1.1) M
      have k2 := fillHere_mid (zt := zt) (Q := Q) hA hP hM8 h1 h3 hF hc hf hm (E := fun r => if r = 0 then minB (fun o => !(o == m) && cl o m) (fun o => Hv M h c cl f' o (h - 1)) M else 1000000) (H := fun r => Hv M h c cl f' m r) (fun r => by split <;> omega) (fun r => (Hv_b (fun f m => (hc f m).1) f' m r).1) (fun r z => hr6 m r hm z) hQ h 0 (upd1 R (m * 3) (minB (fun o => !(o == m) && cl o m) (fun o => Hv M h c cl f' o (h - 1)) M)) (by omega) (fun r z => by
        simp only [minB]
        by_cases e : r = 0
        · subst e
          rw [if_pos rfl, Nat.add_zero, upd_s]
          omega
        · rw [if_neg e, upd_n (by omega), q1 r z]
          omega) (fun y z => by
        rw [upd_n (by omega)]
        exact q2 y z)
      have hk0 : ¬ ((f' + 1 : Nat) : Int) = 0 := by omega
      generalize hk : ((f' + 1 : Nat) : Int) = kk at *
      simp only [m_P_fillHere, b_P_fillHere_0, P_P_fillHere_33, b_P_fillHere_33, P_P_fillHere_46, b_P_fillHere_46, P_P_fillHere_51, b_P_fillHere_51, P_P_fillHere_60, b_P_fillHere_60, P_P_fillHere_64, b_P_fillHere_64, P_P_fillHere_120, b_P_fillHere_120, P_P_fillHere_173, b_P_fillHere_173, wp_abs, wp_aln0, wp_bipush, wp_copy, wp_cs1, wp_cs2, wp_cs3, wp_cs4, wp_cs5, wp_cs6, wp_cs7, wp_cv1, wp_cv2, wp_cv3, wp_cv4, wp_cv5, wp_cv6, wp_cv7, wp_goto, wp_iadd, wp_iald, wp_iast, wp_icge, wp_iconst, wp_il4, wp_il5, wp_iln1, wp_iln2, wp_iln3, wp_imul, wp_inc4, wp_inc5, wp_is4, wp_is5, wp_isn3, wp_izne, wp_ldc, wp_max, wp_min, wp_nop, wp_ret, qpl_kd, qpl_k1, qpl_l1, qpl_gf0, qpl_k2, qpl_l2, qpl_gf1, qpl_k3, qpl_l3, qpl_gf2, qpl_k4, qpl_l4, qpl_gf3, qpl_k5, qpl_l5, qpl_gf4, qpl_k6, qpl_l6, qpl_gf5, qpl_gf6, qpl_pf6, qpl_gf7, qpl_pf7, qpl_gf8, qpl_pf8, wrI_row, cpI_row, row_s, row_n, row_ss, row_sw, upd_s, upd_n, ad_inj, ad_z, ad_z2, Nat.reduceEqDiff, reduceCtorEq, List.cons_append, List.nil_append, Option.toList_some, Option.toList_none, Int.toNat_natCast, List.length_cons, List.length_nil, Int.cast_ofNat_Int, Nat.reduceAdd, Nat.reduceLeDiff, Nat.reduceLT, Nat.reduceMul, Int.reduceAdd, Int.reduceSub, Int.reduceMul, Int.reduceNeg, Int.reduceLT, Int.reduceLE, Int.reduceEq, Int.reduceToNat, eq_self, true_and, and_true, true_or, or_true, false_or, or_false, if_true, if_false, not_true_eq_false, not_false_eq_true, and_self, ne_eq, b_P_fillHere_33, hA, p3, e3, hlo, hk0]
      (repeat' (first | apply And.intro | split)) <;> first | omega | exact k2) h 0 (g (ad w 5)) (by omega) (fun r z => by omega) (fun y z => rfl)
  rw [row_id] at k1
  simp only [m_P_fillHere, b_P_fillHere_0, P_P_fillHere_33, b_P_fillHere_33, P_P_fillHere_46, b_P_fillHere_46, P_P_fillHere_51, b_P_fillHere_51, P_P_fillHere_60, b_P_fillHere_60, P_P_fillHere_64, b_P_fillHere_64, P_P_fillHere_120, b_P_fillHere_120, P_P_fillHere_173, b_P_fillHere_173, wp_abs, wp_aln0, wp_bipush, wp_copy, wp_cs1, wp_cs2, wp_cs3, wp_cs4, wp_cs5, wp_cs6, wp_cs7, wp_cv1, wp_cv2, wp_cv3, wp_cv4, wp_cv5, wp_cv6, wp_cv7, wp_goto, wp_iadd, wp_iald, wp_iast, wp_icge, wp_iconst, wp_il4, wp_il5, wp_iln1, wp_iln2, wp_iln3, wp_imul, wp_inc4, wp_inc5, wp_is4, wp_is5, wp_isn3, wp_izne, wp_ldc, wp_max, wp_min, wp_nop, wp_ret, qpl_kd, qpl_k1, qpl_l1, qpl_gf0, qpl_k2, qpl_l2, qpl_gf1, qpl_k3, qpl_l3, qpl_gf2, qpl_k4, qpl_l4, qpl_gf3, qpl_k5, qpl_l5, qpl_gf4, qpl_k6, qpl_l6, qpl_gf5, qpl_gf6, qpl_pf6, qpl_gf7, qpl_pf7, qpl_gf8, qpl_pf8, wrI_row, cpI_row, row_s, row_n, row_ss, row_sw, upd_s, upd_n, ad_inj, ad_z, ad_z2, Nat.reduceEqDiff, reduceCtorEq, List.cons_append, List.nil_append, Option.toList_some, Option.toList_none, Int.toNat_natCast, List.length_cons, List.length_nil, Int.cast_ofNat_Int, Nat.reduceAdd, Nat.reduceLeDiff, Nat.reduceLT, Nat.reduceMul, Int.reduceAdd, Int.reduceSub, Int.reduceMul, Int.reduceNeg, Int.reduceLT, Int.reduceLE, Int.reduceEq, Int.reduceToNat, eq_self, true_and, and_true, true_or, or_true, false_or, or_false, if_true, if_false, not_true_eq_false, not_false_eq_true, and_self, ne_eq, hA]
  exact k1
def fwI (g : Nat → Nat → Int) (w : Nat) (g1 : Nat → Nat → Int) : Prop := ∀ x, ¬ x = ad w 5 → ¬ x = ad w 6 → g1 x = g x
theorem plI_fw {g1 : Nat → Nat → Int} (hP : plI g w F M h c cl) (hI : fwI g w g1) : plI g1 w F M h c cl := by
  obtain ⟨p1, p2, p3, p4, p5⟩ := hP
  have e0 : g1 w = g w := hI _ (by rw [ad_z2]; decide) (by rw [ad_z2]; decide)
  have e2 : g1 (ad w 2) = g (ad w 2) := hI _ (by rw [ad_inj]; decide) (by rw [ad_inj]; decide)
  have e3 : g1 (ad w 3) = g (ad w 3) := hI _ (by rw [ad_inj]; decide) (by rw [ad_inj]; decide)
  unfold plI
  rw [e0, e2, e3]
  exact ⟨p1, p2, p3, p4, p5⟩
theorem leastFromStart_inner (hA : isPl ρ w) (hP : plI g w F M h c cl) (hM8 : M ≤ 8) (h1 : 1 ≤ h) (h3 : h ≤ 3) (hF : F ≤ 99) (hc : ∀ f m, 0 ≤ c f m ∧ c f m ≤ 1000000) {f : Nat} (hf : f < F) {o3 : Option AV} {Q : Option AV → Sto → Prop}
    (kk : ∀ (g2 : Nat → Nat → Int) (o2 : Option AV), fwI g w g2 → (∀ m r, m < M → r < h → g2 (ad w 5) (m * 3 + r) = Hv M h c cl f m r) → Wp zt 12 (P 12 11) [some (AR w), some (AI ((f : Int) + 1)), o2, o3] [] (g2, ρ) Q) :
    ∀ (d n : Nat) (g1 : Nat → Nat → Int), n + d = M → fwI g w g1 → (∀ f', f = f' + 1 → ∀ m r, m < M → r < h → g1 (ad w 6) (m * 3 + r) = Hv M h c cl f' m r) → (∀ m r, m < n → r < h → g1 (ad w 5) (m * 3 + r) = Hv M h c cl f m r) → Wp zt 12 (P 12 36) [some (AR w), some (AI f), some (AI n), o3] [] (g1, ρ) Q := by
  intro d
  induction d with
  | zero =>
    intro n g1 hn q1 q2 q3
    have e : n = M := by omega
    subst e
    have k1 := kk g1 (some (AI n)) q1 q3
    have p2 := (plI_fw hP q1).2.1
    rw [P_P_leastFromStart_36]
    simp only [m_P_leastFromStart, b_P_leastFromStart_0, P_P_leastFromStart_9, b_P_leastFromStart_9, P_P_leastFromStart_56, b_P_leastFromStart_56, P_P_leastFromStart_62, b_P_leastFromStart_62, P_P_leastFromStart_106, b_P_leastFromStart_106, P_P_leastFromStart_112, b_P_leastFromStart_112, P_P_leastFromStart_122, b_P_leastFromStart_122, P_P_leastFromStart_124, b_P_leastFromStart_124, wp_abs, wp_aln0, wp_bipush, wp_copy, wp_cs1, wp_cs2, wp_cs3, wp_cs4, wp_cs5, wp_cs6, wp_cs7, wp_cv1, wp_cv2, wp_cv3, wp_cv4, wp_cv5, wp_cv6, wp_cv7, wp_goto, wp_iadd, wp_iald, wp_icge, wp_iconst, wp_iln1, wp_iln2, wp_iln3, wp_imul, wp_inc1, wp_inc2, wp_inc3, wp_iret, wp_isn1, wp_isn2, wp_isn3, wp_izne, wp_ldc, wp_max, wp_min, wp_nop, wp_zret, qpl_kd, qpl_k1, qpl_l1, qpl_gf0, qpl_k2, qpl_l2, qpl_gf1, qpl_k3, qpl_l3, qpl_gf2, qpl_k4, qpl_l4, qpl_gf3, qpl_k5, qpl_l5, qpl_gf4, qpl_k6, qpl_l6, qpl_gf5, qpl_gf6, qpl_pf6, qpl_gf7, qpl_pf7, qpl_gf8, qpl_pf8, wrI_row, cpI_row, row_s, row_n, row_ss, row_sw, upd_s, upd_n, ad_inj, ad_z, ad_z2, Nat.reduceEqDiff, reduceCtorEq, List.cons_append, List.nil_append, Option.toList_some, Option.toList_none, Int.toNat_natCast, List.length_cons, List.length_nil, Int.cast_ofNat_Int, Nat.reduceAdd, Nat.reduceLeDiff, Nat.reduceLT, Nat.reduceMul, Int.reduceAdd, Int.reduceSub, Int.reduceMul, Int.reduceNeg, Int.reduceLT, Int.reduceLE, Int.reduceEq, Int.reduceToNat, eq_self, true_and, and_true, true_or, or_true, false_or, or_false, if_true, if_false, not_true_eq_false, not_false_eq_true, and_self, ne_eq, b_P_leastFromStart_36, hA, p2]
    (repeat' (first | apply And.intro | split)) <;> first | omega | exact k1
  | succ d ih =>
    intro n g1 hn q1 q2 q3
    have p2 := (plI_fw hP q1).2.1
    rw [P_P_leastFromStart_36]
    simp only [m_P_leastFromStart, b_P_leastFromStart_0, P_P_leastFromStart_9, b_P_leastFromStart_9, P_P_leastFromStart_56, b_P_leastFromStart_56, P_P_leastFromStart_62, b_P_leastFromStart_62, P_P_leastFromStart_106, b_P_leastFromStart_106, P_P_leastFromStart_112, b_P_leastFromStart_112, P_P_leastFromStart_122, b_P_leastFromStart_122, P_P_leastFromStart_124, b_P_leastFromStart_124, wp_abs, wp_aln0, wp_bipush, wp_copy, wp_cs1, wp_cs2, wp_cs3, wp_cs4, wp_cs5, wp_cs6, wp_cs7, wp_cv1, wp_cv2, wp_cv3, wp_cv4, wp_cv5, wp_cv6, wp_cv7, wp_goto, wp_iadd, wp_iald, wp_icge, wp_iconst, wp_iln1, wp_iln2, wp_iln3, wp_imul, wp_inc1, wp_inc2, wp_inc3, wp_iret, wp_isn1, wp_isn2, wp_isn3, wp_izne, wp_ldc, wp_max, wp_min, wp_nop, wp_zret, qpl_kd, qpl_k1, qpl_l1, qpl_gf0, qpl_k2, qpl_l2, qpl_gf1, qpl_k3, qpl_l3, qpl_gf2, qpl_k4, qpl_l4, qpl_gf3, qpl_k5, qpl_l5, qpl_gf4, qpl_k6, qpl_l6, qpl_gf5, qpl_gf6, qpl_pf6, qpl_gf7, qpl_pf7, qpl_gf8, qpl_pf8, wrI_row, cpI_row, row_s, row_n, row_ss, row_sw, upd_s, upd_n, ad_inj, ad_z, ad_z2, Nat.reduceEqDiff, reduceCtorEq, List.cons_append, List.nil_append, Option.toList_some, Option.toList_none, Int.toNat_natCast, List.length_cons, List.length_nil, Int.cast_ofNat_Int, Nat.reduceAdd, Nat.reduceLeDiff, Nat.reduceLT, Nat.reduceMul, Int.reduceAdd, Int.reduceSub, Int.reduceMul, Int.reduceNeg, Int.reduceLT, Int.reduceLE, Int.reduceEq, Int.reduceToNat, eq_self, true_and, and_true, true_or, or_true, false_or, or_false, if_true, if_false, not_true_eq_false, not_false_eq_true, and_self, ne_eq, b_P_leastFromStart_36, hA, p2]
    (repeat' (first | apply And.intro | split)) <;> first | omega | skip
    refine fillHere_ok hA (plI_fw hP q1) hM8 h1 h3 hF hc hf (by omega) q2 (fun R z1 z2 => ?_)
    have i1 := ih (n + 1) (setRow g1 (ad w 5) R) (by omega) (fun x y1 y2 => by
      rw [row_n y1]
      exact q1 x y1 y2) (by
      rw [row_n (by rw [ad_inj]; decide)]
      exact q2) (fun m r y1 y2 => by
      rw [row_s]
      by_cases e : m = n
      · subst e
        exact z1 r y2
      · rw [z2 _ (by omega)]
        exact q3 m r (by omega) y2)
    simp only [m_P_leastFromStart, b_P_leastFromStart_0, P_P_leastFromStart_9, b_P_leastFromStart_9, P_P_leastFromStart_56, b_P_leastFromStart_56, P_P_leastFromStart_62, b_P_leastFromStart_62, P_P_leastFromStart_106, b_P_leastFromStart_106, P_P_leastFromStart_112, b_P_leastFromStart_112, P_P_leastFromStart_122, b_P_leastFromStart_122, P_P_leastFromStart_124, b_P_leastFromStart_124, wp_abs, wp_aln0, wp_bipush, wp_copy, wp_cs1, wp_cs2, wp_cs3, wp_cs4, wp_cs5, wp_cs6, wp_cs7, wp_cv1, wp_cv2, wp_cv3, wp_cv4, wp_cv5, wp_cv6, wp_cv7, wp_goto, wp_iadd, wp_iald, wp_icge, wp_iconst, wp_iln1, wp_iln2, wp_iln3, wp_imul, wp_inc1, wp_inc2, wp_inc3, wp_iret, wp_isn1, wp_isn2, wp_isn3, wp_izne, wp_ldc, wp_max, wp_min, wp_nop, wp_zret, qpl_kd, qpl_k1, qpl_l1, qpl_gf0, qpl_k2, qpl_l2, qpl_gf1, qpl_k3, qpl_l3, qpl_gf2, qpl_k4, qpl_l4, qpl_gf3, qpl_k5, qpl_l5, qpl_gf4, qpl_k6, qpl_l6, qpl_gf5, qpl_gf6, qpl_pf6, qpl_gf7, qpl_pf7, qpl_gf8, qpl_pf8, wrI_row, cpI_row, row_s, row_n, row_ss, row_sw, upd_s, upd_n, ad_inj, ad_z, ad_z2, Nat.reduceEqDiff, reduceCtorEq, List.cons_append, List.nil_append, Option.toList_some, Option.toList_none, Int.toNat_natCast, List.length_cons, List.length_nil, Int.cast_ofNat_Int, Nat.reduceAdd, Nat.reduceLeDiff, Nat.reduceLT, Nat.reduceMul, Int.reduceAdd, Int.reduceSub, Int.reduceMul, Int.reduceNeg, Int.reduceLT, Int.reduceLE, Int.reduceEq, Int.reduceToNat, eq_self, true_and, and_true, true_or, or_true, false_or, or_false, if_true, if_false, not_true_eq_false, not_false_eq_true, and_self, ne_eq, hA, p2]
    (repeat' (first | apply And.intro | split)) <;> first | omega | exact i1
theorem leastFromStart_least2 (hA : isPl ρ w) (hh : g w 8 = h) (h1 : 1 ≤ h) (h3 : h ≤ 3) {m : Nat} (hm : m < 8) {v : Nat → Int} (hv : ∀ j, 0 ≤ v j ∧ v j ≤ 1000000) (hR : ∀ r, r < h → g (ad w 5) (m * 3 + r) = v r) {t : Int} (ht : 0 ≤ t ∧ t ≤ 1000000) {Q : Option AV → Sto → Prop}
    (kk : ∀ o : Option AV, Wp zt 12 (P 12 67) [some (AR w), some (AI (min t (minB (fun _ => true) v h))), some (AI ((m : Int) + 1)), o] [] (g, ρ) Q) :
    ∀ (d n : Nat), n + d = h → Wp zt 12 (P 12 77) [some (AR w), some (AI (min t (minB (fun _ => true) v n))), some (AI m), some (AI n)] [] (g, ρ) Q := by
  intro d
  induction d with
  | zero =>
    intro n hn
    have e : n = h := by omega
    subst e
    have k1 := kk (some (AI n))
    rw [P_P_leastFromStart_77]
    simp only [m_P_leastFromStart, b_P_leastFromStart_0, P_P_leastFromStart_9, b_P_leastFromStart_9, P_P_leastFromStart_56, b_P_leastFromStart_56, P_P_leastFromStart_62, b_P_leastFromStart_62, P_P_leastFromStart_106, b_P_leastFromStart_106, P_P_leastFromStart_112, b_P_leastFromStart_112, P_P_leastFromStart_122, b_P_leastFromStart_122, P_P_leastFromStart_124, b_P_leastFromStart_124, wp_abs, wp_aln0, wp_bipush, wp_copy, wp_cs1, wp_cs2, wp_cs3, wp_cs4, wp_cs5, wp_cs6, wp_cs7, wp_cv1, wp_cv2, wp_cv3, wp_cv4, wp_cv5, wp_cv6, wp_cv7, wp_goto, wp_iadd, wp_iald, wp_icge, wp_iconst, wp_iln1, wp_iln2, wp_iln3, wp_imul, wp_inc1, wp_inc2, wp_inc3, wp_iret, wp_isn1, wp_isn2, wp_isn3, wp_izne, wp_ldc, wp_max, wp_min, wp_nop, wp_zret, qpl_kd, qpl_k1, qpl_l1, qpl_gf0, qpl_k2, qpl_l2, qpl_gf1, qpl_k3, qpl_l3, qpl_gf2, qpl_k4, qpl_l4, qpl_gf3, qpl_k5, qpl_l5, qpl_gf4, qpl_k6, qpl_l6, qpl_gf5, qpl_gf6, qpl_pf6, qpl_gf7, qpl_pf7, qpl_gf8, qpl_pf8, wrI_row, cpI_row, row_s, row_n, row_ss, row_sw, upd_s, upd_n, ad_inj, ad_z, ad_z2, Nat.reduceEqDiff, reduceCtorEq, List.cons_append, List.nil_append, Option.toList_some, Option.toList_none, Int.toNat_natCast, List.length_cons, List.length_nil, Int.cast_ofNat_Int, Nat.reduceAdd, Nat.reduceLeDiff, Nat.reduceLT, Nat.reduceMul, Int.reduceAdd, Int.reduceSub, Int.reduceMul, Int.reduceNeg, Int.reduceLT, Int.reduceLE, Int.reduceEq, Int.reduceToNat, eq_self, true_and, and_true, true_or, or_true, false_or, or_false, if_true, if_false, not_true_eq_false, not_false_eq_true, and_self, ne_eq, b_P_leastFromStart_77, hA, hh]
    (repeat' (first | apply And.intro | split)) <;> first | omega | exact k1
  | succ d ih =>
    intro n hn
    have i1 := ih (n + 1) (by omega)
    have b1 := minB_b (p := fun _ => true) (v := v) (fun j => (hv j).1) n
    have b2 := hv n
    have r1 := hR n (by omega)
    have e3 : ((m : Int) * 3 + (n : Int)).toNat = m * 3 + n := by omega
    simp only [minB, if_true] at i1
    rw [show min t (min (minB (fun _ => true) v n) (v n)) = min (min t (minB (fun _ => true) v n)) (v n) by omega] at i1
    rw [P_P_leastFromStart_77]
    simp only [m_P_leastFromStart, b_P_leastFromStart_0, P_P_leastFromStart_9, b_P_leastFromStart_9, P_P_leastFromStart_56, b_P_leastFromStart_56, P_P_leastFromStart_62, b_P_leastFromStart_62, P_P_leastFromStart_106, b_P_leastFromStart_106, P_P_leastFromStart_112, b_P_leastFromStart_112, P_P_leastFromStart_122, b_P_leastFromStart_122, P_P_leastFromStart_124, b_P_leastFromStart_124, wp_abs, wp_aln0, wp_bipush, wp_copy, wp_cs1, wp_cs2, wp_cs3, wp_cs4, wp_cs5, wp_cs6, wp_cs7, wp_cv1, wp_cv2, wp_cv3, wp_cv4, wp_cv5, wp_cv6, wp_cv7, wp_goto, wp_iadd, wp_iald, wp_icge, wp_iconst, wp_iln1, wp_iln2, wp_iln3, wp_imul, wp_inc1, wp_inc2, wp_inc3, wp_iret, wp_isn1, wp_isn2, wp_isn3, wp_izne, wp_ldc, wp_max, wp_min, wp_nop, wp_zret, qpl_kd, qpl_k1, qpl_l1, qpl_gf0, qpl_k2, qpl_l2, qpl_gf1, qpl_k3, qpl_l3, qpl_gf2, qpl_k4, qpl_l4, qpl_gf3, qpl_k5, qpl_l5, qpl_gf4, qpl_k6, qpl_l6, qpl_gf5, qpl_gf6, qpl_pf6, qpl_gf7, qpl_pf7, qpl_gf8, qpl_pf8, wrI_row, cpI_row, row_s, row_n, row_ss, row_sw, upd_s, upd_n, ad_inj, ad_z, ad_z2, Nat.reduceEqDiff, reduceCtorEq, List.cons_append, List.nil_append, Option.toList_some, Option.toList_none, Int.toNat_natCast, List.length_cons, List.length_nil, Int.cast_ofNat_Int, Nat.reduceAdd, Nat.reduceLeDiff, Nat.reduceLT, Nat.reduceMul, Int.reduceAdd, Int.reduceSub, Int.reduceMul, Int.reduceNeg, Int.reduceLT, Int.reduceLE, Int.reduceEq, Int.reduceToNat, eq_self, true_and, and_true, true_or, or_true, false_or, or_false, if_true, if_false, not_true_eq_false, not_false_eq_true, and_self, ne_eq, b_P_leastFromStart_77, hA, hh, r1, e3]
    (repeat' (first | apply And.intro | split)) <;> first | omega | exact i1
theorem leastFromStart_least (hA : isPl ρ w) (hM : g w 7 = M) (hM8 : M ≤ 8) (hh : g w 8 = h) (h1 : 1 ≤ h) (h3 : h ≤ 3) {v : Nat → Nat → Int} (hv : ∀ m j, 0 ≤ v m j ∧ v m j ≤ 1000000) (hR : ∀ m r, m < M → r < h → g (ad w 5) (m * 3 + r) = v m r) {Q : Option AV → Sto → Prop} {t : Int} (ht : minB (fun _ => true) (fun m => minB (fun _ => true) (v m) h) M = t) (hQ : Q (some (AI (if t < 1000000 then t else -99))) (g, ρ)) :
    ∀ (d n : Nat) (o3 : Option AV), n + d = M → Wp zt 12 (P 12 67) [some (AR w), some (AI (minB (fun _ => true) (fun m => minB (fun _ => true) (v m) h) n)), some (AI n), o3] [] (g, ρ) Q := by
  have hb := fun m => minB_b (p := fun _ => true) (v := v m) (fun j => (hv m j).1) h
  intro d
  induction d with
  | zero =>
    intro n o3 hn
    have e : n = M := by omega
    subst e
    have b1 := minB_b (p := fun _ => true) (v := fun m => minB (fun _ => true) (v m) h) (fun j => (hb j).1) n
    rw [ht] at b1
    rw [P_P_leastFromStart_67, ht]
    by_cases hc : t < 1000000
    · rw [if_pos hc] at hQ
      simp only [m_P_leastFromStart, b_P_leastFromStart_0, P_P_leastFromStart_9, b_P_leastFromStart_9, P_P_leastFromStart_56, b_P_leastFromStart_56, P_P_leastFromStart_62, b_P_leastFromStart_62, P_P_leastFromStart_106, b_P_leastFromStart_106, P_P_leastFromStart_112, b_P_leastFromStart_112, P_P_leastFromStart_122, b_P_leastFromStart_122, P_P_leastFromStart_124, b_P_leastFromStart_124, wp_abs, wp_aln0, wp_bipush, wp_copy, wp_cs1, wp_cs2, wp_cs3, wp_cs4, wp_cs5, wp_cs6, wp_cs7, wp_cv1, wp_cv2, wp_cv3, wp_cv4, wp_cv5, wp_cv6, wp_cv7, wp_goto, wp_iadd, wp_iald, wp_icge, wp_iconst, wp_iln1, wp_iln2, wp_iln3, wp_imul, wp_inc1, wp_inc2, wp_inc3, wp_iret, wp_isn1, wp_isn2, wp_isn3, wp_izne, wp_ldc, wp_max, wp_min, wp_nop, wp_zret, qpl_kd, qpl_k1, qpl_l1, qpl_gf0, qpl_k2, qpl_l2, qpl_gf1, qpl_k3, qpl_l3, qpl_gf2, qpl_k4, qpl_l4, qpl_gf3, qpl_k5, qpl_l5, qpl_gf4, qpl_k6, qpl_l6, qpl_gf5, qpl_gf6, qpl_pf6, qpl_gf7, qpl_pf7, qpl_gf8, qpl_pf8, wrI_row, cpI_row, row_s, row_n, row_ss, row_sw, upd_s, upd_n, ad_inj, ad_z, ad_z2, Nat.reduceEqDiff, reduceCtorEq, List.cons_append, List.nil_append, Option.toList_some, Option.toList_none, Int.toNat_natCast, List.length_cons, List.length_nil, Int.cast_ofNat_Int, Nat.reduceAdd, Nat.reduceLeDiff, Nat.reduceLT, Nat.reduceMul, Int.reduceAdd, Int.reduceSub, Int.reduceMul, Int.reduceNeg, Int.reduceLT, Int.reduceLE, Int.reduceEq, Int.reduceToNat, eq_self, true_and, and_true, true_or, or_true, false_or, or_false, if_true, if_false, not_true_eq_false, not_false_eq_true, and_self, ne_eq, b_P_leastFromStart_67, hA, hM]
      (repeat' (first | apply And.intro | split)) <;> first | omega | exact hQ
    · rw [if_neg hc] at hQ
      simp only [m_P_leastFromStart, b_P_leastFromStart_0, P_P_leastFromStart_9, b_P_leastFromStart_9, P_P_leastFromStart_56, b_P_leastFromStart_56, P_P_leastFromStart_62, b_P_leastFromStart_62, P_P_leastFromStart_106, b_P_leastFromStart_106, P_P_leastFromStart_112, b_P_leastFromStart_112, P_P_leastFromStart_122, b_P_leastFromStart_122, P_P_leastFromStart_124, b_P_leastFromStart_124, wp_abs, wp_aln0, wp_bipush, wp_copy, wp_cs1, wp_cs2, wp_cs3, wp_cs4, wp_cs5, wp_cs6, wp_cs7, wp_cv1, wp_cv2, wp_cv3, wp_cv4, wp_cv5, wp_cv6, wp_cv7, wp_goto, wp_iadd, wp_iald, wp_icge, wp_iconst, wp_iln1, wp_iln2, wp_iln3, wp_imul, wp_inc1, wp_inc2, wp_inc3, wp_iret, wp_isn1, wp_isn2, wp_isn3, wp_izne, wp_ldc, wp_max, wp_min, wp_nop, wp_zret, qpl_kd, qpl_k1, qpl_l1, qpl_gf0, qpl_k2, qpl_l2, qpl_gf1, qpl_k3, qpl_l3, qpl_gf2, qpl_k4, qpl_l4, qpl_gf3, qpl_k5, qpl_l5, qpl_gf4, qpl_k6, qpl_l6, qpl_gf5, qpl_gf6, qpl_pf6, qpl_gf7, qpl_pf7, qpl_gf8, qpl_pf8, wrI_row, cpI_row, row_s, row_n, row_ss, row_sw, upd_s, upd_n, ad_inj, ad_z, ad_z2, Nat.reduceEqDiff, reduceCtorEq, List.cons_append, List.nil_append, Option.toList_some, Option.toList_none, Int.toNat_natCast, List.length_cons, List.length_nil, Int.cast_ofNat_Int, Nat.reduceAdd, Nat.reduceLeDiff, Nat.reduceLT, Nat.reduceMul, Int.reduceAdd, Int.reduceSub, Int.reduceMul, Int.reduceNeg, Int.reduceLT, Int.reduceLE, Int.reduceEq, Int.reduceToNat, eq_self, true_and, and_true, true_or, or_true, false_or, or_false, if_true, if_false, not_true_eq_false, not_false_eq_true, and_self, ne_eq, b_P_leastFromStart_67, hA, hM]
      (repeat' (first | apply And.intro | split)) <;> first | omega | exact hQ
  | succ d ih =>
    intro n o3 hn
    have b1 := minB_b (p := fun _ => true) (v := fun m => minB (fun _ => true) (v m) h) (fun j => (hb j).1) n
    have k1 := leastFromStart_least2 (zt := zt) (ρ := ρ) hA hh h1 h3 (m := n) (by omega) (hv n) (fun r z => hR n r (by omega) z) b1 (Q := Q) (fun o => by
      have := ih (n + 1) o (by omega)
      simp only [minB, if_true] at this
      exact this) h 0 (by omega)
    simp only [minB] at k1
    rw [show min (minB (fun _ => true) (fun m => minB (fun _ => true) (v m) h) n) 1000000 = minB (fun _ => true) (fun m => minB (fun _ => true) (v m) h) n by omega] at k1
    rw [P_P_leastFromStart_67]
    simp only [m_P_leastFromStart, b_P_leastFromStart_0, P_P_leastFromStart_9, b_P_leastFromStart_9, P_P_leastFromStart_56, b_P_leastFromStart_56, P_P_leastFromStart_62, b_P_leastFromStart_62, P_P_leastFromStart_106, b_P_leastFromStart_106, P_P_leastFromStart_112, b_P_leastFromStart_112, P_P_leastFromStart_122, b_P_leastFromStart_122, P_P_leastFromStart_124, b_P_leastFromStart_124, wp_abs, wp_aln0, wp_bipush, wp_copy, wp_cs1, wp_cs2, wp_cs3, wp_cs4, wp_cs5, wp_cs6, wp_cs7, wp_cv1, wp_cv2, wp_cv3, wp_cv4, wp_cv5, wp_cv6, wp_cv7, wp_goto, wp_iadd, wp_iald, wp_icge, wp_iconst, wp_iln1, wp_iln2, wp_iln3, wp_imul, wp_inc1, wp_inc2, wp_inc3, wp_iret, wp_isn1, wp_isn2, wp_isn3, wp_izne, wp_ldc, wp_max, wp_min, wp_nop, wp_zret, qpl_kd, qpl_k1, qpl_l1, qpl_gf0, qpl_k2, qpl_l2, qpl_gf1, qpl_k3, qpl_l3, qpl_gf2, qpl_k4, qpl_l4, qpl_gf3, qpl_k5, qpl_l5, qpl_gf4, qpl_k6, qpl_l6, qpl_gf5, qpl_gf6, qpl_pf6, qpl_gf7, qpl_pf7, qpl_gf8, qpl_pf8, wrI_row, cpI_row, row_s, row_n, row_ss, row_sw, upd_s, upd_n, ad_inj, ad_z, ad_z2, Nat.reduceEqDiff, reduceCtorEq, List.cons_append, List.nil_append, Option.toList_some, Option.toList_none, Int.toNat_natCast, List.length_cons, List.length_nil, Int.cast_ofNat_Int, Nat.reduceAdd, Nat.reduceLeDiff, Nat.reduceLT, Nat.reduceMul, Int.reduceAdd, Int.reduceSub, Int.reduceMul, Int.reduceNeg, Int.reduceLT, Int.reduceLE, Int.reduceEq, Int.reduceToNat, eq_self, true_and, and_true, true_or, or_true, false_or, or_false, if_true, if_false, not_true_eq_false, not_false_eq_true, and_self, ne_eq, b_P_leastFromStart_67, hA, hM]
    (repeat' (first | apply And.intro | split)) <;> first | omega | exact k1
theorem leastFromStart_loop (hA : isPl ρ w) (hP : plI g w F M h c cl) (hM8 : M ≤ 8) (h1 : 1 ≤ h) (h3 : h ≤ 3) (hF : F ≤ 99) (hF0 : F ≠ 0) (hc : ∀ f m, 0 ≤ c f m ∧ c f m ≤ 1000000) {Q : Option AV → Sto → Prop} (hQ : ∀ g2 : Nat → Nat → Int, fwI g w g2 → Q (some (AI (lstV F M h c cl))) (g2, ρ)) :
    ∀ (d f : Nat) (g1 : Nat → Nat → Int) (o2 : Option AV), f + d = F → fwI g w g1 → (∀ f', f = f' + 1 → ∀ m r, m < M → r < h → g1 (ad w 5) (m * 3 + r) = Hv M h c cl f' m r) → Wp zt 12 (P 12 11) [some (AR w), some (AI f), o2, none] [] (g1, ρ) Q := by
  intro d
  induction d with
  | zero =>
    intro f g1 o2 hf q1 q2
    have e : f = F := by omega
    subst e
    have hq := hQ g1 q1
    unfold lstV at hq
    rw [if_neg hF0, ← tot_eq (fun f m => (hc f m).1) (by omega) (by omega)] at hq
    obtain ⟨p1, p2, p3, -, -⟩ := plI_fw hP q1
    have k1 := leastFromStart_least (zt := zt) (ρ := ρ) (g := g1) hA p2 hM8 p3 h1 h3 (v := fun m r => Hv M h c cl (f - 1) m r) (fun m r => (Hv_b (fun f m => (hc f m).1) (f - 1) m r).1) (q2 (f - 1) (by omega)) (t := totH f M h c cl) rfl hq M 0 none (by omega)
    rw [P_P_leastFromStart_11]
    simp only [m_P_leastFromStart, b_P_leastFromStart_0, P_P_leastFromStart_9, b_P_leastFromStart_9, P_P_leastFromStart_56, b_P_leastFromStart_56, P_P_leastFromStart_62, b_P_leastFromStart_62, P_P_leastFromStart_106, b_P_leastFromStart_106, P_P_leastFromStart_112, b_P_leastFromStart_112, P_P_leastFromStart_122, b_P_leastFromStart_122, P_P_leastFromStart_124, b_P_leastFromStart_124, wp_abs, wp_aln0, wp_bipush, wp_copy, wp_cs1, wp_cs2, wp_cs3, wp_cs4, wp_cs5, wp_cs6, wp_cs7, wp_cv1, wp_cv2, wp_cv3, wp_cv4, wp_cv5, wp_cv6, wp_cv7, wp_goto, wp_iadd, wp_iald, wp_icge, wp_iconst, wp_iln1, wp_iln2, wp_iln3, wp_imul, wp_inc1, wp_inc2, wp_inc3, wp_iret, wp_isn1, wp_isn2, wp_isn3, wp_izne, wp_ldc, wp_max, wp_min, wp_nop, wp_zret, qpl_kd, qpl_k1, qpl_l1, qpl_gf0, qpl_k2, qpl_l2, qpl_gf1, qpl_k3, qpl_l3, qpl_gf2, qpl_k4, qpl_l4, qpl_gf3, qpl_k5, qpl_l5, qpl_gf4, qpl_k6, qpl_l6, qpl_gf5, qpl_gf6, qpl_pf6, qpl_gf7, qpl_pf7, qpl_gf8, qpl_pf8, wrI_row, cpI_row, row_s, row_n, row_ss, row_sw, upd_s, upd_n, ad_inj, ad_z, ad_z2, Nat.reduceEqDiff, reduceCtorEq, List.cons_append, List.nil_append, Option.toList_some, Option.toList_none, Int.toNat_natCast, List.length_cons, List.length_nil, Int.cast_ofNat_Int, Nat.reduceAdd, Nat.reduceLeDiff, Nat.reduceLT, Nat.reduceMul, Int.reduceAdd, Int.reduceSub, Int.reduceMul, Int.reduceNeg, Int.reduceLT, Int.reduceLE, Int.reduceEq, Int.reduceToNat, eq_self, true_and, and_true, true_or, or_true, false_or, or_false, if_true, if_false, not_true_eq_false, not_false_eq_true, and_self, ne_eq, b_P_leastFromStart_11, hA, p1]
    (repeat' (first | apply And.intro | split)) <;> first | omega | exact k1
  | succ d ih =>
    intro f g1 o2 hf q1 q2
    obtain ⟨p1, p2, p3, -, -⟩ := plI_fw hP q1
    have k1 := leastFromStart_inner (zt := zt) (ρ := ρ) (Q := Q) (o3 := none) hA hP hM8 h1 h3 hF hc (f := f) (by omega) (fun g2 o z1 z2 => ih (f + 1) g2 o (by omega) z1 (fun f' e => by
      have e2 : f' = f := by omega
      subst e2
      exact z2)) M 0 (setRow g1 (ad w 6) (cpR (g1 (ad w 5)) (g1 (ad w 6)) 0 0 24)) (by omega) (fun x y1 y2 => by
      rw [row_n y2]
      exact q1 x y1 y2) (fun f' e m r y1 y2 => by
      rw [row_s, cpR_0 (by omega)]
      exact q2 f' e m r y1 y2) (fun m r y1 y2 => by omega)
    rw [P_P_leastFromStart_11]
    simp only [m_P_leastFromStart, b_P_leastFromStart_0, P_P_leastFromStart_9, b_P_leastFromStart_9, P_P_leastFromStart_56, b_P_leastFromStart_56, P_P_leastFromStart_62, b_P_leastFromStart_62, P_P_leastFromStart_106, b_P_leastFromStart_106, P_P_leastFromStart_112, b_P_leastFromStart_112, P_P_leastFromStart_122, b_P_leastFromStart_122, P_P_leastFromStart_124, b_P_leastFromStart_124, wp_abs, wp_aln0, wp_bipush, wp_copy, wp_cs1, wp_cs2, wp_cs3, wp_cs4, wp_cs5, wp_cs6, wp_cs7, wp_cv1, wp_cv2, wp_cv3, wp_cv4, wp_cv5, wp_cv6, wp_cv7, wp_goto, wp_iadd, wp_iald, wp_icge, wp_iconst, wp_iln1, wp_iln2, wp_iln3, wp_imul, wp_inc1, wp_inc2, wp_inc3, wp_iret, wp_isn1, wp_isn2, wp_isn3, wp_izne, wp_ldc, wp_max, wp_min, wp_nop, wp_zret, qpl_kd, qpl_k1, qpl_l1, qpl_gf0, qpl_k2, qpl_l2, qpl_gf1, qpl_k3, qpl_l3, qpl_gf2, qpl_k4, qpl_l4, qpl_gf3, qpl_k5, qpl_l5, qpl_gf4, qpl_k6, qpl_l6, qpl_gf5, qpl_gf6, qpl_pf6, qpl_gf7, qpl_pf7, qpl_gf8, qpl_pf8, wrI_row, cpI_row, row_s, row_n, row_ss, row_sw, upd_s, upd_n, ad_inj, ad_z, ad_z2, Nat.reduceEqDiff, reduceCtorEq, List.cons_append, List.nil_append, Option.toList_some, Option.toList_none, Int.toNat_natCast, List.length_cons, List.length_nil, Int.cast_ofNat_Int, Nat.reduceAdd, Nat.reduceLeDiff, Nat.reduceLT, Nat.reduceMul, Int.reduceAdd, Int.reduceSub, Int.reduceMul, Int.reduceNeg, Int.reduceLT, Int.reduceLE, Int.reduceEq, Int.reduceToNat, eq_self, true_and, and_true, true_or, or_true, false_or, or_false, if_true, if_false, not_true_eq_false, not_false_eq_true, and_self, ne_eq, b_P_leastFromStart_11, hA, p1]
    (repeat' (first | apply And.intro | split)) <;> first | omega | exact k1
theorem leastFromStart_ok (hA : isPl ρ w) (hP : plI g w F M h c cl) (hM8 : M ≤ 8) (h1 : 1 ≤ h) (h3 : h ≤ 3) (hF : F ≤ 99) (hc : ∀ f m, 0 ≤ c f m ∧ c f m ≤ 1000000) {Q : Option AV → Sto → Prop} (hQ : ∀ g2 : Nat → Nat → Int, fwI g w g2 → Q (some (AI (lstV F M h c cl))) (g2, ρ)) : WpM zt 12 [AR w] (g, ρ) Q := by
  obtain ⟨p1, p2, p3, p4, p5⟩ := id hP
  by_cases hF0 : F = 0
  · have hq := hQ g (fun x _ _ => rfl)
    unfold lstV at hq
    rw [if_pos hF0] at hq
    subst hF0
    simp only [m_P_leastFromStart, b_P_leastFromStart_0, P_P_leastFromStart_9, b_P_leastFromStart_9, P_P_leastFromStart_56, b_P_leastFromStart_56, P_P_leastFromStart_62, b_P_leastFromStart_62, P_P_leastFromStart_106, b_P_leastFromStart_106, P_P_leastFromStart_112, b_P_leastFromStart_112, P_P_leastFromStart_122, b_P_leastFromStart_122, P_P_leastFromStart_124, b_P_leastFromStart_124, wp_abs, wp_aln0, wp_bipush, wp_copy, wp_cs1, wp_cs2, wp_cs3, wp_cs4, wp_cs5, wp_cs6, wp_cs7, wp_cv1, wp_cv2, wp_cv3, wp_cv4, wp_cv5, wp_cv6, wp_cv7, wp_goto, wp_iadd, wp_iald, wp_icge, wp_iconst, wp_iln1, wp_iln2, wp_iln3, wp_imul, wp_inc1, wp_inc2, wp_inc3, wp_iret, wp_isn1, wp_isn2, wp_isn3, wp_izne, wp_ldc, wp_max, wp_min, wp_nop, wp_zret, qpl_kd, qpl_k1, qpl_l1, qpl_gf0, qpl_k2, qpl_l2, qpl_gf1, qpl_k3, qpl_l3, qpl_gf2, qpl_k4, qpl_l4, qpl_gf3, qpl_k5, qpl_l5, qpl_gf4, qpl_k6, qpl_l6, qpl_gf5, qpl_gf6, qpl_pf6, qpl_gf7, qpl_pf7, qpl_gf8, qpl_pf8, wrI_row, cpI_row, row_s, row_n, row_ss, row_sw, upd_s, upd_n, ad_inj, ad_z, ad_z2, Nat.reduceEqDiff, reduceCtorEq, List.cons_append, List.nil_append, Option.toList_some, Option.toList_none, Int.toNat_natCast, List.length_cons, List.length_nil, Int.cast_ofNat_Int, Nat.reduceAdd, Nat.reduceLeDiff, Nat.reduceLT, Nat.reduceMul, Int.reduceAdd, Int.reduceSub, Int.reduceMul, Int.reduceNeg, Int.reduceLT, Int.reduceLE, Int.reduceEq, Int.reduceToNat, eq_self, true_and, and_true, true_or, or_true, false_or, or_false, if_true, if_false, not_true_eq_false, not_false_eq_true, and_self, ne_eq, hA, p1]
    exact hq
  · have k1 := leastFromStart_loop (zt := zt) hA hP hM8 h1 h3 hF hF0 hc hQ F 0 g none (by omega) (fun x _ _ => rfl) (fun f' e => by omega)
    have hF1 : ¬ (F : Int) = 0 := by omega
    simp only [m_P_leastFromStart, b_P_leastFromStart_0, P_P_leastFromStart_9, b_P_leastFromStart_9, P_P_leastFromStart_56, b_P_leastFromStart_56, P_P_leastFromStart_62, b_P_leastFromStart_62, P_P_leastFromStart_106, b_P_leastFromStart_106, P_P_leastFromStart_112, b_P_leastFromStart_112, P_P_leastFromStart_122, b_P_leastFromStart_122, P_P_leastFromStart_124, b_P_leastFromStart_124, wp_abs, wp_aln0, wp_bipush, wp_copy, wp_cs1, wp_cs2, wp_cs3, wp_cs4, wp_cs5, wp_cs6, wp_cs7, wp_cv1, wp_cv2, wp_cv3, wp_cv4, wp_cv5, wp_cv6, wp_cv7, wp_goto, wp_iadd, wp_iald, wp_icge, wp_iconst, wp_iln1, wp_iln2, wp_iln3, wp_imul, wp_inc1, wp_inc2, wp_inc3, wp_iret, wp_isn1, wp_isn2, wp_isn3, wp_izne, wp_ldc, wp_max, wp_min, wp_nop, wp_zret, qpl_kd, qpl_k1, qpl_l1, qpl_gf0, qpl_k2, qpl_l2, qpl_gf1, qpl_k3, qpl_l3, qpl_gf2, qpl_k4, qpl_l4, qpl_gf3, qpl_k5, qpl_l5, qpl_gf4, qpl_k6, qpl_l6, qpl_gf5, qpl_gf6, qpl_pf6, qpl_gf7, qpl_pf7, qpl_gf8, qpl_pf8, wrI_row, cpI_row, row_s, row_n, row_ss, row_sw, upd_s, upd_n, ad_inj, ad_z, ad_z2, Nat.reduceEqDiff, reduceCtorEq, List.cons_append, List.nil_append, Option.toList_some, Option.toList_none, Int.toNat_natCast, List.length_cons, List.length_nil, Int.cast_ofNat_Int, Nat.reduceAdd, Nat.reduceLeDiff, Nat.reduceLT, Nat.reduceMul, Int.reduceAdd, Int.reduceSub, Int.reduceMul, Int.reduceNeg, Int.reduceLT, Int.reduceLE, Int.reduceEq, Int.reduceToNat, eq_self, true_and, and_true, true_or, or_true, false_or, or_false, if_true, if_false, not_true_eq_false, not_false_eq_true, and_self, ne_eq, hA, p1, hF1]
    (repeat' (first | apply And.intro | split)) <;> first | omega | exact k1
end FWP
