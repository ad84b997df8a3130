/-! THE SCENE'S READING METHODS -/
section SCN
variable {zt : Nat → Nat} {g : Nat → Nat → Int} {ρ : Ri} {a : Nat}
theorem hasMouth_ok (hS : isSc ρ a) (hW : WFV (-99) (vwC g a)) {m : Int} (hm0 : -2147483648 ≤ m) (hm1 : m < 2147483648) (Q : Option AV → Sto → Prop) : WpM zt 27 [AR a, AI m] (g, ρ) Q ↔ Q (some (AI (b2 (0 ≤ m ∧ m < g a 0)))) (g, ρ) := by
  refine wpm_iff (fun Q hQ => ?_) Q
  have hM := w_M hW
  simp only [m_S_hasMouth, b_S_hasMouth_0, P_S_hasMouth_16, b_S_hasMouth_16, P_S_hasMouth_17, b_S_hasMouth_17, wp_aln0, wp_goto, wp_icge, wp_iconst, wp_iln1, wp_iret, wp_izlt, wp_nop, wp_zret, qsc_kd, qsc_k1, qsc_l1, qsc_gf1, qsc_k2, qsc_l2, qsc_gf2, qsc_k3, qsc_l3, qsc_gf3, qsc_k4, qsc_l4, qsc_gf4, qsc_k5, qsc_l5, qsc_gf6, qsc_k6, qsc_l6, qsc_gf7, qsc_k7, qsc_l7, qsc_gf9, qsc_k8, qsc_l8, qsc_gf10, qsc_gf0, qsc_pf0, qsc_gf5, qsc_pf5, qsc_gf8, qsc_pf8, wrI_row, cpI_row, row_s, row_n, row_ss, row_sw, upd_s, upd_n, ad_inj, ad_z, ad_z2, Nat.reduceEqDiff, reduceCtorEq, List.cons_append, List.nil_append, Option.toList_some, Option.toList_none, Int.toNat_natCast, List.length_cons, List.length_nil, Int.cast_ofNat_Int, Nat.reduceAdd, Nat.reduceLeDiff, Nat.reduceLT, Nat.reduceMul, Int.reduceAdd, Int.reduceSub, Int.reduceMul, Int.reduceNeg, Int.reduceLT, Int.reduceLE, Int.reduceEq, Int.reduceToNat, eq_self, true_and, and_true, true_or, or_true, false_or, or_false, if_true, if_false, not_true_eq_false, not_false_eq_true, and_self, ne_eq, hS]
  (repeat' (first | apply And.intro | split)) <;> first | omega | exact hQ | (rw [b2_t (by omega)] at hQ; exact hQ) | (rw [b2_f (by omega)] at hQ; exact hQ)
theorem hasSegment_ok (hS : isSc ρ a) (hW : WFV (-99) (vwC g a)) {m : Int} (hm0 : -2147483648 ≤ m) (hm1 : m < 2147483648) (Q : Option AV → Sto → Prop) : WpM zt 28 [AR a, AI m] (g, ρ) Q ↔ Q (some (AI (b2 (0 ≤ m ∧ m < g a 5)))) (g, ρ) := by
  refine wpm_iff (fun Q hQ => ?_) Q
  have hM := w_G hW
  simp only [m_S_hasSegment, b_S_hasSegment_0, P_S_hasSegment_16, b_S_hasSegment_16, P_S_hasSegment_17, b_S_hasSegment_17, wp_aln0, wp_goto, wp_icge, wp_iconst, wp_iln1, wp_iret, wp_izlt, wp_nop, wp_zret, qsc_kd, qsc_k1, qsc_l1, qsc_gf1, qsc_k2, qsc_l2, qsc_gf2, qsc_k3, qsc_l3, qsc_gf3, qsc_k4, qsc_l4, qsc_gf4, qsc_k5, qsc_l5, qsc_gf6, qsc_k6, qsc_l6, qsc_gf7, qsc_k7, qsc_l7, qsc_gf9, qsc_k8, qsc_l8, qsc_gf10, qsc_gf0, qsc_pf0, qsc_gf5, qsc_pf5, qsc_gf8, qsc_pf8, wrI_row, cpI_row, row_s, row_n, row_ss, row_sw, upd_s, upd_n, ad_inj, ad_z, ad_z2, Nat.reduceEqDiff, reduceCtorEq, List.cons_append, List.nil_append, Option.toList_some, Option.toList_none, Int.toNat_natCast, List.length_cons, List.length_nil, Int.cast_ofNat_Int, Nat.reduceAdd, Nat.reduceLeDiff, Nat.reduceLT, Nat.reduceMul, Int.reduceAdd, Int.reduceSub, Int.reduceMul, Int.reduceNeg, Int.reduceLT, Int.reduceLE, Int.reduceEq, Int.reduceToNat, eq_self, true_and, and_true, true_or, or_true, false_or, or_false, if_true, if_false, not_true_eq_false, not_false_eq_true, and_self, ne_eq, hS]
  (repeat' (first | apply And.intro | split)) <;> first | omega | exact hQ | (rw [b2_t (by omega)] at hQ; exact hQ) | (rw [b2_f (by omega)] at hQ; exact hQ)
theorem hasFrame_ok (hS : isSc ρ a) (hW : WFV (-99) (vwC g a)) {m : Int} (hm0 : -2147483648 ≤ m) (hm1 : m < 2147483648) (Q : Option AV → Sto → Prop) : WpM zt 29 [AR a, AI m] (g, ρ) Q ↔ Q (some (AI (b2 (0 ≤ m ∧ m < g a 8)))) (g, ρ) := by
  refine wpm_iff (fun Q hQ => ?_) Q
  have hM := w_F hW
  simp only [m_S_hasFrame, b_S_hasFrame_0, P_S_hasFrame_16, b_S_hasFrame_16, P_S_hasFrame_17, b_S_hasFrame_17, wp_aln0, wp_goto, wp_icge, wp_iconst, wp_iln1, wp_iret, wp_izlt, wp_nop, wp_zret, qsc_kd, qsc_k1, qsc_l1, qsc_gf1, qsc_k2, qsc_l2, qsc_gf2, qsc_k3, qsc_l3, qsc_gf3, qsc_k4, qsc_l4, qsc_gf4, qsc_k5, qsc_l5, qsc_gf6, qsc_k6, qsc_l6, qsc_gf7, qsc_k7, qsc_l7, qsc_gf9, qsc_k8, qsc_l8, qsc_gf10, qsc_gf0, qsc_pf0, qsc_gf5, qsc_pf5, qsc_gf8, qsc_pf8, wrI_row, cpI_row, row_s, row_n, row_ss, row_sw, upd_s, upd_n, ad_inj, ad_z, ad_z2, Nat.reduceEqDiff, reduceCtorEq, List.cons_append, List.nil_append, Option.toList_some, Option.toList_none, Int.toNat_natCast, List.length_cons, List.length_nil, Int.cast_ofNat_Int, Nat.reduceAdd, Nat.reduceLeDiff, Nat.reduceLT, Nat.reduceMul, Int.reduceAdd, Int.reduceSub, Int.reduceMul, Int.reduceNeg, Int.reduceLT, Int.reduceLE, Int.reduceEq, Int.reduceToNat, eq_self, true_and, and_true, true_or, or_true, false_or, or_false, if_true, if_false, not_true_eq_false, not_false_eq_true, and_self, ne_eq, hS]
  (repeat' (first | apply And.intro | split)) <;> first | omega | exact hQ | (rw [b2_t (by omega)] at hQ; exact hQ) | (rw [b2_f (by omega)] at hQ; exact hQ)
theorem hasRoomFor_ok (hS : isSc ρ a) (hW : WFV (-99) (vwC g a)) {m : Int} (hm0 : 0 ≤ m) (hm1 : m ≤ 1000) (Q : Option AV → Sto → Prop) : WpM zt 30 [AR a, AI m] (g, ρ) Q ↔ Q (some (AI (b2 (g a 5 < 30 ∧ g a 8 + m ≤ 99)))) (g, ρ) := by
  refine wpm_iff (fun Q hQ => ?_) Q
  have hM := w_F hW
  have hG := w_G hW
  simp only [m_S_hasRoomFor, b_S_hasRoomFor_0, P_S_hasRoomFor_24, b_S_hasRoomFor_24, P_S_hasRoomFor_25, b_S_hasRoomFor_25, wp_aln0, wp_bipush, wp_goto, wp_iadd, wp_icge, wp_icgt, wp_iconst, wp_iln1, wp_iret, wp_nop, wp_zret, qsc_kd, qsc_k1, qsc_l1, qsc_gf1, qsc_k2, qsc_l2, qsc_gf2, qsc_k3, qsc_l3, qsc_gf3, qsc_k4, qsc_l4, qsc_gf4, qsc_k5, qsc_l5, qsc_gf6, qsc_k6, qsc_l6, qsc_gf7, qsc_k7, qsc_l7, qsc_gf9, qsc_k8, qsc_l8, qsc_gf10, qsc_gf0, qsc_pf0, qsc_gf5, qsc_pf5, qsc_gf8, qsc_pf8, wrI_row, cpI_row, row_s, row_n, row_ss, row_sw, upd_s, upd_n, ad_inj, ad_z, ad_z2, Nat.reduceEqDiff, reduceCtorEq, List.cons_append, List.nil_append, Option.toList_some, Option.toList_none, Int.toNat_natCast, List.length_cons, List.length_nil, Int.cast_ofNat_Int, Nat.reduceAdd, Nat.reduceLeDiff, Nat.reduceLT, Nat.reduceMul, Int.reduceAdd, Int.reduceSub, Int.reduceMul, Int.reduceNeg, Int.reduceLT, Int.reduceLE, Int.reduceEq, Int.reduceToNat, eq_self, true_and, and_true, true_or, or_true, false_or, or_false, if_true, if_false, not_true_eq_false, not_false_eq_true, and_self, ne_eq, hS]
  (repeat' (first | apply And.intro | split)) <;> first | omega | exact hQ | (rw [b2_t (by omega)] at hQ; exact hQ) | (rw [b2_f (by omega)] at hQ; exact hQ)
theorem distanceOf_ok (hS : isSc ρ a) (hW : WFV (-99) (vwC g a)) {m o w : Int} (hm0 : 0 ≤ m) (hm1 : m < g a 0) (ho : -1000 ≤ o ∧ o ≤ 1000) (hw : -1000 ≤ w ∧ w ≤ 1000) (Q : Option AV → Sto → Prop) : WpM zt 31 [AR a, AI m, AI o, AI w] (g, ρ) Q ↔ Q (some (AI (dstV (vwC g a) m.toNat o w))) (g, ρ) := by
  refine wpm_iff (fun Q hQ => ?_) Q
  have hM := w_M hW
  have h1 := w_op hW (j := m.toNat) (by omega)
  have h2 := w_wd hW (j := m.toNat) (by omega)
  simp only [m_S_distanceOf, b_S_distanceOf_0, wp_abs, wp_aln0, wp_copy, wp_cs1, wp_cs2, wp_cs3, wp_cs4, wp_cs5, wp_cs6, wp_cs7, wp_iald, wp_iln1, wp_iln2, wp_iln3, wp_iret, wp_isub, wp_max, wp_min, wp_zret, qsc_kd, qsc_k1, qsc_l1, qsc_gf1, qsc_k2, qsc_l2, qsc_gf2, qsc_k3, qsc_l3, qsc_gf3, qsc_k4, qsc_l4, qsc_gf4, qsc_k5, qsc_l5, qsc_gf6, qsc_k6, qsc_l6, qsc_gf7, qsc_k7, qsc_l7, qsc_gf9, qsc_k8, qsc_l8, qsc_gf10, qsc_gf0, qsc_pf0, qsc_gf5, qsc_pf5, qsc_gf8, qsc_pf8, wrI_row, cpI_row, row_s, row_n, row_ss, row_sw, upd_s, upd_n, ad_inj, ad_z, ad_z2, Nat.reduceEqDiff, reduceCtorEq, List.cons_append, List.nil_append, Option.toList_some, Option.toList_none, Int.toNat_natCast, List.length_cons, List.length_nil, Int.cast_ofNat_Int, Nat.reduceAdd, Nat.reduceLeDiff, Nat.reduceLT, Nat.reduceMul, Int.reduceAdd, Int.reduceSub, Int.reduceMul, Int.reduceNeg, Int.reduceLT, Int.reduceLE, Int.reduceEq, Int.reduceToNat, eq_self, true_and, and_true, true_or, or_true, false_or, or_false, if_true, if_false, not_true_eq_false, not_false_eq_true, and_self, ne_eq, hS]
  (repeat' (first | apply And.intro | split)) <;> first | omega | exact hQ | (rw [b2_t (by omega)] at hQ; exact hQ) | (rw [b2_f (by omega)] at hQ; exact hQ)
theorem dstV_b (hW : WFV (-99) (vwC g a)) {m : Nat} (hm : (m : Int) < g a 0) {o w : Int} (ho : -1000 ≤ o ∧ o ≤ 1000) (hw : -1000 ≤ w ∧ w ≤ 1000) : 0 ≤ dstV (vwC g a) m o w ∧ dstV (vwC g a) m o w ≤ 2000 := by
  have h1 := w_op hW hm
  have h2 := w_wd hW hm
  show 0 ≤ max ((g (ad a 1) m - o).natAbs : Int) ((g (ad a 2) m - w).natAbs : Int) ∧ max ((g (ad a 1) m - o).natAbs : Int) ((g (ad a 2) m - w).natAbs : Int) ≤ 2000
  omega
theorem jumpOf_ok (hS : isSc ρ a) (hW : WFV (-99) (vwC g a)) {x y : Int} (hx0 : 0 ≤ x) (hx1 : x < g a 0) (hy0 : 0 ≤ y) (hy1 : y < g a 0) (Q : Option AV → Sto → Prop) : WpM zt 32 [AR a, AI x, AI y] (g, ρ) Q ↔ Q (some (AI (jmpV (vwC g a) x.toNat y.toNat))) (g, ρ) := by
  refine wpm_iff (fun Q hQ => ?_) Q
  have hM := w_M hW
  have h1 := w_op hW (j := y.toNat) (by omega)
  have h2 := w_wd hW (j := y.toNat) (by omega)
  have e1 : -1000 ≤ g (ad a 1) y.toNat ∧ g (ad a 1) y.toNat ≤ 1000 := by omega
  have e2 : -1000 ≤ g (ad a 2) y.toNat ∧ g (ad a 2) y.toNat ≤ 1000 := by omega
  simp only [m_S_jumpOf, b_S_jumpOf_0, wp_aln0, wp_cv1, wp_cv2, wp_cv3, wp_cv4, wp_cv5, wp_cv6, wp_cv7, wp_iald, wp_iln1, wp_iln2, wp_iret, wp_zret, qsc_kd, qsc_k1, qsc_l1, qsc_gf1, qsc_k2, qsc_l2, qsc_gf2, qsc_k3, qsc_l3, qsc_gf3, qsc_k4, qsc_l4, qsc_gf4, qsc_k5, qsc_l5, qsc_gf6, qsc_k6, qsc_l6, qsc_gf7, qsc_k7, qsc_l7, qsc_gf9, qsc_k8, qsc_l8, qsc_gf10, qsc_gf0, qsc_pf0, qsc_gf5, qsc_pf5, qsc_gf8, qsc_pf8, wrI_row, cpI_row, row_s, row_n, row_ss, row_sw, upd_s, upd_n, ad_inj, ad_z, ad_z2, Nat.reduceEqDiff, reduceCtorEq, List.cons_append, List.nil_append, Option.toList_some, Option.toList_none, Int.toNat_natCast, List.length_cons, List.length_nil, Int.cast_ofNat_Int, Nat.reduceAdd, Nat.reduceLeDiff, Nat.reduceLT, Nat.reduceMul, Int.reduceAdd, Int.reduceSub, Int.reduceMul, Int.reduceNeg, Int.reduceLT, Int.reduceLE, Int.reduceEq, Int.reduceToNat, eq_self, true_and, and_true, true_or, or_true, false_or, or_false, if_true, if_false, not_true_eq_false, not_false_eq_true, and_self, ne_eq, hS, distanceOf_ok hS hW hx0 hx1 e1 e2]
  (repeat' (first | apply And.intro | split)) <;> first | omega | exact hQ | (rw [b2_t (by omega)] at hQ; exact hQ) | (rw [b2_f (by omega)] at hQ; exact hQ)
theorem amin_1 {f : Nat → Int} : amin f 1 = 0 := by simp [amin]
theorem nearestOfAll_loop (hS : isSc ρ a) (hW : WFV (-99) (vwC g a)) {o w : Int} (ho : -1000 ≤ o ∧ o ≤ 1000) (hw : -1000 ≤ w ∧ w ≤ 1000) {Q : Option AV → Sto → Prop} (hQ : Q (some (AI (amin (fun m => dstV (vwC g a) m o w) (g a 0).toNat : Nat))) (g, ρ)) :
    ∀ (d m : Nat), (m : Int) + d = g a 0 → 1 ≤ m → Wp zt 33 (P 33 5) [some (AR a), some (AI o), some (AI w), some (AI (amin (fun m => dstV (vwC g a) m o w) m : Nat)), some (AI m)] [] (g, ρ) Q := by
  have hM := w_M hW
  intro d
  induction d with
  | zero =>
    intro m hm h1
    have e : (g a 0).toNat = m := by omega
    rw [e] at hQ
    rw [P_S_nearestOfAll_5]
    simp only [m_S_nearestOfAll, b_S_nearestOfAll_0, P_S_nearestOfAll_35, b_S_nearestOfAll_35, P_S_nearestOfAll_41, b_S_nearestOfAll_41, wp_aln0, wp_cv1, wp_cv2, wp_cv3, wp_cv4, wp_cv5, wp_cv6, wp_cv7, wp_goto, wp_icge, wp_iconst, wp_il4, wp_iln1, wp_iln2, wp_iln3, wp_inc4, wp_iret, wp_is4, wp_isn3, wp_nop, wp_zret, qsc_kd, qsc_k1, qsc_l1, qsc_gf1, qsc_k2, qsc_l2, qsc_gf2, qsc_k3, qsc_l3, qsc_gf3, qsc_k4, qsc_l4, qsc_gf4, qsc_k5, qsc_l5, qsc_gf6, qsc_k6, qsc_l6, qsc_gf7, qsc_k7, qsc_l7, qsc_gf9, qsc_k8, qsc_l8, qsc_gf10, qsc_gf0, qsc_pf0, qsc_gf5, qsc_pf5, qsc_gf8, qsc_pf8, wrI_row, cpI_row, row_s, row_n, row_ss, row_sw, upd_s, upd_n, ad_inj, ad_z, ad_z2, Nat.reduceEqDiff, reduceCtorEq, List.cons_append, List.nil_append, Option.toList_some, Option.toList_none, Int.toNat_natCast, List.length_cons, List.length_nil, Int.cast_ofNat_Int, Nat.reduceAdd, Nat.reduceLeDiff, Nat.reduceLT, Nat.reduceMul, Int.reduceAdd, Int.reduceSub, Int.reduceMul, Int.reduceNeg, Int.reduceLT, Int.reduceLE, Int.reduceEq, Int.reduceToNat, eq_self, true_and, and_true, true_or, or_true, false_or, or_false, if_true, if_false, not_true_eq_false, not_false_eq_true, and_self, ne_eq, b_S_nearestOfAll_5, hS]
    (repeat' (first | apply And.intro | split)) <;> first | omega | exact hQ | (rw [b2_t (by omega)] at hQ; exact hQ) | (rw [b2_f (by omega)] at hQ; exact hQ)
  | succ d ih =>
    intro m hm h1
    have hb := amin_lt (f := fun m => dstV (vwC g a) m o w) m h1
    have hb2 : ((amin (fun m => dstV (vwC g a) m o w) m : Nat) : Int) < g a 0 := by omega
    have k1 := dstV_b hW (m := m) (by omega) ho hw
    have k2 := dstV_b hW hb2 ho hw
    have i1 := ih (m + 1) (by omega) (by omega)
    simp only [amin] at i1
    rw [P_S_nearestOfAll_5]
    simp only [m_S_nearestOfAll, b_S_nearestOfAll_0, P_S_nearestOfAll_35, b_S_nearestOfAll_35, P_S_nearestOfAll_41, b_S_nearestOfAll_41, wp_aln0, wp_cv1, wp_cv2, wp_cv3, wp_cv4, wp_cv5, wp_cv6, wp_cv7, wp_goto, wp_icge, wp_iconst, wp_il4, wp_iln1, wp_iln2, wp_iln3, wp_inc4, wp_iret, wp_is4, wp_isn3, wp_nop, wp_zret, qsc_kd, qsc_k1, qsc_l1, qsc_gf1, qsc_k2, qsc_l2, qsc_gf2, qsc_k3, qsc_l3, qsc_gf3, qsc_k4, qsc_l4, qsc_gf4, qsc_k5, qsc_l5, qsc_gf6, qsc_k6, qsc_l6, qsc_gf7, qsc_k7, qsc_l7, qsc_gf9, qsc_k8, qsc_l8, qsc_gf10, qsc_gf0, qsc_pf0, qsc_gf5, qsc_pf5, qsc_gf8, qsc_pf8, wrI_row, cpI_row, row_s, row_n, row_ss, row_sw, upd_s, upd_n, ad_inj, ad_z, ad_z2, Nat.reduceEqDiff, reduceCtorEq, List.cons_append, List.nil_append, Option.toList_some, Option.toList_none, Int.toNat_natCast, List.length_cons, List.length_nil, Int.cast_ofNat_Int, Nat.reduceAdd, Nat.reduceLeDiff, Nat.reduceLT, Nat.reduceMul, Int.reduceAdd, Int.reduceSub, Int.reduceMul, Int.reduceNeg, Int.reduceLT, Int.reduceLE, Int.reduceEq, Int.reduceToNat, eq_self, true_and, and_true, true_or, or_true, false_or, or_false, if_true, if_false, not_true_eq_false, not_false_eq_true, and_self, ne_eq, b_S_nearestOfAll_5, hS, distanceOf_ok hS hW (show (0 : Int) ≤ (m : Int) by omega) (by omega) ho hw, distanceOf_ok hS hW (show (0 : Int) ≤ ((amin (fun m => dstV (vwC g a) m o w) m : Nat) : Int) by omega) hb2 ho hw]
    refine ⟨by omega, ?_⟩
    rw [if_neg (by omega)]
    refine ⟨by omega, ?_⟩
    by_cases hc : dstV (vwC g a) m o w < dstV (vwC g a) (amin (fun m => dstV (vwC g a) m o w) m) o w
    · rw [if_pos hc] at i1
      rw [if_neg (by omega)]
      exact i1
    · rw [if_neg hc] at i1
      rw [if_pos (by omega)]
      exact i1
theorem nearestOfAll_ok (hS : isSc ρ a) (hW : WFV (-99) (vwC g a)) {o w : Int} (ho : -1000 ≤ o ∧ o ≤ 1000) (hw : -1000 ≤ w ∧ w ≤ 1000) (Q : Option AV → Sto → Prop) : WpM zt 33 [AR a, AI o, AI w] (g, ρ) Q ↔ Q (some (AI (amin (fun m => dstV (vwC g a) m o w) (g a 0).toNat : Nat))) (g, ρ) := by
  refine wpm_iff (fun Q hQ => ?_) Q
  have hM := w_M hW
  have h1 := nearestOfAll_loop (zt := zt) hS hW ho hw hQ ((g a 0).toNat - 1) 1 (by omega) (Nat.le_refl _)
  simp only [m_S_nearestOfAll, b_S_nearestOfAll_0, P_S_nearestOfAll_35, b_S_nearestOfAll_35, P_S_nearestOfAll_41, b_S_nearestOfAll_41, wp_aln0, wp_cv1, wp_cv2, wp_cv3, wp_cv4, wp_cv5, wp_cv6, wp_cv7, wp_goto, wp_icge, wp_iconst, wp_il4, wp_iln1, wp_iln2, wp_iln3, wp_inc4, wp_iret, wp_is4, wp_isn3, wp_nop, wp_zret, wrI_row, cpI_row, row_s, row_n, row_ss, row_sw, upd_s, upd_n, ad_inj, ad_z, ad_z2, Nat.reduceEqDiff, reduceCtorEq, List.cons_append, List.nil_append, Option.toList_some, Option.toList_none, Int.toNat_natCast, List.length_cons, List.length_nil, Int.cast_ofNat_Int, Nat.reduceAdd, Nat.reduceLeDiff, Nat.reduceLT, Nat.reduceMul, Int.reduceAdd, Int.reduceSub, Int.reduceMul, Int.reduceNeg, Int.reduceLT, Int.reduceLE, Int.reduceEq, Int.reduceToNat, eq_self, true_and, and_true, true_or, or_true, false_or, or_false, if_true, if_false, not_true_eq_false, not_false_eq_true, and_self, ne_eq, hS]
  rw [amin_1] at h1
  exact h1
theorem aminP_b {p : Nat → Bool} {f : Nat → Int} : ∀ n : Nat, aminP p f n = -1 ∨ (0 ≤ aminP p f n ∧ aminP p f n < n)
  | 0 => Or.inl rfl
  | n + 1 => by
    have h := aminP_b (p := p) (f := f) n
    simp only [aminP]
    split <;> omega
theorem nearestWithin_loop (hS : isSc ρ a) (hW : WFV (-99) (vwC g a)) {x o w : Int} (hx0 : 0 ≤ x) (hx1 : x < g a 0) (ho : -1000 ≤ o ∧ o ≤ 1000) (hw : -1000 ≤ w ∧ w ≤ 1000) {Q : Option AV → Sto → Prop} (hQ : Q (some (AI (if aminP (fun m => decide (jmpV (vwC g a) x.toNat m ≤ g (ad a 4) 0)) (fun m => dstV (vwC g a) m o w) (g a 0).toNat = -1 then x else aminP (fun m => decide (jmpV (vwC g a) x.toNat m ≤ g (ad a 4) 0)) (fun m => dstV (vwC g a) m o w) (g a 0).toNat))) (g, ρ)) :
    ∀ (d m : Nat), (m : Int) + d = g a 0 → Wp zt 34 (P 34 6) [some (AR a), some (AI x), some (AI o), some (AI w), some (AI (aminP (fun m => decide (jmpV (vwC g a) x.toNat m ≤ g (ad a 4) 0)) (fun m => dstV (vwC g a) m o w) m)), some (AI m)] [] (g, ρ) Q := by
  have hM := w_M hW
  have hN := w_nm hW
  intro d
  induction d with
  | zero =>
    intro m hm
    have e : (g a 0).toNat = m := by omega
    rw [e] at hQ
    have hb := aminP_b (p := fun m => decide (jmpV (vwC g a) x.toNat m ≤ g (ad a 4) 0)) (f := fun m => dstV (vwC g a) m o w) m
    generalize aminP (fun m => decide (jmpV (vwC g a) x.toNat m ≤ g (ad a 4) 0)) (fun m => dstV (vwC g a) m o w) m = best at *
    by_cases hc : best = -1
    · rw [if_pos hc] at hQ
      rw [P_S_nearestWithin_6]
      simp only [m_S_nearestWithin, b_S_nearestWithin_0, P_S_nearestWithin_56, b_S_nearestWithin_56, P_S_nearestWithin_60, b_S_nearestWithin_60, P_S_nearestWithin_66, b_S_nearestWithin_66, P_S_nearestWithin_76, b_S_nearestWithin_76, P_S_nearestWithin_78, b_S_nearestWithin_78, wp_aln0, wp_cv1, wp_cv2, wp_cv3, wp_cv4, wp_cv5, wp_cv6, wp_cv7, wp_goto, wp_iald, wp_iceq, wp_icge, wp_icgt, wp_icne, wp_iconst, wp_il4, wp_il5, wp_iln1, wp_iln2, wp_iln3, wp_inc5, wp_iret, wp_is4, wp_is5, wp_nop, wp_zret, qsc_kd, qsc_k1, qsc_l1, qsc_gf1, qsc_k2, qsc_l2, qsc_gf2, qsc_k3, qsc_l3, qsc_gf3, qsc_k4, qsc_l4, qsc_gf4, qsc_k5, qsc_l5, qsc_gf6, qsc_k6, qsc_l6, qsc_gf7, qsc_k7, qsc_l7, qsc_gf9, qsc_k8, qsc_l8, qsc_gf10, qsc_gf0, qsc_pf0, qsc_gf5, qsc_pf5, qsc_gf8, qsc_pf8, wrI_row, cpI_row, row_s, row_n, row_ss, row_sw, upd_s, upd_n, ad_inj, ad_z, ad_z2, Nat.reduceEqDiff, reduceCtorEq, List.cons_append, List.nil_append, Option.toList_some, Option.toList_none, Int.toNat_natCast, List.length_cons, List.length_nil, Int.cast_ofNat_Int, Nat.reduceAdd, Nat.reduceLeDiff, Nat.reduceLT, Nat.reduceMul, Int.reduceAdd, Int.reduceSub, Int.reduceMul, Int.reduceNeg, Int.reduceLT, Int.reduceLE, Int.reduceEq, Int.reduceToNat, eq_self, true_and, and_true, true_or, or_true, false_or, or_false, if_true, if_false, not_true_eq_false, not_false_eq_true, and_self, ne_eq, b_S_nearestWithin_6, hS]
      (repeat' (first | apply And.intro | split)) <;> first | omega | exact hQ | (rw [b2_t (by omega)] at hQ; exact hQ) | (rw [b2_f (by omega)] at hQ; exact hQ)
    · rw [if_neg hc] at hQ
      rw [P_S_nearestWithin_6]
      simp only [m_S_nearestWithin, b_S_nearestWithin_0, P_S_nearestWithin_56, b_S_nearestWithin_56, P_S_nearestWithin_60, b_S_nearestWithin_60, P_S_nearestWithin_66, b_S_nearestWithin_66, P_S_nearestWithin_76, b_S_nearestWithin_76, P_S_nearestWithin_78, b_S_nearestWithin_78, wp_aln0, wp_cv1, wp_cv2, wp_cv3, wp_cv4, wp_cv5, wp_cv6, wp_cv7, wp_goto, wp_iald, wp_iceq, wp_icge, wp_icgt, wp_icne, wp_iconst, wp_il4, wp_il5, wp_iln1, wp_iln2, wp_iln3, wp_inc5, wp_iret, wp_is4, wp_is5, wp_nop, wp_zret, qsc_kd, qsc_k1, qsc_l1, qsc_gf1, qsc_k2, qsc_l2, qsc_gf2, qsc_k3, qsc_l3, qsc_gf3, qsc_k4, qsc_l4, qsc_gf4, qsc_k5, qsc_l5, qsc_gf6, qsc_k6, qsc_l6, qsc_gf7, qsc_k7, qsc_l7, qsc_gf9, qsc_k8, qsc_l8, qsc_gf10, qsc_gf0, qsc_pf0, qsc_gf5, qsc_pf5, qsc_gf8, qsc_pf8, wrI_row, cpI_row, row_s, row_n, row_ss, row_sw, upd_s, upd_n, ad_inj, ad_z, ad_z2, Nat.reduceEqDiff, reduceCtorEq, List.cons_append, List.nil_append, Option.toList_some, Option.toList_none, Int.toNat_natCast, List.length_cons, List.length_nil, Int.cast_ofNat_Int, Nat.reduceAdd, Nat.reduceLeDiff, Nat.reduceLT, Nat.reduceMul, Int.reduceAdd, Int.reduceSub, Int.reduceMul, Int.reduceNeg, Int.reduceLT, Int.reduceLE, Int.reduceEq, Int.reduceToNat, eq_self, true_and, and_true, true_or, or_true, false_or, or_false, if_true, if_false, not_true_eq_false, not_false_eq_true, and_self, ne_eq, b_S_nearestWithin_6, hS]
      (repeat' (first | apply And.intro | split)) <;> first | omega | exact hQ | (rw [b2_t (by omega)] at hQ; exact hQ) | (rw [b2_f (by omega)] at hQ; exact hQ)
  | succ d ih =>
    intro m hm
    have hb := aminP_b (p := fun m => decide (jmpV (vwC g a) x.toNat m ≤ g (ad a 4) 0)) (f := fun m => dstV (vwC g a) m o w) m
    have i1 := ih (m + 1) (by omega)
    simp only [aminP, decide_eq_true_eq] at i1
    have k0 : -1000 ≤ g (ad a 1) m ∧ g (ad a 1) m ≤ 1000 := by have := w_op hW (j := m) (by omega); omega
    have k00 : -1000 ≤ g (ad a 2) m ∧ g (ad a 2) m ≤ 1000 := by have := w_wd hW (j := m) (by omega); omega
    have k1 : 0 ≤ jmpV (vwC g a) x.toNat m ∧ jmpV (vwC g a) x.toNat m ≤ 2000 := dstV_b hW (m := x.toNat) (by omega) k0 k00
    have k2 := dstV_b hW (m := m) (by omega) ho hw
    generalize hbe : aminP (fun m => decide (jmpV (vwC g a) x.toNat m ≤ g (ad a 4) 0)) (fun m => dstV (vwC g a) m o w) m = best at *
    have hj := jumpOf_ok (zt := zt) hS hW hx0 hx1 (show (0 : Int) ≤ (m : Int) by omega) (show (m : Int) < g a 0 by omega)
    have hd := distanceOf_ok (zt := zt) hS hW (show (0 : Int) ≤ (m : Int) by omega) (show (m : Int) < g a 0 by omega) ho hw
    by_cases hbb : best = -1
    · subst hbb
      simp only [true_or, and_true] at i1
      rw [P_S_nearestWithin_6]
      simp only [m_S_nearestWithin, b_S_nearestWithin_0, P_S_nearestWithin_56, b_S_nearestWithin_56, P_S_nearestWithin_60, b_S_nearestWithin_60, P_S_nearestWithin_66, b_S_nearestWithin_66, P_S_nearestWithin_76, b_S_nearestWithin_76, P_S_nearestWithin_78, b_S_nearestWithin_78, wp_aln0, wp_cv1, wp_cv2, wp_cv3, wp_cv4, wp_cv5, wp_cv6, wp_cv7, wp_goto, wp_iald, wp_iceq, wp_icge, wp_icgt, wp_icne, wp_iconst, wp_il4, wp_il5, wp_iln1, wp_iln2, wp_iln3, wp_inc5, wp_iret, wp_is4, wp_is5, wp_nop, wp_zret, qsc_kd, qsc_k1, qsc_l1, qsc_gf1, qsc_k2, qsc_l2, qsc_gf2, qsc_k3, qsc_l3, qsc_gf3, qsc_k4, qsc_l4, qsc_gf4, qsc_k5, qsc_l5, qsc_gf6, qsc_k6, qsc_l6, qsc_gf7, qsc_k7, qsc_l7, qsc_gf9, qsc_k8, qsc_l8, qsc_gf10, qsc_gf0, qsc_pf0, qsc_gf5, qsc_pf5, qsc_gf8, qsc_pf8, wrI_row, cpI_row, row_s, row_n, row_ss, row_sw, upd_s, upd_n, ad_inj, ad_z, ad_z2, Nat.reduceEqDiff, reduceCtorEq, List.cons_append, List.nil_append, Option.toList_some, Option.toList_none, Int.toNat_natCast, List.length_cons, List.length_nil, Int.cast_ofNat_Int, Nat.reduceAdd, Nat.reduceLeDiff, Nat.reduceLT, Nat.reduceMul, Int.reduceAdd, Int.reduceSub, Int.reduceMul, Int.reduceNeg, Int.reduceLT, Int.reduceLE, Int.reduceEq, Int.reduceToNat, eq_self, true_and, and_true, true_or, or_true, false_or, or_false, if_true, if_false, not_true_eq_false, not_false_eq_true, and_self, ne_eq, b_S_nearestWithin_6, hS, hj, hd]
      split at i1 <;> (repeat' (first | apply And.intro | split)) <;> first | omega | exact i1 | (rw [b2_t (by omega)] at i1; exact i1) | (rw [b2_f (by omega)] at i1; exact i1)
    · have hd2 := distanceOf_ok (zt := zt) hS hW (show (0 : Int) ≤ best by omega) (show best < g a 0 by omega) ho hw
      have k3 := dstV_b hW (m := best.toNat) (by omega) ho hw
      simp only [hbb, false_or] at i1
      rw [P_S_nearestWithin_6]
      simp only [m_S_nearestWithin, b_S_nearestWithin_0, P_S_nearestWithin_56, b_S_nearestWithin_56, P_S_nearestWithin_60, b_S_nearestWithin_60, P_S_nearestWithin_66, b_S_nearestWithin_66, P_S_nearestWithin_76, b_S_nearestWithin_76, P_S_nearestWithin_78, b_S_nearestWithin_78, wp_aln0, wp_cv1, wp_cv2, wp_cv3, wp_cv4, wp_cv5, wp_cv6, wp_cv7, wp_goto, wp_iald, wp_iceq, wp_icge, wp_icgt, wp_icne, wp_iconst, wp_il4, wp_il5, wp_iln1, wp_iln2, wp_iln3, wp_inc5, wp_iret, wp_is4, wp_is5, wp_nop, wp_zret, qsc_kd, qsc_k1, qsc_l1, qsc_gf1, qsc_k2, qsc_l2, qsc_gf2, qsc_k3, qsc_l3, qsc_gf3, qsc_k4, qsc_l4, qsc_gf4, qsc_k5, qsc_l5, qsc_gf6, qsc_k6, qsc_l6, qsc_gf7, qsc_k7, qsc_l7, qsc_gf9, qsc_k8, qsc_l8, qsc_gf10, qsc_gf0, qsc_pf0, qsc_gf5, qsc_pf5, qsc_gf8, qsc_pf8, wrI_row, cpI_row, row_s, row_n, row_ss, row_sw, upd_s, upd_n, ad_inj, ad_z, ad_z2, Nat.reduceEqDiff, reduceCtorEq, List.cons_append, List.nil_append, Option.toList_some, Option.toList_none, Int.toNat_natCast, List.length_cons, List.length_nil, Int.cast_ofNat_Int, Nat.reduceAdd, Nat.reduceLeDiff, Nat.reduceLT, Nat.reduceMul, Int.reduceAdd, Int.reduceSub, Int.reduceMul, Int.reduceNeg, Int.reduceLT, Int.reduceLE, Int.reduceEq, Int.reduceToNat, eq_self, true_and, and_true, true_or, or_true, false_or, or_false, if_true, if_false, not_true_eq_false, not_false_eq_true, and_self, ne_eq, b_S_nearestWithin_6, hS, hj, hd, hd2, hbb]
      split at i1 <;> (repeat' (first | apply And.intro | split)) <;> first | omega | exact i1 | (rw [b2_t (by omega)] at i1; exact i1) | (rw [b2_f (by omega)] at i1; exact i1)
theorem nearestWithin_ok (hS : isSc ρ a) (hW : WFV (-99) (vwC g a)) {x o w : Int} (hx0 : 0 ≤ x) (hx1 : x < g a 0) (ho : -1000 ≤ o ∧ o ≤ 1000) (hw : -1000 ≤ w ∧ w ≤ 1000) (Q : Option AV → Sto → Prop) : WpM zt 34 [AR a, AI x, AI o, AI w] (g, ρ) Q ↔ Q (some (AI (if aminP (fun m => decide (jmpV (vwC g a) x.toNat m ≤ g (ad a 4) 0)) (fun m => dstV (vwC g a) m o w) (g a 0).toNat = -1 then x else aminP (fun m => decide (jmpV (vwC g a) x.toNat m ≤ g (ad a 4) 0)) (fun m => dstV (vwC g a) m o w) (g a 0).toNat))) (g, ρ) := by
  refine wpm_iff (fun Q hQ => ?_) Q
  have hM := w_M hW
  have h1 := nearestWithin_loop (zt := zt) hS hW hx0 hx1 ho hw hQ (g a 0).toNat 0 (by omega)
  simp only [m_S_nearestWithin, b_S_nearestWithin_0, P_S_nearestWithin_56, b_S_nearestWithin_56, P_S_nearestWithin_60, b_S_nearestWithin_60, P_S_nearestWithin_66, b_S_nearestWithin_66, P_S_nearestWithin_76, b_S_nearestWithin_76, P_S_nearestWithin_78, b_S_nearestWithin_78, wp_aln0, wp_cv1, wp_cv2, wp_cv3, wp_cv4, wp_cv5, wp_cv6, wp_cv7, wp_goto, wp_iald, wp_iceq, wp_icge, wp_icgt, wp_icne, wp_iconst, wp_il4, wp_il5, wp_iln1, wp_iln2, wp_iln3, wp_inc5, wp_iret, wp_is4, wp_is5, wp_nop, wp_zret, wrI_row, cpI_row, row_s, row_n, row_ss, row_sw, upd_s, upd_n, ad_inj, ad_z, ad_z2, Nat.reduceEqDiff, reduceCtorEq, List.cons_append, List.nil_append, Option.toList_some, Option.toList_none, Int.toNat_natCast, List.length_cons, List.length_nil, Int.cast_ofNat_Int, Nat.reduceAdd, Nat.reduceLeDiff, Nat.reduceLT, Nat.reduceMul, Int.reduceAdd, Int.reduceSub, Int.reduceMul, Int.reduceNeg, Int.reduceLT, Int.reduceLE, Int.reduceEq, Int.reduceToNat, eq_self, true_and, and_true, true_or, or_true, false_or, or_false, if_true, if_false, not_true_eq_false, not_false_eq_true, and_self, ne_eq, hS]
  exact h1
theorem wrongOf_ok (hS : isSc ρ a) (hW : WFV (-99) (vwC g a)) {kd m : Int} (hk0 : 0 ≤ kd) (hk1 : kd ≤ 9) (hm0 : 0 ≤ m) (hm1 : m < g a 0) (Q : Option AV → Sto → Prop) : WpM zt 35 [AR a, AI kd, AI m] (g, ρ) Q ↔ Q (some (AI (wrgV (vwC g a) kd m.toNat))) (g, ρ) := by
  refine wpm_iff (fun Q hQ => ?_) Q
  have hM := w_M hW
  have hN := w_nm hW
  have h1 := w_op hW (j := m.toNat) (by omega)
  have h2 := w_wd hW (j := m.toNat) (by omega)
  unfold wrgV at hQ
  by_cases hc : kd = 9
  · rw [if_pos hc] at hQ
    subst hc
    simp only [m_S_wrongOf, b_S_wrongOf_0, P_S_wrongOf_27, b_S_wrongOf_27, wp_abs, wp_aln0, wp_bipush, wp_copy, wp_cs1, wp_cs2, wp_cs3, wp_cs4, wp_cs5, wp_cs6, wp_cs7, wp_iadd, wp_iald, wp_icne, wp_iconst, wp_iln1, wp_iln2, wp_iln3, wp_imul, wp_iret, wp_isn3, wp_isub, wp_max, wp_min, wp_zret, qsc_kd, qsc_k1, qsc_l1, qsc_gf1, qsc_k2, qsc_l2, qsc_gf2, qsc_k3, qsc_l3, qsc_gf3, qsc_k4, qsc_l4, qsc_gf4, qsc_k5, qsc_l5, qsc_gf6, qsc_k6, qsc_l6, qsc_gf7, qsc_k7, qsc_l7, qsc_gf9, qsc_k8, qsc_l8, qsc_gf10, qsc_gf0, qsc_pf0, qsc_gf5, qsc_pf5, qsc_gf8, qsc_pf8, wrI_row, cpI_row, row_s, row_n, row_ss, row_sw, upd_s, upd_n, ad_inj, ad_z, ad_z2, Nat.reduceEqDiff, reduceCtorEq, List.cons_append, List.nil_append, Option.toList_some, Option.toList_none, Int.toNat_natCast, List.length_cons, List.length_nil, Int.cast_ofNat_Int, Nat.reduceAdd, Nat.reduceLeDiff, Nat.reduceLT, Nat.reduceMul, Int.reduceAdd, Int.reduceSub, Int.reduceMul, Int.reduceNeg, Int.reduceLT, Int.reduceLE, Int.reduceEq, Int.reduceToNat, eq_self, true_and, and_true, true_or, or_true, false_or, or_false, if_true, if_false, not_true_eq_false, not_false_eq_true, and_self, ne_eq, hS]
    (repeat' (first | apply And.intro | split)) <;> first | omega | exact hQ | (rw [b2_t (by omega)] at hQ; exact hQ) | (rw [b2_f (by omega)] at hQ; exact hQ)
  · rw [if_neg hc] at hQ
    have h3 := w_sn hW (j := (kd * 4 + 2).toNat) (by omega)
    have h4 := w_sn hW (j := (kd * 4 + 0).toNat) (by omega)
    have h5 := w_sn hW (j := (kd * 4 + 1).toNat) (by omega)
    simp only [m_S_wrongOf, b_S_wrongOf_0, P_S_wrongOf_27, b_S_wrongOf_27, wp_abs, wp_aln0, wp_bipush, wp_copy, wp_cs1, wp_cs2, wp_cs3, wp_cs4, wp_cs5, wp_cs6, wp_cs7, wp_iadd, wp_iald, wp_icne, wp_iconst, wp_iln1, wp_iln2, wp_iln3, wp_imul, wp_iret, wp_isn3, wp_isub, wp_max, wp_min, wp_zret, qsc_kd, qsc_k1, qsc_l1, qsc_gf1, qsc_k2, qsc_l2, qsc_gf2, qsc_k3, qsc_l3, qsc_gf3, qsc_k4, qsc_l4, qsc_gf4, qsc_k5, qsc_l5, qsc_gf6, qsc_k6, qsc_l6, qsc_gf7, qsc_k7, qsc_l7, qsc_gf9, qsc_k8, qsc_l8, qsc_gf10, qsc_gf0, qsc_pf0, qsc_gf5, qsc_pf5, qsc_gf8, qsc_pf8, wrI_row, cpI_row, row_s, row_n, row_ss, row_sw, upd_s, upd_n, ad_inj, ad_z, ad_z2, Nat.reduceEqDiff, reduceCtorEq, List.cons_append, List.nil_append, Option.toList_some, Option.toList_none, Int.toNat_natCast, List.length_cons, List.length_nil, Int.cast_ofNat_Int, Nat.reduceAdd, Nat.reduceLeDiff, Nat.reduceLT, Nat.reduceMul, Int.reduceAdd, Int.reduceSub, Int.reduceMul, Int.reduceNeg, Int.reduceLT, Int.reduceLE, Int.reduceEq, Int.reduceToNat, eq_self, true_and, and_true, true_or, or_true, false_or, or_false, if_true, if_false, not_true_eq_false, not_false_eq_true, and_self, ne_eq, hS, hc]
    (repeat' (first | apply And.intro | split)) <;> first | omega | exact hQ | (rw [b2_t (by omega)] at hQ; exact hQ) | (rw [b2_f (by omega)] at hQ; exact hQ)
theorem wrgV_b (hW : WFV (-99) (vwC g a)) {kd : Int} (hk0 : 0 ≤ kd) (hk1 : kd ≤ 9) {m : Nat} (hm1 : (m : Int) < g a 0) : 0 ≤ wrgV (vwC g a) kd m ∧ wrgV (vwC g a) kd m ≤ 162 := by
  have hN := w_nm hW
  have h1 := w_op hW (j := m) (by omega)
  have h2 := w_wd hW (j := m) (by omega)
  unfold wrgV
  by_cases hc : kd = 9
  · rw [if_pos hc]
    show 0 ≤ 9 * max 0 (g (ad a 4) 2 - g (ad a 1) m) ∧ 9 * max 0 (g (ad a 4) 2 - g (ad a 1) m) ≤ 162
    omega
  · rw [if_neg hc]
    have h3 := w_sn hW (j := (kd * 4 + 2).toNat) (by omega)
    have h4 := w_sn hW (j := (kd * 4 + 0).toNat) (by omega)
    have h5 := w_sn hW (j := (kd * 4 + 1).toNat) (by omega)
    show 0 ≤ g (ad a 3) (kd * 4 + 2).toNat * (((g (ad a 1) m - g (ad a 3) (kd * 4 + 0).toNat).natAbs : Int) + ((g (ad a 2) m - g (ad a 3) (kd * 4 + 1).toNat).natAbs : Int)) ∧ g (ad a 3) (kd * 4 + 2).toNat * (((g (ad a 1) m - g (ad a 3) (kd * 4 + 0).toNat).natAbs : Int) + ((g (ad a 2) m - g (ad a 3) (kd * 4 + 1).toNat).natAbs : Int)) ≤ 162
    generalize hd : ((g (ad a 1) m - g (ad a 3) (kd * 4 + 0).toNat).natAbs : Int) + ((g (ad a 2) m - g (ad a 3) (kd * 4 + 1).toNat).natAbs : Int) = D
    have hD : 0 ≤ D ∧ D ≤ 18 := by omega
    generalize g (ad a 3) (kd * 4 + 2).toNat = E at *
    refine ⟨Int.mul_nonneg h3.1 hD.1, ?_⟩
    have := Int.mul_le_mul h3.2 hD.2 hD.1 (by omega : (0 : Int) ≤ 9)
    omega
theorem leastWrongFor_loop (hS : isSc ρ a) (hW : WFV (-99) (vwC g a)) {kd : Int} (hk0 : 0 ≤ kd) (hk1 : kd ≤ 9) {Q : Option AV → Sto → Prop} (hQ : Q (some (AI (amin (fun m => wrgV (vwC g a) kd m) (g a 0).toNat : Nat))) (g, ρ)) :
    ∀ (d m : Nat), (m : Int) + d = g a 0 → 1 ≤ m → Wp zt 36 (P 36 4) [some (AR a), some (AI kd), some (AI (amin (fun m => wrgV (vwC g a) kd m) m : Nat)), some (AI m)] [] (g, ρ) Q := by
  have hM := w_M hW
  intro d
  induction d with
  | zero =>
    intro m hm h1
    have e : (g a 0).toNat = m := by omega
    rw [e] at hQ
    rw [P_S_leastWrongFor_4]
    simp only [m_S_leastWrongFor, b_S_leastWrongFor_0, P_S_leastWrongFor_29, b_S_leastWrongFor_29, P_S_leastWrongFor_35, b_S_leastWrongFor_35, wp_aln0, wp_cv1, wp_cv2, wp_cv3, wp_cv4, wp_cv5, wp_cv6, wp_cv7, wp_goto, wp_icge, wp_iconst, wp_iln1, wp_iln2, wp_iln3, wp_inc3, wp_iret, wp_isn2, wp_isn3, wp_nop, wp_zret, qsc_kd, qsc_k1, qsc_l1, qsc_gf1, qsc_k2, qsc_l2, qsc_gf2, qsc_k3, qsc_l3, qsc_gf3, qsc_k4, qsc_l4, qsc_gf4, qsc_k5, qsc_l5, qsc_gf6, qsc_k6, qsc_l6, qsc_gf7, qsc_k7, qsc_l7, qsc_gf9, qsc_k8, qsc_l8, qsc_gf10, qsc_gf0, qsc_pf0, qsc_gf5, qsc_pf5, qsc_gf8, qsc_pf8, wrI_row, cpI_row, row_s, row_n, row_ss, row_sw, upd_s, upd_n, ad_inj, ad_z, ad_z2, Nat.reduceEqDiff, reduceCtorEq, List.cons_append, List.nil_append, Option.toList_some, Option.toList_none, Int.toNat_natCast, List.length_cons, List.length_nil, Int.cast_ofNat_Int, Nat.reduceAdd, Nat.reduceLeDiff, Nat.reduceLT, Nat.reduceMul, Int.reduceAdd, Int.reduceSub, Int.reduceMul, Int.reduceNeg, Int.reduceLT, Int.reduceLE, Int.reduceEq, Int.reduceToNat, eq_self, true_and, and_true, true_or, or_true, false_or, or_false, if_true, if_false, not_true_eq_false, not_false_eq_true, and_self, ne_eq, b_S_leastWrongFor_4, hS]
    (repeat' (first | apply And.intro | split)) <;> first | omega | exact hQ | (rw [b2_t (by omega)] at hQ; exact hQ) | (rw [b2_f (by omega)] at hQ; exact hQ)
  | succ d ih =>
    intro m hm h1
    have hb := amin_lt (f := fun m => wrgV (vwC g a) kd m) m h1
    have hb2 : ((amin (fun m => wrgV (vwC g a) kd m) m : Nat) : Int) < g a 0 := by omega
    have k1 := wrgV_b hW hk0 hk1 (m := m) (by omega)
    have k2 := wrgV_b hW hk0 hk1 hb2
    have i1 := ih (m + 1) (by omega) (by omega)
    simp only [amin] at i1
    have w1 := wrongOf_ok (zt := zt) hS hW hk0 hk1 (show (0 : Int) ≤ (m : Int) by omega) (show (m : Int) < g a 0 by omega)
    have w2 := wrongOf_ok (zt := zt) hS hW hk0 hk1 (show (0 : Int) ≤ ((amin (fun m => wrgV (vwC g a) kd m) m : Nat) : Int) by omega) hb2
    rw [P_S_leastWrongFor_4]
    simp only [m_S_leastWrongFor, b_S_leastWrongFor_0, P_S_leastWrongFor_29, b_S_leastWrongFor_29, P_S_leastWrongFor_35, b_S_leastWrongFor_35, wp_aln0, wp_cv1, wp_cv2, wp_cv3, wp_cv4, wp_cv5, wp_cv6, wp_cv7, wp_goto, wp_icge, wp_iconst, wp_iln1, wp_iln2, wp_iln3, wp_inc3, wp_iret, wp_isn2, wp_isn3, wp_nop, wp_zret, qsc_kd, qsc_k1, qsc_l1, qsc_gf1, qsc_k2, qsc_l2, qsc_gf2, qsc_k3, qsc_l3, qsc_gf3, qsc_k4, qsc_l4, qsc_gf4, qsc_k5, qsc_l5, qsc_gf6, qsc_k6, qsc_l6, qsc_gf7, qsc_k7, qsc_l7, qsc_gf9, qsc_k8, qsc_l8, qsc_gf10, qsc_gf0, qsc_pf0, qsc_gf5, qsc_pf5, qsc_gf8, qsc_pf8, wrI_row, cpI_row, row_s, row_n, row_ss, row_sw, upd_s, upd_n, ad_inj, ad_z, ad_z2, Nat.reduceEqDiff, reduceCtorEq, List.cons_append, List.nil_append, Option.toList_some, Option.toList_none, Int.toNat_natCast, List.length_cons, List.length_nil, Int.cast_ofNat_Int, Nat.reduceAdd, Nat.reduceLeDiff, Nat.reduceLT, Nat.reduceMul, Int.reduceAdd, Int.reduceSub, Int.reduceMul, Int.reduceNeg, Int.reduceLT, Int.reduceLE, Int.reduceEq, Int.reduceToNat, eq_self, true_and, and_true, true_or, or_true, false_or, or_false, if_true, if_false, not_true_eq_false, not_false_eq_true, and_self, ne_eq, b_S_leastWrongFor_4, hS, w1, w2]
    split at i1 <;> (repeat' (first | apply And.intro | split)) <;> first | omega | exact i1 | (rw [b2_t (by omega)] at i1; exact i1) | (rw [b2_f (by omega)] at i1; exact i1)
theorem leastWrongFor_ok (hS : isSc ρ a) (hW : WFV (-99) (vwC g a)) {kd : Int} (hk0 : 0 ≤ kd) (hk1 : kd ≤ 9) (Q : Option AV → Sto → Prop) : WpM zt 36 [AR a, AI kd] (g, ρ) Q ↔ Q (some (AI (amin (fun m => wrgV (vwC g a) kd m) (g a 0).toNat : Nat))) (g, ρ) := by
  refine wpm_iff (fun Q hQ => ?_) Q
  have hM := w_M hW
  have h1 := leastWrongFor_loop (zt := zt) hS hW hk0 hk1 hQ ((g a 0).toNat - 1) 1 (by omega) (Nat.le_refl _)
  simp only [m_S_leastWrongFor, b_S_leastWrongFor_0, P_S_leastWrongFor_29, b_S_leastWrongFor_29, P_S_leastWrongFor_35, b_S_leastWrongFor_35, wp_aln0, wp_cv1, wp_cv2, wp_cv3, wp_cv4, wp_cv5, wp_cv6, wp_cv7, wp_goto, wp_icge, wp_iconst, wp_iln1, wp_iln2, wp_iln3, wp_inc3, wp_iret, wp_isn2, wp_isn3, wp_nop, wp_zret, wrI_row, cpI_row, row_s, row_n, row_ss, row_sw, upd_s, upd_n, ad_inj, ad_z, ad_z2, Nat.reduceEqDiff, reduceCtorEq, List.cons_append, List.nil_append, Option.toList_some, Option.toList_none, Int.toNat_natCast, List.length_cons, List.length_nil, Int.cast_ofNat_Int, Nat.reduceAdd, Nat.reduceLeDiff, Nat.reduceLT, Nat.reduceMul, Int.reduceAdd, Int.reduceSub, Int.reduceMul, Int.reduceNeg, Int.reduceLT, Int.reduceLE, Int.reduceEq, Int.reduceToNat, eq_self, true_and, and_true, true_or, or_true, false_or, or_false, if_true, if_false, not_true_eq_false, not_false_eq_true, and_self, ne_eq, hS]
  rw [amin_1] at h1
  exact h1
theorem countSet_loop (hS : isSc ρ a) (hW : WFV (-99) (vwC g a)) {b : Nat} (hb : kdI ρ b 0) (hl : lnA ρ b = 99) (hr : ∀ j : Nat, (j : Int) < g a 8 → -2147483648 ≤ g b j ∧ g b j < 2147483648) {Q : Option AV → Sto → Prop} (hQ : Q (some (AI (cntS (-99) (g b) (g a 8).toNat))) (g, ρ)) :
    ∀ (d m : Nat), (m : Int) + d = g a 8 → Wp zt 37 (P 37 4) [some (AR a), some (AR b), some (AI (cntS (-99) (g b) m)), some (AI m)] [] (g, ρ) Q := by
  have hF := w_F hW
  intro d
  induction d with
  | zero =>
    intro m hm
    have e : (g a 8).toNat = m := by omega
    rw [e] at hQ
    rw [P_S_countSet_4]
    simp only [m_S_countSet, b_S_countSet_0, P_S_countSet_23, b_S_countSet_23, P_S_countSet_29, b_S_countSet_29, wp_aln0, wp_aln1, wp_bipush, wp_goto, wp_iald, wp_iceq, wp_icge, wp_iconst, wp_iln2, wp_iln3, wp_inc2, wp_inc3, wp_iret, wp_isn2, wp_isn3, wp_nop, wp_zret, qsc_kd, qsc_k1, qsc_l1, qsc_gf1, qsc_k2, qsc_l2, qsc_gf2, qsc_k3, qsc_l3, qsc_gf3, qsc_k4, qsc_l4, qsc_gf4, qsc_k5, qsc_l5, qsc_gf6, qsc_k6, qsc_l6, qsc_gf7, qsc_k7, qsc_l7, qsc_gf9, qsc_k8, qsc_l8, qsc_gf10, qsc_gf0, qsc_pf0, qsc_gf5, qsc_pf5, qsc_gf8, qsc_pf8, wrI_row, cpI_row, row_s, row_n, row_ss, row_sw, upd_s, upd_n, ad_inj, ad_z, ad_z2, Nat.reduceEqDiff, reduceCtorEq, List.cons_append, List.nil_append, Option.toList_some, Option.toList_none, Int.toNat_natCast, List.length_cons, List.length_nil, Int.cast_ofNat_Int, Nat.reduceAdd, Nat.reduceLeDiff, Nat.reduceLT, Nat.reduceMul, Int.reduceAdd, Int.reduceSub, Int.reduceMul, Int.reduceNeg, Int.reduceLT, Int.reduceLE, Int.reduceEq, Int.reduceToNat, eq_self, true_and, and_true, true_or, or_true, false_or, or_false, if_true, if_false, not_true_eq_false, not_false_eq_true, and_self, ne_eq, b_S_countSet_4, hS, hb, hl]
    (repeat' (first | apply And.intro | split)) <;> first | omega | exact hQ | (rw [b2_t (by omega)] at hQ; exact hQ) | (rw [b2_f (by omega)] at hQ; exact hQ)
  | succ d ih =>
    intro m hm
    have i1 := ih (m + 1) (by omega)
    have h1 := hr m (by omega)
    simp only [cntS] at i1
    rw [P_S_countSet_4]
    simp only [m_S_countSet, b_S_countSet_0, P_S_countSet_23, b_S_countSet_23, P_S_countSet_29, b_S_countSet_29, wp_aln0, wp_aln1, wp_bipush, wp_goto, wp_iald, wp_iceq, wp_icge, wp_iconst, wp_iln2, wp_iln3, wp_inc2, wp_inc3, wp_iret, wp_isn2, wp_isn3, wp_nop, wp_zret, qsc_kd, qsc_k1, qsc_l1, qsc_gf1, qsc_k2, qsc_l2, qsc_gf2, qsc_k3, qsc_l3, qsc_gf3, qsc_k4, qsc_l4, qsc_gf4, qsc_k5, qsc_l5, qsc_gf6, qsc_k6, qsc_l6, qsc_gf7, qsc_k7, qsc_l7, qsc_gf9, qsc_k8, qsc_l8, qsc_gf10, qsc_gf0, qsc_pf0, qsc_gf5, qsc_pf5, qsc_gf8, qsc_pf8, wrI_row, cpI_row, row_s, row_n, row_ss, row_sw, upd_s, upd_n, ad_inj, ad_z, ad_z2, Nat.reduceEqDiff, reduceCtorEq, List.cons_append, List.nil_append, Option.toList_some, Option.toList_none, Int.toNat_natCast, List.length_cons, List.length_nil, Int.cast_ofNat_Int, Nat.reduceAdd, Nat.reduceLeDiff, Nat.reduceLT, Nat.reduceMul, Int.reduceAdd, Int.reduceSub, Int.reduceMul, Int.reduceNeg, Int.reduceLT, Int.reduceLE, Int.reduceEq, Int.reduceToNat, eq_self, true_and, and_true, true_or, or_true, false_or, or_false, if_true, if_false, not_true_eq_false, not_false_eq_true, and_self, ne_eq, b_S_countSet_4, hS, hb, hl]
    split at i1 <;> (repeat' (first | apply And.intro | split)) <;> first | omega | exact i1 | (rw [b2_t (by omega)] at i1; exact i1) | (rw [b2_f (by omega)] at i1; exact i1)
theorem countSet_ok (hS : isSc ρ a) (hW : WFV (-99) (vwC g a)) {b : Nat} (hb : kdI ρ b 0) (hl : lnA ρ b = 99) (hr : ∀ j : Nat, (j : Int) < g a 8 → -2147483648 ≤ g b j ∧ g b j < 2147483648) (Q : Option AV → Sto → Prop) : WpM zt 37 [AR a, AR b] (g, ρ) Q ↔ Q (some (AI (cntS (-99) (g b) (g a 8).toNat))) (g, ρ) := by
  refine wpm_iff (fun Q hQ => ?_) Q
  have hF := w_F hW
  have h1 := countSet_loop (zt := zt) hS hW hb hl hr hQ (g a 8).toNat 0 (by omega)
  simp only [m_S_countSet, b_S_countSet_0, P_S_countSet_23, b_S_countSet_23, P_S_countSet_29, b_S_countSet_29, wp_aln0, wp_aln1, wp_bipush, wp_goto, wp_iald, wp_iceq, wp_icge, wp_iconst, wp_iln2, wp_iln3, wp_inc2, wp_inc3, wp_iret, wp_isn2, wp_isn3, wp_nop, wp_zret, wrI_row, cpI_row, row_s, row_n, row_ss, row_sw, upd_s, upd_n, ad_inj, ad_z, ad_z2, Nat.reduceEqDiff, reduceCtorEq, List.cons_append, List.nil_append, Option.toList_some, Option.toList_none, Int.toNat_natCast, List.length_cons, List.length_nil, Int.cast_ofNat_Int, Nat.reduceAdd, Nat.reduceLeDiff, Nat.reduceLT, Nat.reduceMul, Int.reduceAdd, Int.reduceSub, Int.reduceMul, Int.reduceNeg, Int.reduceLT, Int.reduceLE, Int.reduceEq, Int.reduceToNat, eq_self, true_and, and_true, true_or, or_true, false_or, or_false, if_true, if_false, not_true_eq_false, not_false_eq_true, and_self, ne_eq, hS]
  exact h1
theorem firstFrameOf_loop (hS : isSc ρ a) (hW : WFV (-99) (vwC g a)) {s : Nat} (hs : (s : Int) ≤ g a 5) {Q : Option AV → Sto → Prop} (hQ : Q (some (AI (sumL (vwC g a) s))) (g, ρ)) :
    ∀ (d m : Nat), m + d = s → Wp zt 38 (P 38 4) [some (AR a), some (AI s), some (AI (sumL (vwC g a) m)), some (AI m)] [] (g, ρ) Q := by
  have hG := w_G hW
  intro d
  induction d with
  | zero =>
    intro m hm
    have e : s = m := by omega
    subst e
    rw [P_S_firstFrameOf_4]
    simp only [m_S_firstFrameOf, b_S_firstFrameOf_0, P_S_firstFrameOf_24, b_S_firstFrameOf_24, wp_aln0, wp_goto, wp_iadd, wp_iald, wp_icge, wp_iconst, wp_iln1, wp_iln2, wp_iln3, wp_inc3, wp_iret, wp_isn2, wp_isn3, wp_nop, wp_zret, qsc_kd, qsc_k1, qsc_l1, qsc_gf1, qsc_k2, qsc_l2, qsc_gf2, qsc_k3, qsc_l3, qsc_gf3, qsc_k4, qsc_l4, qsc_gf4, qsc_k5, qsc_l5, qsc_gf6, qsc_k6, qsc_l6, qsc_gf7, qsc_k7, qsc_l7, qsc_gf9, qsc_k8, qsc_l8, qsc_gf10, qsc_gf0, qsc_pf0, qsc_gf5, qsc_pf5, qsc_gf8, qsc_pf8, wrI_row, cpI_row, row_s, row_n, row_ss, row_sw, upd_s, upd_n, ad_inj, ad_z, ad_z2, Nat.reduceEqDiff, reduceCtorEq, List.cons_append, List.nil_append, Option.toList_some, Option.toList_none, Int.toNat_natCast, List.length_cons, List.length_nil, Int.cast_ofNat_Int, Nat.reduceAdd, Nat.reduceLeDiff, Nat.reduceLT, Nat.reduceMul, Int.reduceAdd, Int.reduceSub, Int.reduceMul, Int.reduceNeg, Int.reduceLT, Int.reduceLE, Int.reduceEq, Int.reduceToNat, eq_self, true_and, and_true, true_or, or_true, false_or, or_false, if_true, if_false, not_true_eq_false, not_false_eq_true, and_self, ne_eq, b_S_firstFrameOf_4, hS]
    (repeat' (first | apply And.intro | split)) <;> first | omega | exact hQ | (rw [b2_t (by omega)] at hQ; exact hQ) | (rw [b2_f (by omega)] at hQ; exact hQ)
  | succ d ih =>
    intro m hm
    have i1 := ih (m + 1) (by omega)
    simp only [sumL] at i1
    rw [P_S_firstFrameOf_4]
    simp only [m_S_firstFrameOf, b_S_firstFrameOf_0, P_S_firstFrameOf_24, b_S_firstFrameOf_24, wp_aln0, wp_goto, wp_iadd, wp_iald, wp_icge, wp_iconst, wp_iln1, wp_iln2, wp_iln3, wp_inc3, wp_iret, wp_isn2, wp_isn3, wp_nop, wp_zret, qsc_kd, qsc_k1, qsc_l1, qsc_gf1, qsc_k2, qsc_l2, qsc_gf2, qsc_k3, qsc_l3, qsc_gf3, qsc_k4, qsc_l4, qsc_gf4, qsc_k5, qsc_l5, qsc_gf6, qsc_k6, qsc_l6, qsc_gf7, qsc_k7, qsc_l7, qsc_gf9, qsc_k8, qsc_l8, qsc_gf10, qsc_gf0, qsc_pf0, qsc_gf5, qsc_pf5, qsc_gf8, qsc_pf8, wrI_row, cpI_row, row_s, row_n, row_ss, row_sw, upd_s, upd_n, ad_inj, ad_z, ad_z2, Nat.reduceEqDiff, reduceCtorEq, List.cons_append, List.nil_append, Option.toList_some, Option.toList_none, Int.toNat_natCast, List.length_cons, List.length_nil, Int.cast_ofNat_Int, Nat.reduceAdd, Nat.reduceLeDiff, Nat.reduceLT, Nat.reduceMul, Int.reduceAdd, Int.reduceSub, Int.reduceMul, Int.reduceNeg, Int.reduceLT, Int.reduceLE, Int.reduceEq, Int.reduceToNat, eq_self, true_and, and_true, true_or, or_true, false_or, or_false, if_true, if_false, not_true_eq_false, not_false_eq_true, and_self, ne_eq, b_S_firstFrameOf_4, hS]
    (repeat' (first | apply And.intro | split)) <;> first | omega | exact i1 | (rw [b2_t (by omega)] at i1; exact i1) | (rw [b2_f (by omega)] at i1; exact i1)
theorem firstFrameOf_ok (hS : isSc ρ a) (hW : WFV (-99) (vwC g a)) {s : Int} (h0 : 0 ≤ s) (hs : s ≤ g a 5) (Q : Option AV → Sto → Prop) : WpM zt 38 [AR a, AI s] (g, ρ) Q ↔ Q (some (AI (sumL (vwC g a) s.toNat))) (g, ρ) := by
  refine wpm_iff (fun Q hQ => ?_) Q
  obtain ⟨n, rfl⟩ := Int.eq_ofNat_of_zero_le h0
  have h1 := firstFrameOf_loop (zt := zt) hS hW (s := n) hs (by simpa using hQ) n 0 (by omega)
  simp only [m_S_firstFrameOf, b_S_firstFrameOf_0, P_S_firstFrameOf_24, b_S_firstFrameOf_24, wp_aln0, wp_goto, wp_iadd, wp_iald, wp_icge, wp_iconst, wp_iln1, wp_iln2, wp_iln3, wp_inc3, wp_iret, wp_isn2, wp_isn3, wp_nop, wp_zret, wrI_row, cpI_row, row_s, row_n, row_ss, row_sw, upd_s, upd_n, ad_inj, ad_z, ad_z2, Nat.reduceEqDiff, reduceCtorEq, List.cons_append, List.nil_append, Option.toList_some, Option.toList_none, Int.toNat_natCast, List.length_cons, List.length_nil, Int.cast_ofNat_Int, Nat.reduceAdd, Nat.reduceLeDiff, Nat.reduceLT, Nat.reduceMul, Int.reduceAdd, Int.reduceSub, Int.reduceMul, Int.reduceNeg, Int.reduceLT, Int.reduceLE, Int.reduceEq, Int.reduceToNat, eq_self, true_and, and_true, true_or, or_true, false_or, or_false, if_true, if_false, not_true_eq_false, not_false_eq_true, and_self, ne_eq, hS]
  exact h1
theorem segmentAt_loop (hS : isSc ρ a) (hW : WFV (-99) (vwC g a)) {f : Int} (hf0 : -1000 ≤ f) (hf : f ≤ 1000) {Q : Option AV → Sto → Prop} :
    ∀ (d s : Nat), (s : Int) + d = g a 5 → Q (some (AI (segF (vwC g a) f d s))) (g, ρ) → Wp zt 39 (P 39 4) [some (AR a), some (AI f), some (AI (sumL (vwC g a) s)), some (AI s)] [] (g, ρ) Q := by
  have hG := w_G hW
  intro d
  induction d with
  | zero =>
    intro s hs hQ
    rw [P_S_segmentAt_4]
    simp only [m_S_segmentAt, b_S_segmentAt_0, P_S_segmentAt_28, b_S_segmentAt_28, P_S_segmentAt_34, b_S_segmentAt_34, wp_aln0, wp_goto, wp_iadd, wp_iald, wp_icge, wp_iconst, wp_iln1, wp_iln2, wp_iln3, wp_inc3, wp_iret, wp_isn2, wp_isn3, wp_nop, wp_zret, qsc_kd, qsc_k1, qsc_l1, qsc_gf1, qsc_k2, qsc_l2, qsc_gf2, qsc_k3, qsc_l3, qsc_gf3, qsc_k4, qsc_l4, qsc_gf4, qsc_k5, qsc_l5, qsc_gf6, qsc_k6, qsc_l6, qsc_gf7, qsc_k7, qsc_l7, qsc_gf9, qsc_k8, qsc_l8, qsc_gf10, qsc_gf0, qsc_pf0, qsc_gf5, qsc_pf5, qsc_gf8, qsc_pf8, wrI_row, cpI_row, row_s, row_n, row_ss, row_sw, upd_s, upd_n, ad_inj, ad_z, ad_z2, Nat.reduceEqDiff, reduceCtorEq, List.cons_append, List.nil_append, Option.toList_some, Option.toList_none, Int.toNat_natCast, List.length_cons, List.length_nil, Int.cast_ofNat_Int, Nat.reduceAdd, Nat.reduceLeDiff, Nat.reduceLT, Nat.reduceMul, Int.reduceAdd, Int.reduceSub, Int.reduceMul, Int.reduceNeg, Int.reduceLT, Int.reduceLE, Int.reduceEq, Int.reduceToNat, eq_self, true_and, and_true, true_or, or_true, false_or, or_false, if_true, if_false, not_true_eq_false, not_false_eq_true, and_self, ne_eq, b_S_segmentAt_4, hS]
    (repeat' (first | apply And.intro | split)) <;> first | omega | exact hQ | (rw [b2_t (by omega)] at hQ; exact hQ) | (rw [b2_f (by omega)] at hQ; exact hQ)
  | succ d ih =>
    intro s hs hQ
    have i1 := ih (s + 1) (by omega)
    have hb := sumL_mono (V := vwC g a) (m := g a 5) (fun j hj => w_ln hW hj) (s + 1) (by omega)
    simp only [sumL] at i1 hb
    simp only [segF] at hQ
    rw [P_S_segmentAt_4]
    simp only [m_S_segmentAt, b_S_segmentAt_0, P_S_segmentAt_28, b_S_segmentAt_28, P_S_segmentAt_34, b_S_segmentAt_34, wp_aln0, wp_goto, wp_iadd, wp_iald, wp_icge, wp_iconst, wp_iln1, wp_iln2, wp_iln3, wp_inc3, wp_iret, wp_isn2, wp_isn3, wp_nop, wp_zret, qsc_kd, qsc_k1, qsc_l1, qsc_gf1, qsc_k2, qsc_l2, qsc_gf2, qsc_k3, qsc_l3, qsc_gf3, qsc_k4, qsc_l4, qsc_gf4, qsc_k5, qsc_l5, qsc_gf6, qsc_k6, qsc_l6, qsc_gf7, qsc_k7, qsc_l7, qsc_gf9, qsc_k8, qsc_l8, qsc_gf10, qsc_gf0, qsc_pf0, qsc_gf5, qsc_pf5, qsc_gf8, qsc_pf8, wrI_row, cpI_row, row_s, row_n, row_ss, row_sw, upd_s, upd_n, ad_inj, ad_z, ad_z2, Nat.reduceEqDiff, reduceCtorEq, List.cons_append, List.nil_append, Option.toList_some, Option.toList_none, Int.toNat_natCast, List.length_cons, List.length_nil, Int.cast_ofNat_Int, Nat.reduceAdd, Nat.reduceLeDiff, Nat.reduceLT, Nat.reduceMul, Int.reduceAdd, Int.reduceSub, Int.reduceMul, Int.reduceNeg, Int.reduceLT, Int.reduceLE, Int.reduceEq, Int.reduceToNat, eq_self, true_and, and_true, true_or, or_true, false_or, or_false, if_true, if_false, not_true_eq_false, not_false_eq_true, and_self, ne_eq, b_S_segmentAt_4, hS]
    by_cases hc : f < sumL (vwC g a) (s + 1)
    · rw [if_pos hc] at hQ
      have hc2 : f < sumL (vwC g a) s + g (ad a 6) s := hc
      have hb2 : ((s + 1 : Nat) : Int) ≤ sumL (vwC g a) s + g (ad a 6) s ∧ sumL (vwC g a) s + g (ad a 6) s ≤ 20 * ((s + 1 : Nat) : Int) := hb
      (repeat' (first | apply And.intro | split)) <;> first | omega | exact hQ | (rw [b2_t (by omega)] at hQ; exact hQ) | (rw [b2_f (by omega)] at hQ; exact hQ)
    · rw [if_neg hc] at hQ
      have hc2 : ¬ f < sumL (vwC g a) s + g (ad a 6) s := hc
      have hb2 : ((s + 1 : Nat) : Int) ≤ sumL (vwC g a) s + g (ad a 6) s ∧ sumL (vwC g a) s + g (ad a 6) s ≤ 20 * ((s + 1 : Nat) : Int) := hb
      have i2 := i1 hQ
      (repeat' (first | apply And.intro | split)) <;> first | omega | exact i2 | (rw [b2_t (by omega)] at i2; exact i2) | (rw [b2_f (by omega)] at i2; exact i2)
theorem segmentAt_ok (hS : isSc ρ a) (hW : WFV (-99) (vwC g a)) {f : Int} (hf0 : -1000 ≤ f) (hf : f ≤ 1000) (Q : Option AV → Sto → Prop) : WpM zt 39 [AR a, AI f] (g, ρ) Q ↔ Q (some (AI (segV (vwC g a) f))) (g, ρ) := by
  refine wpm_iff (fun Q hQ => ?_) Q
  have hG := w_G hW
  have h1 := segmentAt_loop (zt := zt) (Q := Q) hS hW hf0 hf (g a 5).toNat 0 (by omega) hQ
  simp only [m_S_segmentAt, b_S_segmentAt_0, P_S_segmentAt_28, b_S_segmentAt_28, P_S_segmentAt_34, b_S_segmentAt_34, wp_aln0, wp_goto, wp_iadd, wp_iald, wp_icge, wp_iconst, wp_iln1, wp_iln2, wp_iln3, wp_inc3, wp_iret, wp_isn2, wp_isn3, wp_nop, wp_zret, wrI_row, cpI_row, row_s, row_n, row_ss, row_sw, upd_s, upd_n, ad_inj, ad_z, ad_z2, Nat.reduceEqDiff, reduceCtorEq, List.cons_append, List.nil_append, Option.toList_some, Option.toList_none, Int.toNat_natCast, List.length_cons, List.length_nil, Int.cast_ofNat_Int, Nat.reduceAdd, Nat.reduceLeDiff, Nat.reduceLT, Nat.reduceMul, Int.reduceAdd, Int.reduceSub, Int.reduceMul, Int.reduceNeg, Int.reduceLT, Int.reduceLE, Int.reduceEq, Int.reduceToNat, eq_self, true_and, and_true, true_or, or_true, false_or, or_false, if_true, if_false, not_true_eq_false, not_false_eq_true, and_self, ne_eq, hS]
  exact h1
theorem segF_b {V : Vw} {f : Int} : ∀ (d s : Nat), 0 ≤ segF V f d s ∧ (segF V f d s = 0 ∨ segF V f d s < ((s + d : Nat) : Int))
  | 0, s => ⟨Int.le_refl _, Or.inl rfl⟩
  | d + 1, s => by
    have h := segF_b (V := V) (f := f) d (s + 1)
    simp only [segF]
    split <;> omega
theorem segV_b (hW : WFV (-99) (vwC g a)) {f : Int} : 0 ≤ segV (vwC g a) f ∧ segV (vwC g a) f < 30 ∧ (segV (vwC g a) f = 0 ∨ segV (vwC g a) f < g a 5) := by
  have hG := w_G hW
  have h := segF_b (V := vwC g a) (f := f) (g a 5).toNat 0
  have e : segV (vwC g a) f = segF (vwC g a) f (g a 5).toNat 0 := rfl
  rw [e]
  omega
theorem kindAt_ok (hS : isSc ρ a) (hW : WFV (-99) (vwC g a)) {f : Int} (hf0 : -1000 ≤ f) (hf : f ≤ 1000) (Q : Option AV → Sto → Prop) : WpM zt 40 [AR a, AI f] (g, ρ) Q ↔ Q (some (AI (kndV (vwC g a) f))) (g, ρ) := by
  refine wpm_iff (fun Q hQ => ?_) Q
  have hb := segV_b hW (f := f)
  simp only [m_S_kindAt, b_S_kindAt_0, wp_aln0, wp_cv1, wp_cv2, wp_cv3, wp_cv4, wp_cv5, wp_cv6, wp_cv7, wp_iald, wp_iln1, wp_iret, wp_zret, qsc_kd, qsc_k1, qsc_l1, qsc_gf1, qsc_k2, qsc_l2, qsc_gf2, qsc_k3, qsc_l3, qsc_gf3, qsc_k4, qsc_l4, qsc_gf4, qsc_k5, qsc_l5, qsc_gf6, qsc_k6, qsc_l6, qsc_gf7, qsc_k7, qsc_l7, qsc_gf9, qsc_k8, qsc_l8, qsc_gf10, qsc_gf0, qsc_pf0, qsc_gf5, qsc_pf5, qsc_gf8, qsc_pf8, wrI_row, cpI_row, row_s, row_n, row_ss, row_sw, upd_s, upd_n, ad_inj, ad_z, ad_z2, Nat.reduceEqDiff, reduceCtorEq, List.cons_append, List.nil_append, Option.toList_some, Option.toList_none, Int.toNat_natCast, List.length_cons, List.length_nil, Int.cast_ofNat_Int, Nat.reduceAdd, Nat.reduceLeDiff, Nat.reduceLT, Nat.reduceMul, Int.reduceAdd, Int.reduceSub, Int.reduceMul, Int.reduceNeg, Int.reduceLT, Int.reduceLE, Int.reduceEq, Int.reduceToNat, eq_self, true_and, and_true, true_or, or_true, false_or, or_false, if_true, if_false, not_true_eq_false, not_false_eq_true, and_self, ne_eq, hS, segmentAt_ok hS hW hf0 hf]
  (repeat' (first | apply And.intro | split)) <;> first | omega | exact hQ | (rw [b2_t (by omega)] at hQ; exact hQ) | (rw [b2_f (by omega)] at hQ; exact hQ)
end SCN
