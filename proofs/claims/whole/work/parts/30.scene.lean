/-! THE SCENE'S READING METHODS -/
section SCN
variable {zt : Nat → Nat} {g : Nat → Nat → Int} {ρ : Ri} {a : Nat}
theorem hasMouth_ok (hS : isSc ρ a) (hW : WFV (-99) (vwC g a)) {m : Int} (hm0 : -2147483648 ≤ m) (hm1 : m < 2147483648) (Q : Option AV → Sto → Prop) : WpM zt 27 [AR a, AI m] (g, ρ) Q ↔ Q (some (AI (b2 (0 ≤ m ∧ m < g a 0)))) (g, ρ) := by
  refine wpm_iff (fun Q hQ => ?_) Q
  have hM := w_M hW
  simp only [m_S_hasMouth, b_S_hasMouth_0, P_S_hasMouth_16, b_S_hasMouth_16, P_S_hasMouth_17, b_S_hasMouth_17, wp_aln0, wp_goto, wp_icge, wp_iconst, wp_iln1, wp_iret, wp_izlt, wp_nop, wp_zret, qsc_kd, qsc_k1, qsc_l1, qsc_gf1, qsc_k2, qsc_l2, qsc_gf2, qsc_k3, qsc_l3, qsc_gf3, qsc_k4, qsc_l4, qsc_gf4, qsc_k5, qsc_l5, qsc_gf6, qsc_k6, qsc_l6, qsc_gf7, qsc_k7, qsc_l7, qsc_gf9, qsc_k8, qsc_l8, qsc_gf10, qsc_gf0, qsc_pf0, qsc_gf5, qsc_pf5, qsc_gf8, qsc_pf8, List.cons_append, List.nil_append, Option.toList_some, Option.toList_none, Int.toNat_natCast, List.length_cons, List.length_nil, Int.cast_ofNat_Int, Nat.reduceAdd, Nat.reduceLeDiff, Nat.reduceLT, Nat.reduceMul, Int.reduceAdd, Int.reduceSub, Int.reduceMul, Int.reduceNeg, Int.reduceLT, Int.reduceLE, Int.reduceEq, Int.reduceToNat, eq_self, true_and, and_true, true_or, or_true, false_or, or_false, if_true, if_false, not_true_eq_false, not_false_eq_true, and_self, ne_eq, hS]
  (repeat' (first | apply And.intro | split)) <;> first | omega | exact hQ | (rw [b2_t (by omega)] at hQ; exact hQ) | (rw [b2_f (by omega)] at hQ; exact hQ)
theorem hasSegment_ok (hS : isSc ρ a) (hW : WFV (-99) (vwC g a)) {m : Int} (hm0 : -2147483648 ≤ m) (hm1 : m < 2147483648) (Q : Option AV → Sto → Prop) : WpM zt 28 [AR a, AI m] (g, ρ) Q ↔ Q (some (AI (b2 (0 ≤ m ∧ m < g a 5)))) (g, ρ) := by
  refine wpm_iff (fun Q hQ => ?_) Q
  have hM := w_G hW
  simp only [m_S_hasSegment, b_S_hasSegment_0, P_S_hasSegment_16, b_S_hasSegment_16, P_S_hasSegment_17, b_S_hasSegment_17, wp_aln0, wp_goto, wp_icge, wp_iconst, wp_iln1, wp_iret, wp_izlt, wp_nop, wp_zret, qsc_kd, qsc_k1, qsc_l1, qsc_gf1, qsc_k2, qsc_l2, qsc_gf2, qsc_k3, qsc_l3, qsc_gf3, qsc_k4, qsc_l4, qsc_gf4, qsc_k5, qsc_l5, qsc_gf6, qsc_k6, qsc_l6, qsc_gf7, qsc_k7, qsc_l7, qsc_gf9, qsc_k8, qsc_l8, qsc_gf10, qsc_gf0, qsc_pf0, qsc_gf5, qsc_pf5, qsc_gf8, qsc_pf8, List.cons_append, List.nil_append, Option.toList_some, Option.toList_none, Int.toNat_natCast, List.length_cons, List.length_nil, Int.cast_ofNat_Int, Nat.reduceAdd, Nat.reduceLeDiff, Nat.reduceLT, Nat.reduceMul, Int.reduceAdd, Int.reduceSub, Int.reduceMul, Int.reduceNeg, Int.reduceLT, Int.reduceLE, Int.reduceEq, Int.reduceToNat, eq_self, true_and, and_true, true_or, or_true, false_or, or_false, if_true, if_false, not_true_eq_false, not_false_eq_true, and_self, ne_eq, hS]
  (repeat' (first | apply And.intro | split)) <;> first | omega | exact hQ | (rw [b2_t (by omega)] at hQ; exact hQ) | (rw [b2_f (by omega)] at hQ; exact hQ)
theorem hasFrame_ok (hS : isSc ρ a) (hW : WFV (-99) (vwC g a)) {m : Int} (hm0 : -2147483648 ≤ m) (hm1 : m < 2147483648) (Q : Option AV → Sto → Prop) : WpM zt 29 [AR a, AI m] (g, ρ) Q ↔ Q (some (AI (b2 (0 ≤ m ∧ m < g a 8)))) (g, ρ) := by
  refine wpm_iff (fun Q hQ => ?_) Q
  have hM := w_F hW
  simp only [m_S_hasFrame, b_S_hasFrame_0, P_S_hasFrame_16, b_S_hasFrame_16, P_S_hasFrame_17, b_S_hasFrame_17, wp_aln0, wp_goto, wp_icge, wp_iconst, wp_iln1, wp_iret, wp_izlt, wp_nop, wp_zret, qsc_kd, qsc_k1, qsc_l1, qsc_gf1, qsc_k2, qsc_l2, qsc_gf2, qsc_k3, qsc_l3, qsc_gf3, qsc_k4, qsc_l4, qsc_gf4, qsc_k5, qsc_l5, qsc_gf6, qsc_k6, qsc_l6, qsc_gf7, qsc_k7, qsc_l7, qsc_gf9, qsc_k8, qsc_l8, qsc_gf10, qsc_gf0, qsc_pf0, qsc_gf5, qsc_pf5, qsc_gf8, qsc_pf8, List.cons_append, List.nil_append, Option.toList_some, Option.toList_none, Int.toNat_natCast, List.length_cons, List.length_nil, Int.cast_ofNat_Int, Nat.reduceAdd, Nat.reduceLeDiff, Nat.reduceLT, Nat.reduceMul, Int.reduceAdd, Int.reduceSub, Int.reduceMul, Int.reduceNeg, Int.reduceLT, Int.reduceLE, Int.reduceEq, Int.reduceToNat, eq_self, true_and, and_true, true_or, or_true, false_or, or_false, if_true, if_false, not_true_eq_false, not_false_eq_true, and_self, ne_eq, hS]
  (repeat' (first | apply And.intro | split)) <;> first | omega | exact hQ | (rw [b2_t (by omega)] at hQ; exact hQ) | (rw [b2_f (by omega)] at hQ; exact hQ)
theorem hasRoomFor_ok (hS : isSc ρ a) (hW : WFV (-99) (vwC g a)) {m : Int} (hm0 : 0 ≤ m) (hm1 : m ≤ 1000) (Q : Option AV → Sto → Prop) : WpM zt 30 [AR a, AI m] (g, ρ) Q ↔ Q (some (AI (b2 (g a 5 < 30 ∧ g a 8 + m ≤ 99)))) (g, ρ) := by
  refine wpm_iff (fun Q hQ => ?_) Q
  have hM := w_F hW
  have hG := w_G hW
  simp only [m_S_hasRoomFor, b_S_hasRoomFor_0, P_S_hasRoomFor_24, b_S_hasRoomFor_24, P_S_hasRoomFor_25, b_S_hasRoomFor_25, wp_aln0, wp_bipush, wp_goto, wp_iadd, wp_icge, wp_icgt, wp_iconst, wp_iln1, wp_iret, wp_nop, wp_zret, qsc_kd, qsc_k1, qsc_l1, qsc_gf1, qsc_k2, qsc_l2, qsc_gf2, qsc_k3, qsc_l3, qsc_gf3, qsc_k4, qsc_l4, qsc_gf4, qsc_k5, qsc_l5, qsc_gf6, qsc_k6, qsc_l6, qsc_gf7, qsc_k7, qsc_l7, qsc_gf9, qsc_k8, qsc_l8, qsc_gf10, qsc_gf0, qsc_pf0, qsc_gf5, qsc_pf5, qsc_gf8, qsc_pf8, List.cons_append, List.nil_append, Option.toList_some, Option.toList_none, Int.toNat_natCast, List.length_cons, List.length_nil, Int.cast_ofNat_Int, Nat.reduceAdd, Nat.reduceLeDiff, Nat.reduceLT, Nat.reduceMul, Int.reduceAdd, Int.reduceSub, Int.reduceMul, Int.reduceNeg, Int.reduceLT, Int.reduceLE, Int.reduceEq, Int.reduceToNat, eq_self, true_and, and_true, true_or, or_true, false_or, or_false, if_true, if_false, not_true_eq_false, not_false_eq_true, and_self, ne_eq, hS]
  (repeat' (first | apply And.intro | split)) <;> first | omega | exact hQ | (rw [b2_t (by omega)] at hQ; exact hQ) | (rw [b2_f (by omega)] at hQ; exact hQ)
theorem distanceOf_ok (hS : isSc ρ a) (hW : WFV (-99) (vwC g a)) {m o w : Int} (hm0 : 0 ≤ m) (hm1 : m < g a 0) (ho : -1000 ≤ o ∧ o ≤ 1000) (hw : -1000 ≤ w ∧ w ≤ 1000) (Q : Option AV → Sto → Prop) : WpM zt 31 [AR a, AI m, AI o, AI w] (g, ρ) Q ↔ Q (some (AI (dstV (vwC g a) m.toNat o w))) (g, ρ) := by
  refine wpm_iff (fun Q hQ => ?_) Q
  have hM := w_M hW
  have h1 := w_op hW (j := m.toNat) (by omega)
  have h2 := w_wd hW (j := m.toNat) (by omega)
  simp only [m_S_distanceOf, b_S_distanceOf_0, wp_abs, wp_aln0, wp_cs1, wp_cs2, wp_cs3, wp_cs4, wp_cs5, wp_cs6, wp_cs7, wp_iald, wp_iln1, wp_iln2, wp_iln3, wp_iret, wp_isub, wp_max, wp_min, wp_zret, qsc_kd, qsc_k1, qsc_l1, qsc_gf1, qsc_k2, qsc_l2, qsc_gf2, qsc_k3, qsc_l3, qsc_gf3, qsc_k4, qsc_l4, qsc_gf4, qsc_k5, qsc_l5, qsc_gf6, qsc_k6, qsc_l6, qsc_gf7, qsc_k7, qsc_l7, qsc_gf9, qsc_k8, qsc_l8, qsc_gf10, qsc_gf0, qsc_pf0, qsc_gf5, qsc_pf5, qsc_gf8, qsc_pf8, List.cons_append, List.nil_append, Option.toList_some, Option.toList_none, Int.toNat_natCast, List.length_cons, List.length_nil, Int.cast_ofNat_Int, Nat.reduceAdd, Nat.reduceLeDiff, Nat.reduceLT, Nat.reduceMul, Int.reduceAdd, Int.reduceSub, Int.reduceMul, Int.reduceNeg, Int.reduceLT, Int.reduceLE, Int.reduceEq, Int.reduceToNat, eq_self, true_and, and_true, true_or, or_true, false_or, or_false, if_true, if_false, not_true_eq_false, not_false_eq_true, and_self, ne_eq, hS]
  (repeat' (first | apply And.intro | split)) <;> first | omega | exact hQ | (rw [b2_t (by omega)] at hQ; exact hQ) | (rw [b2_f (by omega)] at hQ; exact hQ)
theorem dstV_b (hW : WFV (-99) (vwC g a)) {m : Nat} (hm : (m : Int) < g a 0) {o w : Int} (ho : -1000 ≤ o ∧ o ≤ 1000) (hw : -1000 ≤ w ∧ w ≤ 1000) : 0 ≤ dstV (vwC g a) m o w ∧ dstV (vwC g a) m o w ≤ 2000 := by
  have h1 := w_op hW hm
  have h2 := w_wd hW hm
  show 0 ≤ max ((g (ad a 1) m - o).natAbs : Int) ((g (ad a 2) m - w).natAbs : Int) ∧ max ((g (ad a 1) m - o).natAbs : Int) ((g (ad a 2) m - w).natAbs : Int) ≤ 2000
  omega
theorem jumpOf_ok (hS : isSc ρ a) (hW : WFV (-99) (vwC g a)) {x y : Int} (hx0 : 0 ≤ x) (hx1 : x < g a 0) (hy0 : 0 ≤ y) (hy1 : y < g a 0) (Q : Option AV → Sto → Prop) : WpM zt 32 [AR a, AI x, AI y] (g, ρ) Q ↔ Q (some (AI (jmpV (vwC g a) x.toNat y.toNat))) (g, ρ) := by
  refine wpm_iff (fun Q hQ => ?_) Q
  have hM := w_M hW
  have h1 := w_op hW (j := y.toNat) (by omega)
  have h2 := w_wd hW (j := y.toNat) (by omega)
  have e1 : -1000 ≤ g (ad a 1) y.toNat ∧ g (ad a 1) y.toNat ≤ 1000 := by omega
  have e2 : -1000 ≤ g (ad a 2) y.toNat ∧ g (ad a 2) y.toNat ≤ 1000 := by omega
  simp only [m_S_jumpOf, b_S_jumpOf_0, wp_aln0, wp_cv1, wp_cv2, wp_cv3, wp_cv4, wp_cv5, wp_cv6, wp_cv7, wp_iald, wp_iln1, wp_iln2, wp_iret, wp_zret, qsc_kd, qsc_k1, qsc_l1, qsc_gf1, qsc_k2, qsc_l2, qsc_gf2, qsc_k3, qsc_l3, qsc_gf3, qsc_k4, qsc_l4, qsc_gf4, qsc_k5, qsc_l5, qsc_gf6, qsc_k6, qsc_l6, qsc_gf7, qsc_k7, qsc_l7, qsc_gf9, qsc_k8, qsc_l8, qsc_gf10, qsc_gf0, qsc_pf0, qsc_gf5, qsc_pf5, qsc_gf8, qsc_pf8, List.cons_append, List.nil_append, Option.toList_some, Option.toList_none, Int.toNat_natCast, List.length_cons, List.length_nil, Int.cast_ofNat_Int, Nat.reduceAdd, Nat.reduceLeDiff, Nat.reduceLT, Nat.reduceMul, Int.reduceAdd, Int.reduceSub, Int.reduceMul, Int.reduceNeg, Int.reduceLT, Int.reduceLE, Int.reduceEq, Int.reduceToNat, eq_self, true_and, and_true, true_or, or_true, false_or, or_false, if_true, if_false, not_true_eq_false, not_false_eq_true, and_self, ne_eq, hS, distanceOf_ok hS hW hx0 hx1 e1 e2]
  (repeat' (first | apply And.intro | split)) <;> first | omega | exact hQ | (rw [b2_t (by omega)] at hQ; exact hQ) | (rw [b2_f (by omega)] at hQ; exact hQ)
theorem nearestOfAll_loop (hS : isSc ρ a) (hW : WFV (-99) (vwC g a)) {o w : Int} (ho : -1000 ≤ o ∧ o ≤ 1000) (hw : -1000 ≤ w ∧ w ≤ 1000) {Q : Option AV → Sto → Prop} (hQ : Q (some (AI (amin (fun m => dstV (vwC g a) m o w) (g a 0).toNat : Nat))) (g, ρ)) :
    ∀ (d m : Nat), (m : Int) + d = g a 0 → 1 ≤ m → Wp zt 33 (P 33 5) [some (AR a), some (AI o), some (AI w), some (AI (amin (fun m => dstV (vwC g a) m o w) m : Nat)), some (AI m)] [] (g, ρ) Q := by
  have hM := w_M hW
  intro d
  induction d with
  | zero =>
    intro m hm h1
    have e : (g a 0).toNat = m := by omega
    rw [e] at hQ
    simp only [m_S_nearestOfAll, b_S_nearestOfAll_0, P_S_nearestOfAll_5, b_S_nearestOfAll_5, P_S_nearestOfAll_35, b_S_nearestOfAll_35, P_S_nearestOfAll_41, b_S_nearestOfAll_41, wp_aln0, wp_cv1, wp_cv2, wp_cv3, wp_cv4, wp_cv5, wp_cv6, wp_cv7, wp_goto, wp_icge, wp_iconst, wp_il4, wp_iln1, wp_iln2, wp_iln3, wp_inc4, wp_iret, wp_is4, wp_isn3, wp_nop, wp_zret, qsc_kd, qsc_k1, qsc_l1, qsc_gf1, qsc_k2, qsc_l2, qsc_gf2, qsc_k3, qsc_l3, qsc_gf3, qsc_k4, qsc_l4, qsc_gf4, qsc_k5, qsc_l5, qsc_gf6, qsc_k6, qsc_l6, qsc_gf7, qsc_k7, qsc_l7, qsc_gf9, qsc_k8, qsc_l8, qsc_gf10, qsc_gf0, qsc_pf0, qsc_gf5, qsc_pf5, qsc_gf8, qsc_pf8, List.cons_append, List.nil_append, Option.toList_some, Option.toList_none, Int.toNat_natCast, List.length_cons, List.length_nil, Int.cast_ofNat_Int, Nat.reduceAdd, Nat.reduceLeDiff, Nat.reduceLT, Nat.reduceMul, Int.reduceAdd, Int.reduceSub, Int.reduceMul, Int.reduceNeg, Int.reduceLT, Int.reduceLE, Int.reduceEq, Int.reduceToNat, eq_self, true_and, and_true, true_or, or_true, false_or, or_false, if_true, if_false, not_true_eq_false, not_false_eq_true, and_self, ne_eq, hS]
    (repeat' (first | apply And.intro | split)) <;> first | omega | exact hQ | (rw [b2_t (by omega)] at hQ; exact hQ) | (rw [b2_f (by omega)] at hQ; exact hQ)
  | succ d ih =>
    intro m hm h1
    have hb := amin_lt (f := fun m => dstV (vwC g a) m o w) m h1
    have hb2 : ((amin (fun m => dstV (vwC g a) m o w) m : Nat) : Int) < g a 0 := by omega
    have k1 := dstV_b hW (m := m) (by omega) ho hw
    have k2 := dstV_b hW hb2 ho hw
    have i1 := ih (m + 1) (by omega) (by omega)
    simp only [amin] at i1
    rw [P_S_nearestOfAll_5]
    simp only [m_S_nearestOfAll, b_S_nearestOfAll_0, P_S_nearestOfAll_35, b_S_nearestOfAll_35, P_S_nearestOfAll_41, b_S_nearestOfAll_41, wp_aln0, wp_cv1, wp_cv2, wp_cv3, wp_cv4, wp_cv5, wp_cv6, wp_cv7, wp_goto, wp_icge, wp_iconst, wp_il4, wp_iln1, wp_iln2, wp_iln3, wp_inc4, wp_iret, wp_is4, wp_isn3, wp_nop, wp_zret, qsc_kd, qsc_k1, qsc_l1, qsc_gf1, qsc_k2, qsc_l2, qsc_gf2, qsc_k3, qsc_l3, qsc_gf3, qsc_k4, qsc_l4, qsc_gf4, qsc_k5, qsc_l5, qsc_gf6, qsc_k6, qsc_l6, qsc_gf7, qsc_k7, qsc_l7, qsc_gf9, qsc_k8, qsc_l8, qsc_gf10, qsc_gf0, qsc_pf0, qsc_gf5, qsc_pf5, qsc_gf8, qsc_pf8, List.cons_append, List.nil_append, Option.toList_some, Option.toList_none, Int.toNat_natCast, List.length_cons, List.length_nil, Int.cast_ofNat_Int, Nat.reduceAdd, Nat.reduceLeDiff, Nat.reduceLT, Nat.reduceMul, Int.reduceAdd, Int.reduceSub, Int.reduceMul, Int.reduceNeg, Int.reduceLT, Int.reduceLE, Int.reduceEq, Int.reduceToNat, eq_self, true_and, and_true, true_or, or_true, false_or, or_false, if_true, if_false, not_true_eq_false, not_false_eq_true, and_self, ne_eq, b_S_nearestOfAll_5, hS, distanceOf_ok hS hW (show (0 : Int) ≤ (m : Int) by omega) (by omega) ho hw, distanceOf_ok hS hW (show (0 : Int) ≤ ((amin (fun m => dstV (vwC g a) m o w) m : Nat) : Int) by omega) hb2 ho hw]
    refine ⟨by omega, ?_⟩
    rw [if_neg (by omega)]
    refine ⟨by omega, ?_⟩
    by_cases hc : dstV (vwC g a) m o w < dstV (vwC g a) (amin (fun m => dstV (vwC g a) m o w) m) o w
    · rw [if_pos hc] at i1
      rw [if_neg (by omega)]
      exact i1
    · rw [if_neg hc] at i1
      rw [if_pos (by omega)]
      exact i1
end SCN
