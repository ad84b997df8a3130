/-! THE REFERENCE: its page as a view, its reading methods -/
def smM (r : Nat → Int) : Nat → Int
  | 0 => 0
  | s + 1 => smM r s + r (60 + 2 * s)
def vwM (r : Nat → Int) : Vw := fun k j => match k with
  | 0 => r 0
  | 1 => if j < 8 then r (1 + 2 * j) else 0
  | 2 => if j < 8 then r (2 + 2 * j) else 0
  | 3 => if j < 36 then r (17 + j) else 0
  | 4 => if j < 5 then r (53 + j) else 0
  | 5 => r 58
  | 6 => if j < 30 then r (59 + 2 * j) else 0
  | 7 => if j < 30 then r (60 + 2 * j) else 0
  | 8 => smM r (r 58).toNat
  | 9 => if j < 99 then r (119 + j) else 0
  | 10 => if j < 99 then r (218 + j) else 0
  | _ => 0
theorem nn_1 {x : Int} : nn (-1) x = x := by
  unfold nn
  split <;> omega
section MVW
variable {r : Nat → Int} {U : Vw}
theorem m_0 (h : LR (-1) (vwM r) U) : r 0 = U 0 0 := h.l0
theorem m_5 (h : LR (-1) (vwM r) U) : r 58 = U 5 0 := h.l5
theorem m_op (h : LR (-1) (vwM r) U) (hU : WFV (-1) U) {m : Int} (h0 : 0 ≤ m) (h1 : m < U 0 0) : r (1 + 2 * m).toNat = U 1 m.toNat := by
  have b0 := hU.1
  have := h.l1 (j := m.toNat) (by omega)
  rw [← this]
  show _ = if m.toNat < 8 then r (1 + 2 * m.toNat) else 0
  rw [if_pos (by omega)]
  congr 1
  omega
theorem m_wd (h : LR (-1) (vwM r) U) (hU : WFV (-1) U) {m : Int} (h0 : 0 ≤ m) (h1 : m < U 0 0) : r (1 + 2 * m + 1).toNat = U 2 m.toNat := by
  have b0 := hU.1
  have := h.l2 (j := m.toNat) (by omega)
  rw [← this]
  show _ = if m.toNat < 8 then r (2 + 2 * m.toNat) else 0
  rw [if_pos (by omega)]
  congr 1
  omega
theorem m_sn (h : LR (-1) (vwM r) U) {j : Nat} (hj : j < 36) : r (17 + j) = U 3 j := by
  rw [← h.l3 hj]
  exact (if_pos hj).symm
theorem m_nm (h : LR (-1) (vwM r) U) {j : Nat} (hj : j < 5) : r (53 + j) = U 4 j := by
  rw [← h.l4 hj]
  exact (if_pos hj).symm
theorem m_kd (h : LR (-1) (vwM r) U) (hU : WFV (-1) U) {s : Int} (h0 : 0 ≤ s) (h1 : s < U 5 0) : r (59 + 2 * s).toNat = U 6 s.toNat := by
  have b5 := hU.2.2.2.2.1
  have := h.l6 (j := s.toNat) (by omega)
  rw [← this]
  show _ = if s.toNat < 30 then r (59 + 2 * s.toNat) else 0
  rw [if_pos (by omega)]
  congr 1
  omega
theorem m_ln (h : LR (-1) (vwM r) U) (hU : WFV (-1) U) {s : Int} (h0 : 0 ≤ s) (h1 : s < U 5 0) : r (59 + 2 * s + 1).toNat = U 7 s.toNat := by
  have b5 := hU.2.2.2.2.1
  have := h.l7 (j := s.toNat) (by omega)
  rw [← this]
  show _ = if s.toNat < 30 then r (60 + 2 * s.toNat) else 0
  rw [if_pos (by omega)]
  congr 1
  omega
theorem m_pn (h : LR (-1) (vwM r) U) (hU : WFV (-1) U) {f : Int} (h0 : 0 ≤ f) (h1 : f < U 8 0) : r (119 + f).toNat = U 9 f.toNat := by
  have b8 := hU.2.2.2.2.2.2.1
  have := h.l9 (j := f.toNat) (by omega)
  rw [nn_1] at this
  rw [← this]
  show _ = if f.toNat < 99 then r (119 + f.toNat) else 0
  rw [if_pos (by omega)]
  congr 1
  omega
theorem m_dr (h : LR (-1) (vwM r) U) (hU : WFV (-1) U) {f : Int} (h0 : 0 ≤ f) (h1 : f < U 8 0) : r (218 + f).toNat = U 10 f.toNat := by
  have b8 := hU.2.2.2.2.2.2.1
  have := h.l10 (j := f.toNat) (by omega)
  rw [nn_1] at this
  rw [← this]
  show _ = if f.toNat < 99 then r (218 + f.toNat) else 0
  rw [if_pos (by omega)]
  congr 1
  omega
theorem m_sm (h : LR (-1) (vwM r) U) (hU : WFV (-1) U) : smM r (U 5 0).toNat = U 8 0 := by
  rw [← m_5 h]
  exact h.l8
end MVW
section MRD
variable {zt : Nat → Nat} {g : Nat → Nat → Int} {ρ : Ri} {a b : Nat} {U : Vw}
theorem in_ok {v lo hi : Int} (hv : i32 v) (hlo : i32 lo) (hhi : i32 hi) (Q : Option AV → Sto → Prop) : WpM zt 87 [AI v, AI lo, AI hi] (g, ρ) Q ↔ Q (some (AI (b2 (lo ≤ v ∧ v ≤ hi)))) (g, ρ) := by
  refine wpm_iff (fun Q hQ => ?_) Q
  unfold i32 at hv hlo hhi
  simp only [m_M_in, b_M_in_0, P_M_in_14, b_M_in_14, P_M_in_15, b_M_in_15, wp_goto, wp_icgt, wp_iclt, wp_iconst, wp_iln0, wp_iln1, wp_iln2, wp_iret, wp_nop, wp_zret, wrI_row, cpI_row, row_s, row_n, row_ss, row_sw, upd_s, upd_n, ad_inj, ad_z, ad_z2, Nat.reduceEqDiff, reduceCtorEq, List.cons_append, List.nil_append, Option.toList_some, Option.toList_none, Int.toNat_natCast, List.length_cons, List.length_nil, Int.cast_ofNat_Int, Nat.reduceAdd, Nat.reduceLeDiff, Nat.reduceLT, Nat.reduceMul, Int.reduceAdd, Int.reduceSub, Int.reduceMul, Int.reduceNeg, Int.reduceLT, Int.reduceLE, Int.reduceEq, Int.reduceToNat, eq_self, true_and, and_true, true_or, or_true, false_or, or_false, if_true, if_false, not_true_eq_false, not_false_eq_true, and_self, ne_eq]
  (repeat' (first | apply And.intro | split)) <;> first | omega | exact hQ | (rw [b2_t (by omega)] at hQ; exact hQ) | (rw [b2_f (by omega)] at hQ; exact hQ)
theorem in_t {v lo hi : Int} (hlo : -1000 ≤ lo) (hhi : hi ≤ 99999) (hc : lo ≤ v ∧ v ≤ hi) (Q : Option AV → Sto → Prop) : WpM zt 87 [AI v, AI lo, AI hi] (g, ρ) Q ↔ Q (some (AI 1)) (g, ρ) := by
  rw [in_ok (by unfold i32; omega) (by unfold i32; omega) (by unfold i32; omega), b2_t hc]
theorem in_f {v lo hi : Int} (hv : i32 v) (hlo : -1000 ≤ lo ∧ lo ≤ 99999) (hhi : -1000 ≤ hi ∧ hi ≤ 99999) (hc : ¬ (lo ≤ v ∧ v ≤ hi)) (Q : Option AV → Sto → Prop) : WpM zt 87 [AI v, AI lo, AI hi] (g, ρ) Q ↔ Q (some (AI 0)) (g, ρ) := by
  rw [in_ok hv (by unfold i32; omega) (by unfold i32; omega), b2_f hc]
theorem apart_ok {x y : Int} (hx : -1000000 ≤ x ∧ x ≤ 1000000) (hy : -1000000 ≤ y ∧ y ≤ 1000000) (Q : Option AV → Sto → Prop) : WpM zt 88 [AI x, AI y] (g, ρ) Q ↔ Q (some (AI ((x - y).natAbs : Int))) (g, ρ) := by
  refine wpm_iff (fun Q hQ => ?_) Q
  by_cases c : x < y
  · rw [show ((x - y).natAbs : Int) = y - x by omega] at hQ
    simp only [m_M_apart, b_M_apart_0, P_M_apart_11, b_M_apart_11, P_M_apart_14, b_M_apart_14, wp_goto, wp_icge, wp_iln0, wp_iln1, wp_iret, wp_isub, wp_nop, wp_zret, wrI_row, cpI_row, row_s, row_n, row_ss, row_sw, upd_s, upd_n, ad_inj, ad_z, ad_z2, Nat.reduceEqDiff, reduceCtorEq, List.cons_append, List.nil_append, Option.toList_some, Option.toList_none, Int.toNat_natCast, List.length_cons, List.length_nil, Int.cast_ofNat_Int, Nat.reduceAdd, Nat.reduceLeDiff, Nat.reduceLT, Nat.reduceMul, Int.reduceAdd, Int.reduceSub, Int.reduceMul, Int.reduceNeg, Int.reduceLT, Int.reduceLE, Int.reduceEq, Int.reduceToNat, eq_self, true_and, and_true, true_or, or_true, false_or, or_false, if_true, if_false, not_true_eq_false, not_false_eq_true, and_self, ne_eq]
    (repeat' (first | apply And.intro | split)) <;> first | omega | exact hQ | (rw [b2_t (by omega)] at hQ; exact hQ) | (rw [b2_f (by omega)] at hQ; exact hQ)
  · rw [show ((x - y).natAbs : Int) = x - y by omega] at hQ
    simp only [m_M_apart, b_M_apart_0, P_M_apart_11, b_M_apart_11, P_M_apart_14, b_M_apart_14, wp_goto, wp_icge, wp_iln0, wp_iln1, wp_iret, wp_isub, wp_nop, wp_zret, wrI_row, cpI_row, row_s, row_n, row_ss, row_sw, upd_s, upd_n, ad_inj, ad_z, ad_z2, Nat.reduceEqDiff, reduceCtorEq, List.cons_append, List.nil_append, Option.toList_some, Option.toList_none, Int.toNat_natCast, List.length_cons, List.length_nil, Int.cast_ofNat_Int, Nat.reduceAdd, Nat.reduceLeDiff, Nat.reduceLT, Nat.reduceMul, Int.reduceAdd, Int.reduceSub, Int.reduceMul, Int.reduceNeg, Int.reduceLT, Int.reduceLE, Int.reduceEq, Int.reduceToNat, eq_self, true_and, and_true, true_or, or_true, false_or, or_false, if_true, if_false, not_true_eq_false, not_false_eq_true, and_self, ne_eq]
    (repeat' (first | apply And.intro | split)) <;> first | omega | exact hQ | (rw [b2_t (by omega)] at hQ; exact hQ) | (rw [b2_f (by omega)] at hQ; exact hQ)
theorem greater_ok {x y : Int} (hx : -10000000 ≤ x ∧ x ≤ 10000000) (hy : -10000000 ≤ y ∧ y ≤ 10000000) (Q : Option AV → Sto → Prop) : WpM zt 89 [AI x, AI y] (g, ρ) Q ↔ Q (some (AI (max x y))) (g, ρ) := by
  refine wpm_iff (fun Q hQ => ?_) Q
  by_cases c : y < x
  · rw [show max x y = x by omega] at hQ
    simp only [m_M_greater, b_M_greater_0, P_M_greater_9, b_M_greater_9, P_M_greater_10, b_M_greater_10, wp_goto, wp_icle, wp_iln0, wp_iln1, wp_iret, wp_nop, wp_zret, wrI_row, cpI_row, row_s, row_n, row_ss, row_sw, upd_s, upd_n, ad_inj, ad_z, ad_z2, Nat.reduceEqDiff, reduceCtorEq, List.cons_append, List.nil_append, Option.toList_some, Option.toList_none, Int.toNat_natCast, List.length_cons, List.length_nil, Int.cast_ofNat_Int, Nat.reduceAdd, Nat.reduceLeDiff, Nat.reduceLT, Nat.reduceMul, Int.reduceAdd, Int.reduceSub, Int.reduceMul, Int.reduceNeg, Int.reduceLT, Int.reduceLE, Int.reduceEq, Int.reduceToNat, eq_self, true_and, and_true, true_or, or_true, false_or, or_false, if_true, if_false, not_true_eq_false, not_false_eq_true, and_self, ne_eq]
    (repeat' (first | apply And.intro | split)) <;> first | omega | exact hQ | (rw [b2_t (by omega)] at hQ; exact hQ) | (rw [b2_f (by omega)] at hQ; exact hQ)
  · rw [show max x y = y by omega] at hQ
    simp only [m_M_greater, b_M_greater_0, P_M_greater_9, b_M_greater_9, P_M_greater_10, b_M_greater_10, wp_goto, wp_icle, wp_iln0, wp_iln1, wp_iret, wp_nop, wp_zret, wrI_row, cpI_row, row_s, row_n, row_ss, row_sw, upd_s, upd_n, ad_inj, ad_z, ad_z2, Nat.reduceEqDiff, reduceCtorEq, List.cons_append, List.nil_append, Option.toList_some, Option.toList_none, Int.toNat_natCast, List.length_cons, List.length_nil, Int.cast_ofNat_Int, Nat.reduceAdd, Nat.reduceLeDiff, Nat.reduceLT, Nat.reduceMul, Int.reduceAdd, Int.reduceSub, Int.reduceMul, Int.reduceNeg, Int.reduceLT, Int.reduceLE, Int.reduceEq, Int.reduceToNat, eq_self, true_and, and_true, true_or, or_true, false_or, or_false, if_true, if_false, not_true_eq_false, not_false_eq_true, and_self, ne_eq]
    (repeat' (first | apply And.intro | split)) <;> first | omega | exact hQ | (rw [b2_t (by omega)] at hQ; exact hQ) | (rw [b2_f (by omega)] at hQ; exact hQ)
theorem isSize_ok {v : Int} (hv : i32 v) (Q : Option AV → Sto → Prop) : WpM zt 104 [AI v] (g, ρ) Q ↔ Q (some (AI (b2 (0 ≤ v ∧ v ≤ 9)))) (g, ρ) := by
  refine wpm_iff (fun Q hQ => ?_) Q
  have ho := fun Q => in_ok (zt := zt) (g := g) (ρ := ρ) (lo := 0) (hi := 9) hv (by unfold i32; omega) (by unfold i32; omega) Q
  simp only [m_M_isSize, b_M_isSize_0, wp_abs, wp_bipush, wp_copy, wp_cs1, wp_cs2, wp_cs3, wp_cs4, wp_cs5, wp_cs6, wp_cs7, wp_iconst, wp_iln0, wp_iret, wp_max, wp_min, wp_zret, wrI_row, cpI_row, row_s, row_n, row_ss, row_sw, upd_s, upd_n, ad_inj, ad_z, ad_z2, Nat.reduceEqDiff, reduceCtorEq, List.cons_append, List.nil_append, Option.toList_some, Option.toList_none, Int.toNat_natCast, List.length_cons, List.length_nil, Int.cast_ofNat_Int, Nat.reduceAdd, Nat.reduceLeDiff, Nat.reduceLT, Nat.reduceMul, Int.reduceAdd, Int.reduceSub, Int.reduceMul, Int.reduceNeg, Int.reduceLT, Int.reduceLE, Int.reduceEq, Int.reduceToNat, eq_self, true_and, and_true, true_or, or_true, false_or, or_false, if_true, if_false, not_true_eq_false, not_false_eq_true, and_self, ne_eq, ho]
  refine ⟨?_, hQ⟩
  unfold b2
  split <;> omega
theorem orNone_ok {v : Int} (hv : i32 v) (Q : Option AV → Sto → Prop) : WpM zt 151 [AI v] (g, ρ) Q ↔ Q (some (AI (if v < 0 then -99 else v))) (g, ρ) := by
  refine wpm_iff (fun Q hQ => ?_) Q
  unfold i32 at hv
  by_cases c : v < 0
  · rw [if_pos c] at hQ
    simp only [m_M_orNone, b_M_orNone_0, P_M_orNone_9, b_M_orNone_9, P_M_orNone_10, b_M_orNone_10, wp_bipush, wp_goto, wp_iln0, wp_iret, wp_izge, wp_nop, wp_zret, wrI_row, cpI_row, row_s, row_n, row_ss, row_sw, upd_s, upd_n, ad_inj, ad_z, ad_z2, Nat.reduceEqDiff, reduceCtorEq, List.cons_append, List.nil_append, Option.toList_some, Option.toList_none, Int.toNat_natCast, List.length_cons, List.length_nil, Int.cast_ofNat_Int, Nat.reduceAdd, Nat.reduceLeDiff, Nat.reduceLT, Nat.reduceMul, Int.reduceAdd, Int.reduceSub, Int.reduceMul, Int.reduceNeg, Int.reduceLT, Int.reduceLE, Int.reduceEq, Int.reduceToNat, eq_self, true_and, and_true, true_or, or_true, false_or, or_false, if_true, if_false, not_true_eq_false, not_false_eq_true, and_self, ne_eq]
    (repeat' (first | apply And.intro | split)) <;> first | omega | exact hQ | (rw [b2_t (by omega)] at hQ; exact hQ) | (rw [b2_f (by omega)] at hQ; exact hQ)
  · rw [if_neg c] at hQ
    simp only [m_M_orNone, b_M_orNone_0, P_M_orNone_9, b_M_orNone_9, P_M_orNone_10, b_M_orNone_10, wp_bipush, wp_goto, wp_iln0, wp_iret, wp_izge, wp_nop, wp_zret, wrI_row, cpI_row, row_s, row_n, row_ss, row_sw, upd_s, upd_n, ad_inj, ad_z, ad_z2, Nat.reduceEqDiff, reduceCtorEq, List.cons_append, List.nil_append, Option.toList_some, Option.toList_none, Int.toNat_natCast, List.length_cons, List.length_nil, Int.cast_ofNat_Int, Nat.reduceAdd, Nat.reduceLeDiff, Nat.reduceLT, Nat.reduceMul, Int.reduceAdd, Int.reduceSub, Int.reduceMul, Int.reduceNeg, Int.reduceLT, Int.reduceLE, Int.reduceEq, Int.reduceToNat, eq_self, true_and, and_true, true_or, or_true, false_or, or_false, if_true, if_false, not_true_eq_false, not_false_eq_true, and_self, ne_eq]
    (repeat' (first | apply And.intro | split)) <;> first | omega | exact hQ | (rw [b2_t (by omega)] at hQ; exact hQ) | (rw [b2_f (by omega)] at hQ; exact hQ)
theorem cellOf_ok {f m h : Int} (Q : Option AV → Sto → Prop) : WpM zt 139 [AI f, AI m, AI h] (g, ρ) Q ↔ Q (some (AI (24 * f + 3 * m + h - 1))) (g, ρ) := by
  simp only [m_M_cellOf, b_M_cellOf_0, wp_bipush, wp_iadd, wp_iconst, wp_iln0, wp_iln1, wp_iln2, wp_imul, wp_iret, wp_isub, wp_zret, wrI_row, cpI_row, row_s, row_n, row_ss, row_sw, upd_s, upd_n, ad_inj, ad_z, ad_z2, Nat.reduceEqDiff, reduceCtorEq, List.cons_append, List.nil_append, Option.toList_some, Option.toList_none, Int.toNat_natCast, List.length_cons, List.length_nil, Int.cast_ofNat_Int, Nat.reduceAdd, Nat.reduceLeDiff, Nat.reduceLT, Nat.reduceMul, Int.reduceAdd, Int.reduceSub, Int.reduceMul, Int.reduceNeg, Int.reduceLT, Int.reduceLE, Int.reduceEq, Int.reduceToNat, eq_self, true_and, and_true, true_or, or_true, false_or, or_false, if_true, if_false, not_true_eq_false, not_false_eq_true, and_self, ne_eq]
theorem isMouth_ok (hM : isMd ρ a) (hR : LR (-1) (vwM (g (ad a 1))) U) (hU : WFV (-1) U) {m : Int} (hm : i32 m) (Q : Option AV → Sto → Prop) : WpM zt 92 [AR a, AI m] (g, ρ) Q ↔ Q (some (AI (b2 (0 ≤ m ∧ m < U 0 0)))) (g, ρ) := by
  refine wpm_iff (fun Q hQ => ?_) Q
  have b0 := hU.1
  have e0 := m_0 hR
  have ho := fun Q => in_ok (zt := zt) (g := g) (ρ := ρ) (lo := 0) (hi := U 0 0 - 1) hm (by unfold i32; omega) (by unfold i32; omega) Q
  simp only [m_M_isMouth, b_M_isMouth_0, wp_abs, wp_aln0, wp_copy, wp_cs1, wp_cs2, wp_cs3, wp_cs4, wp_cs5, wp_cs6, wp_cs7, wp_iald, wp_iconst, wp_iln1, wp_iret, wp_isub, wp_max, wp_min, wp_zret, qmd_kd, qmd_k1, qmd_l1, qmd_gf0, qmd_k2, qmd_l2, qmd_gf1, qmd_k3, qmd_l3, qmd_gf2, qmd_k4, qmd_l4, qmd_gf4, qmd_k5, qmd_l5, qmd_gf6, qmd_k6, qmd_l6, qmd_gf7, qmd_k7, qmd_l7, qmd_gf10, qmd_k8, qmd_l8, qmd_gf11, qmd_k9, qmd_l9, qmd_gf12, qmd_gf3, qmd_pf3, qmd_gf5, qmd_pf5, qmd_gf8, qmd_pf8, qmd_gf9, qmd_pf9, wrI_row, cpI_row, row_s, row_n, row_ss, row_sw, upd_s, upd_n, ad_inj, ad_z, ad_z2, Nat.reduceEqDiff, reduceCtorEq, List.cons_append, List.nil_append, Option.toList_some, Option.toList_none, Int.toNat_natCast, List.length_cons, List.length_nil, Int.cast_ofNat_Int, Nat.reduceAdd, Nat.reduceLeDiff, Nat.reduceLT, Nat.reduceMul, Int.reduceAdd, Int.reduceSub, Int.reduceMul, Int.reduceNeg, Int.reduceLT, Int.reduceLE, Int.reduceEq, Int.reduceToNat, eq_self, true_and, and_true, true_or, or_true, false_or, or_false, if_true, if_false, not_true_eq_false, not_false_eq_true, and_self, ne_eq, hM, e0, ho]
  by_cases c : 0 ≤ m ∧ m < U 0 0
  · rw [b2_t c] at hQ
    rw [b2_t (by omega)]
    (repeat' (first | apply And.intro | split)) <;> first | omega | exact hQ
  · rw [b2_f c] at hQ
    rw [b2_f (by omega)]
    (repeat' (first | apply And.intro | split)) <;> first | omega | exact hQ
theorem isSegment_ok (hM : isMd ρ a) (hR : LR (-1) (vwM (g (ad a 1))) U) (hU : WFV (-1) U) {m : Int} (hm : i32 m) (Q : Option AV → Sto → Prop) : WpM zt 93 [AR a, AI m] (g, ρ) Q ↔ Q (some (AI (b2 (0 ≤ m ∧ m < U 5 0)))) (g, ρ) := by
  refine wpm_iff (fun Q hQ => ?_) Q
  have b5 := hU.2.2.2.2.1
  have e5 := m_5 hR
  have ho := fun Q => in_ok (zt := zt) (g := g) (ρ := ρ) (lo := 0) (hi := U 5 0 - 1) hm (by unfold i32; omega) (by unfold i32; omega) Q
  simp only [m_M_isSegment, b_M_isSegment_0, wp_abs, wp_aln0, wp_bipush, wp_copy, wp_cs1, wp_cs2, wp_cs3, wp_cs4, wp_cs5, wp_cs6, wp_cs7, wp_iald, wp_iconst, wp_iln1, wp_iret, wp_isub, wp_max, wp_min, wp_zret, qmd_kd, qmd_k1, qmd_l1, qmd_gf0, qmd_k2, qmd_l2, qmd_gf1, qmd_k3, qmd_l3, qmd_gf2, qmd_k4, qmd_l4, qmd_gf4, qmd_k5, qmd_l5, qmd_gf6, qmd_k6, qmd_l6, qmd_gf7, qmd_k7, qmd_l7, qmd_gf10, qmd_k8, qmd_l8, qmd_gf11, qmd_k9, qmd_l9, qmd_gf12, qmd_gf3, qmd_pf3, qmd_gf5, qmd_pf5, qmd_gf8, qmd_pf8, qmd_gf9, qmd_pf9, wrI_row, cpI_row, row_s, row_n, row_ss, row_sw, upd_s, upd_n, ad_inj, ad_z, ad_z2, Nat.reduceEqDiff, reduceCtorEq, List.cons_append, List.nil_append, Option.toList_some, Option.toList_none, Int.toNat_natCast, List.length_cons, List.length_nil, Int.cast_ofNat_Int, Nat.reduceAdd, Nat.reduceLeDiff, Nat.reduceLT, Nat.reduceMul, Int.reduceAdd, Int.reduceSub, Int.reduceMul, Int.reduceNeg, Int.reduceLT, Int.reduceLE, Int.reduceEq, Int.reduceToNat, eq_self, true_and, and_true, true_or, or_true, false_or, or_false, if_true, if_false, not_true_eq_false, not_false_eq_true, and_self, ne_eq, hM, e5, ho]
  by_cases c : 0 ≤ m ∧ m < U 5 0
  · rw [b2_t c] at hQ
    rw [b2_t (by omega)]
    (repeat' (first | apply And.intro | split)) <;> first | omega | exact hQ
  · rw [b2_f c] at hQ
    rw [b2_f (by omega)]
    (repeat' (first | apply And.intro | split)) <;> first | omega | exact hQ
theorem opening_ok (hM : isMd ρ a) (hR : LR (-1) (vwM (g (ad a 1))) U) (hU : WFV (-1) U) {m : Int} (h0 : 0 ≤ m) (h1 : m < U 0 0) (Q : Option AV → Sto → Prop) : WpM zt 94 [AR a, AI m] (g, ρ) Q ↔ Q (some (AI (U 1 m.toNat))) (g, ρ) := by
  refine wpm_iff (fun Q hQ => ?_) Q
  have b0 := hU.1
  have e1 := m_op hR hU h0 h1
  simp only [m_M_opening, b_M_opening_0, wp_aln0, wp_iadd, wp_iald, wp_iconst, wp_iln1, wp_imul, wp_iret, wp_zret, qmd_kd, qmd_k1, qmd_l1, qmd_gf0, qmd_k2, qmd_l2, qmd_gf1, qmd_k3, qmd_l3, qmd_gf2, qmd_k4, qmd_l4, qmd_gf4, qmd_k5, qmd_l5, qmd_gf6, qmd_k6, qmd_l6, qmd_gf7, qmd_k7, qmd_l7, qmd_gf10, qmd_k8, qmd_l8, qmd_gf11, qmd_k9, qmd_l9, qmd_gf12, qmd_gf3, qmd_pf3, qmd_gf5, qmd_pf5, qmd_gf8, qmd_pf8, qmd_gf9, qmd_pf9, wrI_row, cpI_row, row_s, row_n, row_ss, row_sw, upd_s, upd_n, ad_inj, ad_z, ad_z2, Nat.reduceEqDiff, reduceCtorEq, List.cons_append, List.nil_append, Option.toList_some, Option.toList_none, Int.toNat_natCast, List.length_cons, List.length_nil, Int.cast_ofNat_Int, Nat.reduceAdd, Nat.reduceLeDiff, Nat.reduceLT, Nat.reduceMul, Int.reduceAdd, Int.reduceSub, Int.reduceMul, Int.reduceNeg, Int.reduceLT, Int.reduceLE, Int.reduceEq, Int.reduceToNat, eq_self, true_and, and_true, true_or, or_true, false_or, or_false, if_true, if_false, not_true_eq_false, not_false_eq_true, and_self, ne_eq, hM, e1]
  (repeat' (first | apply And.intro | split)) <;> first | omega | exact hQ
theorem width_ok (hM : isMd ρ a) (hR : LR (-1) (vwM (g (ad a 1))) U) (hU : WFV (-1) U) {m : Int} (h0 : 0 ≤ m) (h1 : m < U 0 0) (Q : Option AV → Sto → Prop) : WpM zt 95 [AR a, AI m] (g, ρ) Q ↔ Q (some (AI (U 2 m.toNat))) (g, ρ) := by
  refine wpm_iff (fun Q hQ => ?_) Q
  have b0 := hU.1
  have e1 := m_wd hR hU h0 h1
  simp only [m_M_width, b_M_width_0, wp_aln0, wp_iadd, wp_iald, wp_iconst, wp_iln1, wp_imul, wp_iret, wp_zret, qmd_kd, qmd_k1, qmd_l1, qmd_gf0, qmd_k2, qmd_l2, qmd_gf1, qmd_k3, qmd_l3, qmd_gf2, qmd_k4, qmd_l4, qmd_gf4, qmd_k5, qmd_l5, qmd_gf6, qmd_k6, qmd_l6, qmd_gf7, qmd_k7, qmd_l7, qmd_gf10, qmd_k8, qmd_l8, qmd_gf11, qmd_k9, qmd_l9, qmd_gf12, qmd_gf3, qmd_pf3, qmd_gf5, qmd_pf5, qmd_gf8, qmd_pf8, qmd_gf9, qmd_pf9, wrI_row, cpI_row, row_s, row_n, row_ss, row_sw, upd_s, upd_n, ad_inj, ad_z, ad_z2, Nat.reduceEqDiff, reduceCtorEq, List.cons_append, List.nil_append, Option.toList_some, Option.toList_none, Int.toNat_natCast, List.length_cons, List.length_nil, Int.cast_ofNat_Int, Nat.reduceAdd, Nat.reduceLeDiff, Nat.reduceLT, Nat.reduceMul, Int.reduceAdd, Int.reduceSub, Int.reduceMul, Int.reduceNeg, Int.reduceLT, Int.reduceLE, Int.reduceEq, Int.reduceToNat, eq_self, true_and, and_true, true_or, or_true, false_or, or_false, if_true, if_false, not_true_eq_false, not_false_eq_true, and_self, ne_eq, hM, e1]
  (repeat' (first | apply And.intro | split)) <;> first | omega | exact hQ
theorem farBetween_ok (hM : isMd ρ a) (hR : LR (-1) (vwM (g (ad a 1))) U) (hU : WFV (-1) U) {x y : Int} (h0 : 0 ≤ x) (h1 : x < U 0 0) (h2 : 0 ≤ y) (h3 : y < U 0 0) (Q : Option AV → Sto → Prop) : WpM zt 96 [AR a, AI x, AI y] (g, ρ) Q ↔ Q (some (AI (jmpV U x.toNat y.toNat))) (g, ρ) := by
  refine wpm_iff (fun Q hQ => ?_) Q
  have bx := hU.2.1 x.toNat (by omega)
  have by' := hU.2.1 y.toNat (by omega)
  have o1 := opening_ok (zt := zt) hM hR hU h0 h1
  have o2 := opening_ok (zt := zt) hM hR hU h2 h3
  have w1 := width_ok (zt := zt) hM hR hU h0 h1
  have w2 := width_ok (zt := zt) hM hR hU h2 h3
  have a1 := fun Q => apart_ok (zt := zt) (g := g) (ρ := ρ) (x := U 1 x.toNat) (y := U 1 y.toNat) (by omega) (by omega) Q
  have a2 := fun Q => apart_ok (zt := zt) (g := g) (ρ := ρ) (x := U 2 x.toNat) (y := U 2 y.toNat) (by omega) (by omega) Q
  have g1 := fun Q => greater_ok (zt := zt) (g := g) (ρ := ρ) (x := ((U 1 x.toNat - U 1 y.toNat).natAbs : Int)) (y := ((U 2 x.toNat - U 2 y.toNat).natAbs : Int)) (by omega) (by omega) Q
  simp only [m_M_farBetween, b_M_farBetween_0, wp_abs, wp_aln0, wp_copy, wp_cs1, wp_cs2, wp_cs3, wp_cs4, wp_cs5, wp_cs6, wp_cs7, wp_cv1, wp_cv2, wp_cv3, wp_cv4, wp_cv5, wp_cv6, wp_cv7, wp_iln1, wp_iln2, wp_iret, wp_max, wp_min, wp_zret, qmd_kd, qmd_k1, qmd_l1, qmd_gf0, qmd_k2, qmd_l2, qmd_gf1, qmd_k3, qmd_l3, qmd_gf2, qmd_k4, qmd_l4, qmd_gf4, qmd_k5, qmd_l5, qmd_gf6, qmd_k6, qmd_l6, qmd_gf7, qmd_k7, qmd_l7, qmd_gf10, qmd_k8, qmd_l8, qmd_gf11, qmd_k9, qmd_l9, qmd_gf12, qmd_gf3, qmd_pf3, qmd_gf5, qmd_pf5, qmd_gf8, qmd_pf8, qmd_gf9, qmd_pf9, wrI_row, cpI_row, row_s, row_n, row_ss, row_sw, upd_s, upd_n, ad_inj, ad_z, ad_z2, Nat.reduceEqDiff, reduceCtorEq, List.cons_append, List.nil_append, Option.toList_some, Option.toList_none, Int.toNat_natCast, List.length_cons, List.length_nil, Int.cast_ofNat_Int, Nat.reduceAdd, Nat.reduceLeDiff, Nat.reduceLT, Nat.reduceMul, Int.reduceAdd, Int.reduceSub, Int.reduceMul, Int.reduceNeg, Int.reduceLT, Int.reduceLE, Int.reduceEq, Int.reduceToNat, eq_self, true_and, and_true, true_or, or_true, false_or, or_false, if_true, if_false, not_true_eq_false, not_false_eq_true, and_self, ne_eq, hM, o1, o2, w1, w2, a1, a2, g1]
  exact hQ
theorem kindOf_okM (hM : isMd ρ a) (hR : LR (-1) (vwM (g (ad a 1))) U) (hU : WFV (-1) U) {s : Int} (h0 : 0 ≤ s) (h1 : s < U 5 0) (Q : Option AV → Sto → Prop) : WpM zt 97 [AR a, AI s] (g, ρ) Q ↔ Q (some (AI (U 6 s.toNat))) (g, ρ) := by
  refine wpm_iff (fun Q hQ => ?_) Q
  have b5 := hU.2.2.2.2.1
  have e1 := m_kd hR hU h0 h1
  simp only [m_M_kindOf, b_M_kindOf_0, wp_aln0, wp_bipush, wp_iadd, wp_iald, wp_iconst, wp_iln1, wp_imul, wp_iret, wp_zret, qmd_kd, qmd_k1, qmd_l1, qmd_gf0, qmd_k2, qmd_l2, qmd_gf1, qmd_k3, qmd_l3, qmd_gf2, qmd_k4, qmd_l4, qmd_gf4, qmd_k5, qmd_l5, qmd_gf6, qmd_k6, qmd_l6, qmd_gf7, qmd_k7, qmd_l7, qmd_gf10, qmd_k8, qmd_l8, qmd_gf11, qmd_k9, qmd_l9, qmd_gf12, qmd_gf3, qmd_pf3, qmd_gf5, qmd_pf5, qmd_gf8, qmd_pf8, qmd_gf9, qmd_pf9, wrI_row, cpI_row, row_s, row_n, row_ss, row_sw, upd_s, upd_n, ad_inj, ad_z, ad_z2, Nat.reduceEqDiff, reduceCtorEq, List.cons_append, List.nil_append, Option.toList_some, Option.toList_none, Int.toNat_natCast, List.length_cons, List.length_nil, Int.cast_ofNat_Int, Nat.reduceAdd, Nat.reduceLeDiff, Nat.reduceLT, Nat.reduceMul, Int.reduceAdd, Int.reduceSub, Int.reduceMul, Int.reduceNeg, Int.reduceLT, Int.reduceLE, Int.reduceEq, Int.reduceToNat, eq_self, true_and, and_true, true_or, or_true, false_or, or_false, if_true, if_false, not_true_eq_false, not_false_eq_true, and_self, ne_eq, hM, e1]
  (repeat' (first | apply And.intro | split)) <;> first | omega | exact hQ
theorem framesOf_ok (hM : isMd ρ a) (hR : LR (-1) (vwM (g (ad a 1))) U) (hU : WFV (-1) U) {s : Int} (h0 : 0 ≤ s) (h1 : s < U 5 0) (Q : Option AV → Sto → Prop) : WpM zt 98 [AR a, AI s] (g, ρ) Q ↔ Q (some (AI (U 7 s.toNat))) (g, ρ) := by
  refine wpm_iff (fun Q hQ => ?_) Q
  have b5 := hU.2.2.2.2.1
  have e1 := m_ln hR hU h0 h1
  simp only [m_M_framesOf, b_M_framesOf_0, wp_aln0, wp_bipush, wp_iadd, wp_iald, wp_iconst, wp_iln1, wp_imul, wp_iret, wp_zret, qmd_kd, qmd_k1, qmd_l1, qmd_gf0, qmd_k2, qmd_l2, qmd_gf1, qmd_k3, qmd_l3, qmd_gf2, qmd_k4, qmd_l4, qmd_gf4, qmd_k5, qmd_l5, qmd_gf6, qmd_k6, qmd_l6, qmd_gf7, qmd_k7, qmd_l7, qmd_gf10, qmd_k8, qmd_l8, qmd_gf11, qmd_k9, qmd_l9, qmd_gf12, qmd_gf3, qmd_pf3, qmd_gf5, qmd_pf5, qmd_gf8, qmd_pf8, qmd_gf9, qmd_pf9, wrI_row, cpI_row, row_s, row_n, row_ss, row_sw, upd_s, upd_n, ad_inj, ad_z, ad_z2, Nat.reduceEqDiff, reduceCtorEq, List.cons_append, List.nil_append, Option.toList_some, Option.toList_none, Int.toNat_natCast, List.length_cons, List.length_nil, Int.cast_ofNat_Int, Nat.reduceAdd, Nat.reduceLeDiff, Nat.reduceLT, Nat.reduceMul, Int.reduceAdd, Int.reduceSub, Int.reduceMul, Int.reduceNeg, Int.reduceLT, Int.reduceLE, Int.reduceEq, Int.reduceToNat, eq_self, true_and, and_true, true_or, or_true, false_or, or_false, if_true, if_false, not_true_eq_false, not_false_eq_true, and_self, ne_eq, hM, e1]
  (repeat' (first | apply And.intro | split)) <;> first | omega | exact hQ
theorem setting_ok (hM : isMd ρ a) (hR : LR (-1) (vwM (g (ad a 1))) U) {w : Int} (h0 : 0 ≤ w) (h1 : w ≤ 4) (Q : Option AV → Sto → Prop) : WpM zt 99 [AR a, AI w] (g, ρ) Q ↔ Q (some (AI (U 4 w.toNat))) (g, ρ) := by
  refine wpm_iff (fun Q hQ => ?_) Q
  have e1 := m_nm hR (j := w.toNat) (by omega)
  rw [show 53 + w.toNat = (53 + w).toNat by omega] at e1
  simp only [m_M_setting, b_M_setting_0, wp_aln0, wp_bipush, wp_iadd, wp_iald, wp_iln1, wp_iret, wp_zret, qmd_kd, qmd_k1, qmd_l1, qmd_gf0, qmd_k2, qmd_l2, qmd_gf1, qmd_k3, qmd_l3, qmd_gf2, qmd_k4, qmd_l4, qmd_gf4, qmd_k5, qmd_l5, qmd_gf6, qmd_k6, qmd_l6, qmd_gf7, qmd_k7, qmd_l7, qmd_gf10, qmd_k8, qmd_l8, qmd_gf11, qmd_k9, qmd_l9, qmd_gf12, qmd_gf3, qmd_pf3, qmd_gf5, qmd_pf5, qmd_gf8, qmd_pf8, qmd_gf9, qmd_pf9, wrI_row, cpI_row, row_s, row_n, row_ss, row_sw, upd_s, upd_n, ad_inj, ad_z, ad_z2, Nat.reduceEqDiff, reduceCtorEq, List.cons_append, List.nil_append, Option.toList_some, Option.toList_none, Int.toNat_natCast, List.length_cons, List.length_nil, Int.cast_ofNat_Int, Nat.reduceAdd, Nat.reduceLeDiff, Nat.reduceLT, Nat.reduceMul, Int.reduceAdd, Int.reduceSub, Int.reduceMul, Int.reduceNeg, Int.reduceLT, Int.reduceLE, Int.reduceEq, Int.reduceToNat, eq_self, true_and, and_true, true_or, or_true, false_or, or_false, if_true, if_false, not_true_eq_false, not_false_eq_true, and_self, ne_eq, hM, e1]
  (repeat' (first | apply And.intro | split)) <;> first | omega | exact hQ
theorem firstOf_loop (hM : isMd ρ a) (hR : LR (-1) (vwM (g (ad a 1))) U) (hU : WFV (-1) U) {s : Nat} (hs : (s : Int) ≤ U 5 0) {Q : Option AV → Sto → Prop} (hQ : Q (some (AI (sumL U s))) (g, ρ)) :
    ∀ (d k : Nat), k + d = s → Wp zt 100 (P 100 4) [some (AR a), some (AI s), some (AI (sumL U k)), some (AI k)] [] (g, ρ) Q := by
  have b5 := hU.2.2.2.2.1
  intro d
  induction d with
  | zero =>
    intro k hk
    have e : k = s := by omega
    subst e
    rw [P_M_firstOf_4]
    simp only [m_M_firstOf, b_M_firstOf_0, P_M_firstOf_23, b_M_firstOf_23, wp_aln0, wp_cv1, wp_cv2, wp_cv3, wp_cv4, wp_cv5, wp_cv6, wp_cv7, wp_goto, wp_iadd, wp_icge, wp_iconst, wp_iln1, wp_iln2, wp_iln3, wp_inc3, wp_iret, wp_isn2, wp_isn3, wp_nop, wp_zret, qmd_kd, qmd_k1, qmd_l1, qmd_gf0, qmd_k2, qmd_l2, qmd_gf1, qmd_k3, qmd_l3, qmd_gf2, qmd_k4, qmd_l4, qmd_gf4, qmd_k5, qmd_l5, qmd_gf6, qmd_k6, qmd_l6, qmd_gf7, qmd_k7, qmd_l7, qmd_gf10, qmd_k8, qmd_l8, qmd_gf11, qmd_k9, qmd_l9, qmd_gf12, qmd_gf3, qmd_pf3, qmd_gf5, qmd_pf5, qmd_gf8, qmd_pf8, qmd_gf9, qmd_pf9, wrI_row, cpI_row, row_s, row_n, row_ss, row_sw, upd_s, upd_n, ad_inj, ad_z, ad_z2, Nat.reduceEqDiff, reduceCtorEq, List.cons_append, List.nil_append, Option.toList_some, Option.toList_none, Int.toNat_natCast, List.length_cons, List.length_nil, Int.cast_ofNat_Int, Nat.reduceAdd, Nat.reduceLeDiff, Nat.reduceLT, Nat.reduceMul, Int.reduceAdd, Int.reduceSub, Int.reduceMul, Int.reduceNeg, Int.reduceLT, Int.reduceLE, Int.reduceEq, Int.reduceToNat, eq_self, true_and, and_true, true_or, or_true, false_or, or_false, if_true, if_false, not_true_eq_false, not_false_eq_true, and_self, ne_eq, b_M_firstOf_4, hM]
    (repeat' (first | apply And.intro | split)) <;> first | omega | exact hQ
  | succ d ih =>
    intro k hk
    have i1 := ih (k + 1) (by omega)
    have f1 := framesOf_ok (zt := zt) hM hR hU (s := k) (by omega) (by omega)
    rw [Int.toNat_natCast] at f1
    simp only [sumL] at i1
    rw [P_M_firstOf_4]
    simp only [m_M_firstOf, b_M_firstOf_0, P_M_firstOf_23, b_M_firstOf_23, wp_aln0, wp_cv1, wp_cv2, wp_cv3, wp_cv4, wp_cv5, wp_cv6, wp_cv7, wp_goto, wp_iadd, wp_icge, wp_iconst, wp_iln1, wp_iln2, wp_iln3, wp_inc3, wp_iret, wp_isn2, wp_isn3, wp_nop, wp_zret, qmd_kd, qmd_k1, qmd_l1, qmd_gf0, qmd_k2, qmd_l2, qmd_gf1, qmd_k3, qmd_l3, qmd_gf2, qmd_k4, qmd_l4, qmd_gf4, qmd_k5, qmd_l5, qmd_gf6, qmd_k6, qmd_l6, qmd_gf7, qmd_k7, qmd_l7, qmd_gf10, qmd_k8, qmd_l8, qmd_gf11, qmd_k9, qmd_l9, qmd_gf12, qmd_gf3, qmd_pf3, qmd_gf5, qmd_pf5, qmd_gf8, qmd_pf8, qmd_gf9, qmd_pf9, wrI_row, cpI_row, row_s, row_n, row_ss, row_sw, upd_s, upd_n, ad_inj, ad_z, ad_z2, Nat.reduceEqDiff, reduceCtorEq, List.cons_append, List.nil_append, Option.toList_some, Option.toList_none, Int.toNat_natCast, List.length_cons, List.length_nil, Int.cast_ofNat_Int, Nat.reduceAdd, Nat.reduceLeDiff, Nat.reduceLT, Nat.reduceMul, Int.reduceAdd, Int.reduceSub, Int.reduceMul, Int.reduceNeg, Int.reduceLT, Int.reduceLE, Int.reduceEq, Int.reduceToNat, eq_self, true_and, and_true, true_or, or_true, false_or, or_false, if_true, if_false, not_true_eq_false, not_false_eq_true, and_self, ne_eq, b_M_firstOf_4, hM, f1]
    (repeat' (first | apply And.intro | split)) <;> first | omega | exact i1
theorem firstOf_ok (hM : isMd ρ a) (hR : LR (-1) (vwM (g (ad a 1))) U) (hU : WFV (-1) U) {s : Int} (h0 : 0 ≤ s) (hs : s ≤ U 5 0) (Q : Option AV → Sto → Prop) : WpM zt 100 [AR a, AI s] (g, ρ) Q ↔ Q (some (AI (sumL U s.toNat))) (g, ρ) := by
  refine wpm_iff (fun Q hQ => ?_) Q
  obtain ⟨S, rfl⟩ := Int.eq_ofNat_of_zero_le h0
  rw [Int.toNat_natCast] at hQ
  have k1 := firstOf_loop (zt := zt) hM hR hU hs hQ S 0 (by omega)
  simp only [m_M_firstOf, b_M_firstOf_0, P_M_firstOf_23, b_M_firstOf_23, wp_aln0, wp_cv1, wp_cv2, wp_cv3, wp_cv4, wp_cv5, wp_cv6, wp_cv7, wp_goto, wp_iadd, wp_icge, wp_iconst, wp_iln1, wp_iln2, wp_iln3, wp_inc3, wp_iret, wp_isn2, wp_isn3, wp_nop, wp_zret, qmd_kd, qmd_k1, qmd_l1, qmd_gf0, qmd_k2, qmd_l2, qmd_gf1, qmd_k3, qmd_l3, qmd_gf2, qmd_k4, qmd_l4, qmd_gf4, qmd_k5, qmd_l5, qmd_gf6, qmd_k6, qmd_l6, qmd_gf7, qmd_k7, qmd_l7, qmd_gf10, qmd_k8, qmd_l8, qmd_gf11, qmd_k9, qmd_l9, qmd_gf12, qmd_gf3, qmd_pf3, qmd_gf5, qmd_pf5, qmd_gf8, qmd_pf8, qmd_gf9, qmd_pf9, wrI_row, cpI_row, row_s, row_n, row_ss, row_sw, upd_s, upd_n, ad_inj, ad_z, ad_z2, Nat.reduceEqDiff, reduceCtorEq, List.cons_append, List.nil_append, Option.toList_some, Option.toList_none, Int.toNat_natCast, List.length_cons, List.length_nil, Int.cast_ofNat_Int, Nat.reduceAdd, Nat.reduceLeDiff, Nat.reduceLT, Nat.reduceMul, Int.reduceAdd, Int.reduceSub, Int.reduceMul, Int.reduceNeg, Int.reduceLT, Int.reduceLE, Int.reduceEq, Int.reduceToNat, eq_self, true_and, and_true, true_or, or_true, false_or, or_false, if_true, if_false, not_true_eq_false, not_false_eq_true, and_self, ne_eq, hM]
  exact k1
theorem frames_ok (hM : isMd ρ a) (hR : LR (-1) (vwM (g (ad a 1))) U) (hU : WFV (-1) U) (Q : Option AV → Sto → Prop) : WpM zt 101 [AR a] (g, ρ) Q ↔ Q (some (AI (U 8 0))) (g, ρ) := by
  refine wpm_iff (fun Q hQ => ?_) Q
  have b5 := hU.2.2.2.2.1
  have e5 := m_5 hR
  have f1 := firstOf_ok (zt := zt) hM hR hU (s := U 5 0) (by omega) (by omega)
  rw [hU.2.2.2.2.2.2.2.1] at f1
  simp only [m_M_frames, b_M_frames_0, wp_aln0, wp_bipush, wp_cv1, wp_cv2, wp_cv3, wp_cv4, wp_cv5, wp_cv6, wp_cv7, wp_iald, wp_iret, wp_zret, qmd_kd, qmd_k1, qmd_l1, qmd_gf0, qmd_k2, qmd_l2, qmd_gf1, qmd_k3, qmd_l3, qmd_gf2, qmd_k4, qmd_l4, qmd_gf4, qmd_k5, qmd_l5, qmd_gf6, qmd_k6, qmd_l6, qmd_gf7, qmd_k7, qmd_l7, qmd_gf10, qmd_k8, qmd_l8, qmd_gf11, qmd_k9, qmd_l9, qmd_gf12, qmd_gf3, qmd_pf3, qmd_gf5, qmd_pf5, qmd_gf8, qmd_pf8, qmd_gf9, qmd_pf9, wrI_row, cpI_row, row_s, row_n, row_ss, row_sw, upd_s, upd_n, ad_inj, ad_z, ad_z2, Nat.reduceEqDiff, reduceCtorEq, List.cons_append, List.nil_append, Option.toList_some, Option.toList_none, Int.toNat_natCast, List.length_cons, List.length_nil, Int.cast_ofNat_Int, Nat.reduceAdd, Nat.reduceLeDiff, Nat.reduceLT, Nat.reduceMul, Int.reduceAdd, Int.reduceSub, Int.reduceMul, Int.reduceNeg, Int.reduceLT, Int.reduceLE, Int.reduceEq, Int.reduceToNat, eq_self, true_and, and_true, true_or, or_true, false_or, or_false, if_true, if_false, not_true_eq_false, not_false_eq_true, and_self, ne_eq, hM, e5, f1]
  exact hQ
theorem isFrame_ok (hM : isMd ρ a) (hR : LR (-1) (vwM (g (ad a 1))) U) (hU : WFV (-1) U) {m : Int} (hm : i32 m) (Q : Option AV → Sto → Prop) : WpM zt 102 [AR a, AI m] (g, ρ) Q ↔ Q (some (AI (b2 (0 ≤ m ∧ m < U 8 0)))) (g, ρ) := by
  refine wpm_iff (fun Q hQ => ?_) Q
  have b8 := hU.2.2.2.2.2.2.1
  have f1 := frames_ok (zt := zt) hM hR hU
  have ho := fun Q => in_ok (zt := zt) (g := g) (ρ := ρ) (lo := 0) (hi := U 8 0 - 1) hm (by unfold i32; omega) (by unfold i32; omega) Q
  simp only [m_M_isFrame, b_M_isFrame_0, wp_abs, wp_aln0, wp_copy, wp_cs1, wp_cs2, wp_cs3, wp_cs4, wp_cs5, wp_cs6, wp_cs7, wp_cv1, wp_cv2, wp_cv3, wp_cv4, wp_cv5, wp_cv6, wp_cv7, wp_iconst, wp_iln1, wp_iret, wp_isub, wp_max, wp_min, wp_zret, qmd_kd, qmd_k1, qmd_l1, qmd_gf0, qmd_k2, qmd_l2, qmd_gf1, qmd_k3, qmd_l3, qmd_gf2, qmd_k4, qmd_l4, qmd_gf4, qmd_k5, qmd_l5, qmd_gf6, qmd_k6, qmd_l6, qmd_gf7, qmd_k7, qmd_l7, qmd_gf10, qmd_k8, qmd_l8, qmd_gf11, qmd_k9, qmd_l9, qmd_gf12, qmd_gf3, qmd_pf3, qmd_gf5, qmd_pf5, qmd_gf8, qmd_pf8, qmd_gf9, qmd_pf9, wrI_row, cpI_row, row_s, row_n, row_ss, row_sw, upd_s, upd_n, ad_inj, ad_z, ad_z2, Nat.reduceEqDiff, reduceCtorEq, List.cons_append, List.nil_append, Option.toList_some, Option.toList_none, Int.toNat_natCast, List.length_cons, List.length_nil, Int.cast_ofNat_Int, Nat.reduceAdd, Nat.reduceLeDiff, Nat.reduceLT, Nat.reduceMul, Int.reduceAdd, Int.reduceSub, Int.reduceMul, Int.reduceNeg, Int.reduceLT, Int.reduceLE, Int.reduceEq, Int.reduceToNat, eq_self, true_and, and_true, true_or, or_true, false_or, or_false, if_true, if_false, not_true_eq_false, not_false_eq_true, and_self, ne_eq, hM, f1, ho]
  by_cases c : 0 ≤ m ∧ m < U 8 0
  · rw [b2_t c] at hQ
    rw [b2_t (by omega)]
    (repeat' (first | apply And.intro | split)) <;> first | omega | exact hQ
  · rw [b2_f c] at hQ
    rw [b2_f (by omega)]
    (repeat' (first | apply And.intro | split)) <;> first | omega | exact hQ
theorem segmentOf_loop (hM : isMd ρ a) (hR : LR (-1) (vwM (g (ad a 1))) U) (hU : WFV (-1) U) {f : Int} (hf : 0 ≤ f ∧ f < U 8 0) {Q : Option AV → Sto → Prop} (hQ : Q (some (AI (segV U f))) (g, ρ)) :
    ∀ (d s : Nat), (s : Int) + d = U 5 0 → sumL U s ≤ f → segF U f d s = segV U f → Wp zt 103 (P 103 2) [some (AR a), some (AI f), some (AI s)] [] (g, ρ) Q := by
  have b5 := hU.2.2.2.2.1
  have b8 := hU.2.2.2.2.2.2.1
  have hsu := hU.2.2.2.2.2.2.2.1
  intro d
  induction d with
  | zero =>
    intro s hs hl he
    rw [show (U 5 0).toNat = s by omega] at hsu
    omega
  | succ d ih =>
    intro s hs hl he
    have f1 := firstOf_ok (zt := zt) hM hR hU (s := (s : Int) + 1) (by omega) (by omega)
    rw [show ((s : Int) + 1).toNat = s + 1 by omega] at f1
    have sb := sumL_at hU (s := s + 1) (by omega)
    simp only [segF] at he
    by_cases c : f < sumL U (s + 1)
    · rw [if_pos c] at he
      rw [← he] at hQ
      rw [P_M_segmentOf_2]
      simp only [m_M_segmentOf, b_M_segmentOf_0, P_M_segmentOf_19, b_M_segmentOf_19, wp_aln0, wp_cv1, wp_cv2, wp_cv3, wp_cv4, wp_cv5, wp_cv6, wp_cv7, wp_goto, wp_iadd, wp_icgt, wp_iconst, wp_iln1, wp_iln2, wp_inc2, wp_iret, wp_isn2, wp_nop, wp_zret, qmd_kd, qmd_k1, qmd_l1, qmd_gf0, qmd_k2, qmd_l2, qmd_gf1, qmd_k3, qmd_l3, qmd_gf2, qmd_k4, qmd_l4, qmd_gf4, qmd_k5, qmd_l5, qmd_gf6, qmd_k6, qmd_l6, qmd_gf7, qmd_k7, qmd_l7, qmd_gf10, qmd_k8, qmd_l8, qmd_gf11, qmd_k9, qmd_l9, qmd_gf12, qmd_gf3, qmd_pf3, qmd_gf5, qmd_pf5, qmd_gf8, qmd_pf8, qmd_gf9, qmd_pf9, wrI_row, cpI_row, row_s, row_n, row_ss, row_sw, upd_s, upd_n, ad_inj, ad_z, ad_z2, Nat.reduceEqDiff, reduceCtorEq, List.cons_append, List.nil_append, Option.toList_some, Option.toList_none, Int.toNat_natCast, List.length_cons, List.length_nil, Int.cast_ofNat_Int, Nat.reduceAdd, Nat.reduceLeDiff, Nat.reduceLT, Nat.reduceMul, Int.reduceAdd, Int.reduceSub, Int.reduceMul, Int.reduceNeg, Int.reduceLT, Int.reduceLE, Int.reduceEq, Int.reduceToNat, eq_self, true_and, and_true, true_or, or_true, false_or, or_false, if_true, if_false, not_true_eq_false, not_false_eq_true, and_self, ne_eq, b_M_segmentOf_2, hM, f1]
      (repeat' (first | apply And.intro | split)) <;> first | omega | exact hQ
    · rw [if_neg c] at he
      have i1 := ih (s + 1) (by omega) (by omega) he
      rw [P_M_segmentOf_2]
      simp only [m_M_segmentOf, b_M_segmentOf_0, P_M_segmentOf_19, b_M_segmentOf_19, wp_aln0, wp_cv1, wp_cv2, wp_cv3, wp_cv4, wp_cv5, wp_cv6, wp_cv7, wp_goto, wp_iadd, wp_icgt, wp_iconst, wp_iln1, wp_iln2, wp_inc2, wp_iret, wp_isn2, wp_nop, wp_zret, qmd_kd, qmd_k1, qmd_l1, qmd_gf0, qmd_k2, qmd_l2, qmd_gf1, qmd_k3, qmd_l3, qmd_gf2, qmd_k4, qmd_l4, qmd_gf4, qmd_k5, qmd_l5, qmd_gf6, qmd_k6, qmd_l6, qmd_gf7, qmd_k7, qmd_l7, qmd_gf10, qmd_k8, qmd_l8, qmd_gf11, qmd_k9, qmd_l9, qmd_gf12, qmd_gf3, qmd_pf3, qmd_gf5, qmd_pf5, qmd_gf8, qmd_pf8, qmd_gf9, qmd_pf9, wrI_row, cpI_row, row_s, row_n, row_ss, row_sw, upd_s, upd_n, ad_inj, ad_z, ad_z2, Nat.reduceEqDiff, reduceCtorEq, List.cons_append, List.nil_append, Option.toList_some, Option.toList_none, Int.toNat_natCast, List.length_cons, List.length_nil, Int.cast_ofNat_Int, Nat.reduceAdd, Nat.reduceLeDiff, Nat.reduceLT, Nat.reduceMul, Int.reduceAdd, Int.reduceSub, Int.reduceMul, Int.reduceNeg, Int.reduceLT, Int.reduceLE, Int.reduceEq, Int.reduceToNat, eq_self, true_and, and_true, true_or, or_true, false_or, or_false, if_true, if_false, not_true_eq_false, not_false_eq_true, and_self, ne_eq, b_M_segmentOf_2, hM, f1]
      (repeat' (first | apply And.intro | split)) <;> first | omega | exact i1
theorem segmentOf_ok (hM : isMd ρ a) (hR : LR (-1) (vwM (g (ad a 1))) U) (hU : WFV (-1) U) {f : Int} (hf : 0 ≤ f ∧ f < U 8 0) (Q : Option AV → Sto → Prop) : WpM zt 103 [AR a, AI f] (g, ρ) Q ↔ Q (some (AI (segV U f))) (g, ρ) := by
  refine wpm_iff (fun Q hQ => ?_) Q
  have b5 := hU.2.2.2.2.1
  have k1 := segmentOf_loop (zt := zt) hM hR hU hf hQ (U 5 0).toNat 0 (by omega) hf.1 rfl
  simp only [m_M_segmentOf, b_M_segmentOf_0, P_M_segmentOf_19, b_M_segmentOf_19, wp_aln0, wp_cv1, wp_cv2, wp_cv3, wp_cv4, wp_cv5, wp_cv6, wp_cv7, wp_goto, wp_iadd, wp_icgt, wp_iconst, wp_iln1, wp_iln2, wp_inc2, wp_iret, wp_isn2, wp_nop, wp_zret, qmd_kd, qmd_k1, qmd_l1, qmd_gf0, qmd_k2, qmd_l2, qmd_gf1, qmd_k3, qmd_l3, qmd_gf2, qmd_k4, qmd_l4, qmd_gf4, qmd_k5, qmd_l5, qmd_gf6, qmd_k6, qmd_l6, qmd_gf7, qmd_k7, qmd_l7, qmd_gf10, qmd_k8, qmd_l8, qmd_gf11, qmd_k9, qmd_l9, qmd_gf12, qmd_gf3, qmd_pf3, qmd_gf5, qmd_pf5, qmd_gf8, qmd_pf8, qmd_gf9, qmd_pf9, wrI_row, cpI_row, row_s, row_n, row_ss, row_sw, upd_s, upd_n, ad_inj, ad_z, ad_z2, Nat.reduceEqDiff, reduceCtorEq, List.cons_append, List.nil_append, Option.toList_some, Option.toList_none, Int.toNat_natCast, List.length_cons, List.length_nil, Int.cast_ofNat_Int, Nat.reduceAdd, Nat.reduceLeDiff, Nat.reduceLT, Nat.reduceMul, Int.reduceAdd, Int.reduceSub, Int.reduceMul, Int.reduceNeg, Int.reduceLT, Int.reduceLE, Int.reduceEq, Int.reduceToNat, eq_self, true_and, and_true, true_or, or_true, false_or, or_false, if_true, if_false, not_true_eq_false, not_false_eq_true, and_self, ne_eq, hM]
  exact k1
theorem allOf_loop (hb : kdI ρ b 0) (hl : lnA ρ b = 953) (hR : LR (-1) (vwM (g b)) U) (hU : WFV (-1) U) {Q : Option AV → Sto → Prop} (hQ : Q (some (AI (U 8 0))) (g, ρ)) :
    ∀ (d k : Nat), (k : Int) + d = U 5 0 → Wp zt 112 (P 112 4) [some (AR b), some (AI (sumL U k)), some (AI k)] [] (g, ρ) Q := by
  have b5 := hU.2.2.2.2.1
  have e5 := m_5 hR
  have hsu := hU.2.2.2.2.2.2.2.1
  intro d
  induction d with
  | zero =>
    intro k hk
    rw [show (U 5 0).toNat = k by omega] at hsu
    rw [← hsu] at hQ
    rw [P_M_allOf_4]
    simp only [m_M_allOf, b_M_allOf_0, P_M_allOf_31, b_M_allOf_31, wp_aln0, wp_bipush, wp_goto, wp_iadd, wp_iald, wp_icge, wp_iconst, wp_iln1, wp_iln2, wp_imul, wp_inc2, wp_iret, wp_isn1, wp_isn2, wp_nop, wp_zret, wrI_row, cpI_row, row_s, row_n, row_ss, row_sw, upd_s, upd_n, ad_inj, ad_z, ad_z2, Nat.reduceEqDiff, reduceCtorEq, List.cons_append, List.nil_append, Option.toList_some, Option.toList_none, Int.toNat_natCast, List.length_cons, List.length_nil, Int.cast_ofNat_Int, Nat.reduceAdd, Nat.reduceLeDiff, Nat.reduceLT, Nat.reduceMul, Int.reduceAdd, Int.reduceSub, Int.reduceMul, Int.reduceNeg, Int.reduceLT, Int.reduceLE, Int.reduceEq, Int.reduceToNat, eq_self, true_and, and_true, true_or, or_true, false_or, or_false, if_true, if_false, not_true_eq_false, not_false_eq_true, and_self, ne_eq, b_M_allOf_4, hb, hl, e5]
    (repeat' (first | apply And.intro | split)) <;> first | omega | exact hQ
  | succ d ih =>
    intro k hk
    have i1 := ih (k + 1) (by omega)
    have e1 := m_ln hR hU (s := k) (by omega) (by omega)
    rw [Int.toNat_natCast] at e1
    simp only [sumL] at i1
    rw [P_M_allOf_4]
    simp only [m_M_allOf, b_M_allOf_0, P_M_allOf_31, b_M_allOf_31, wp_aln0, wp_bipush, wp_goto, wp_iadd, wp_iald, wp_icge, wp_iconst, wp_iln1, wp_iln2, wp_imul, wp_inc2, wp_iret, wp_isn1, wp_isn2, wp_nop, wp_zret, wrI_row, cpI_row, row_s, row_n, row_ss, row_sw, upd_s, upd_n, ad_inj, ad_z, ad_z2, Nat.reduceEqDiff, reduceCtorEq, List.cons_append, List.nil_append, Option.toList_some, Option.toList_none, Int.toNat_natCast, List.length_cons, List.length_nil, Int.cast_ofNat_Int, Nat.reduceAdd, Nat.reduceLeDiff, Nat.reduceLT, Nat.reduceMul, Int.reduceAdd, Int.reduceSub, Int.reduceMul, Int.reduceNeg, Int.reduceLT, Int.reduceLE, Int.reduceEq, Int.reduceToNat, eq_self, true_and, and_true, true_or, or_true, false_or, or_false, if_true, if_false, not_true_eq_false, not_false_eq_true, and_self, ne_eq, b_M_allOf_4, hb, hl, e5, e1]
    (repeat' (first | apply And.intro | split)) <;> first | omega | exact i1
theorem allOf_ok (hb : kdI ρ b 0) (hl : lnA ρ b = 953) (hR : LR (-1) (vwM (g b)) U) (hU : WFV (-1) U) (Q : Option AV → Sto → Prop) : WpM zt 112 [AR b] (g, ρ) Q ↔ Q (some (AI (U 8 0))) (g, ρ) := by
  refine wpm_iff (fun Q hQ => ?_) Q
  have b5 := hU.2.2.2.2.1
  have k1 := allOf_loop (zt := zt) hb hl hR hU hQ (U 5 0).toNat 0 (by omega)
  simp only [m_M_allOf, b_M_allOf_0, P_M_allOf_31, b_M_allOf_31, wp_aln0, wp_bipush, wp_goto, wp_iadd, wp_iald, wp_icge, wp_iconst, wp_iln1, wp_iln2, wp_imul, wp_inc2, wp_iret, wp_isn1, wp_isn2, wp_nop, wp_zret, wrI_row, cpI_row, row_s, row_n, row_ss, row_sw, upd_s, upd_n, ad_inj, ad_z, ad_z2, Nat.reduceEqDiff, reduceCtorEq, List.cons_append, List.nil_append, Option.toList_some, Option.toList_none, Int.toNat_natCast, List.length_cons, List.length_nil, Int.cast_ofNat_Int, Nat.reduceAdd, Nat.reduceLeDiff, Nat.reduceLT, Nat.reduceMul, Int.reduceAdd, Int.reduceSub, Int.reduceMul, Int.reduceNeg, Int.reduceLT, Int.reduceLE, Int.reduceEq, Int.reduceToNat, eq_self, true_and, and_true, true_or, or_true, false_or, or_false, if_true, if_false, not_true_eq_false, not_false_eq_true, and_self, ne_eq, hb, hl]
  exact k1
theorem hasRoom_ok (hb : kdI ρ b 0) (hl : lnA ρ b = 953) (hR : LR (-1) (vwM (g b)) U) (hU : WFV (-1) U) {m : Int} (hm : 0 ≤ m ∧ m ≤ 1000) (Q : Option AV → Sto → Prop) : WpM zt 114 [AR b, AI m] (g, ρ) Q ↔ Q (some (AI (b2 (U 5 0 < 30 ∧ U 8 0 + m ≤ 99)))) (g, ρ) := by
  refine wpm_iff (fun Q hQ => ?_) Q
  have b5 := hU.2.2.2.2.1
  have b8 := hU.2.2.2.2.2.2.1
  have e5 := m_5 hR
  have a1 := allOf_ok (zt := zt) hb hl hR hU
  by_cases c : U 5 0 < 30 ∧ U 8 0 + m ≤ 99
  · rw [b2_t c] at hQ
    simp only [m_M_hasRoom, b_M_hasRoom_0, P_M_hasRoom_24, b_M_hasRoom_24, P_M_hasRoom_25, b_M_hasRoom_25, wp_abs, wp_aln0, wp_bipush, wp_copy, wp_cs1, wp_cs2, wp_cs3, wp_cs4, wp_cs5, wp_cs6, wp_cs7, wp_goto, wp_iadd, wp_iald, wp_icge, wp_icgt, wp_iconst, wp_iln1, wp_iret, wp_max, wp_min, wp_nop, wp_zret, wrI_row, cpI_row, row_s, row_n, row_ss, row_sw, upd_s, upd_n, ad_inj, ad_z, ad_z2, Nat.reduceEqDiff, reduceCtorEq, List.cons_append, List.nil_append, Option.toList_some, Option.toList_none, Int.toNat_natCast, List.length_cons, List.length_nil, Int.cast_ofNat_Int, Nat.reduceAdd, Nat.reduceLeDiff, Nat.reduceLT, Nat.reduceMul, Int.reduceAdd, Int.reduceSub, Int.reduceMul, Int.reduceNeg, Int.reduceLT, Int.reduceLE, Int.reduceEq, Int.reduceToNat, eq_self, true_and, and_true, true_or, or_true, false_or, or_false, if_true, if_false, not_true_eq_false, not_false_eq_true, and_self, ne_eq, hb, hl, e5, a1]
    (repeat' (first | apply And.intro | split)) <;> first | omega | exact hQ
  · rw [b2_f c] at hQ
    simp only [m_M_hasRoom, b_M_hasRoom_0, P_M_hasRoom_24, b_M_hasRoom_24, P_M_hasRoom_25, b_M_hasRoom_25, wp_abs, wp_aln0, wp_bipush, wp_copy, wp_cs1, wp_cs2, wp_cs3, wp_cs4, wp_cs5, wp_cs6, wp_cs7, wp_goto, wp_iadd, wp_iald, wp_icge, wp_icgt, wp_iconst, wp_iln1, wp_iret, wp_max, wp_min, wp_nop, wp_zret, wrI_row, cpI_row, row_s, row_n, row_ss, row_sw, upd_s, upd_n, ad_inj, ad_z, ad_z2, Nat.reduceEqDiff, reduceCtorEq, List.cons_append, List.nil_append, Option.toList_some, Option.toList_none, Int.toNat_natCast, List.length_cons, List.length_nil, Int.cast_ofNat_Int, Nat.reduceAdd, Nat.reduceLeDiff, Nat.reduceLT, Nat.reduceMul, Int.reduceAdd, Int.reduceSub, Int.reduceMul, Int.reduceNeg, Int.reduceLT, Int.reduceLE, Int.reduceEq, Int.reduceToNat, eq_self, true_and, and_true, true_or, or_true, false_or, or_false, if_true, if_false, not_true_eq_false, not_false_eq_true, and_self, ne_eq, hb, hl, e5, a1]
    (repeat' (first | apply And.intro | split)) <;> first | omega | exact hQ
theorem segmentIn_loop (hb : kdI ρ b 0) (hl : lnA ρ b = 953) (hR : LR (-1) (vwM (g b)) U) (hU : WFV (-1) U) {f : Int} (hf : 0 ≤ f ∧ f < U 8 0) {Q : Option AV → Sto → Prop} (hQ : Q (some (AI (segV U f))) (g, ρ)) :
    ∀ (d s : Nat), (s : Int) + d = U 5 0 → sumL U s ≤ f → segF U f d s = segV U f → Wp zt 125 (P 125 4) [some (AR b), some (AI f), some (AI s), some (AI (f - sumL U s))] [] (g, ρ) Q := by
  have b5 := hU.2.2.2.2.1
  have b8 := hU.2.2.2.2.2.2.1
  have hsu := hU.2.2.2.2.2.2.2.1
  intro d
  induction d with
  | zero =>
    intro s hs hl he
    rw [show (U 5 0).toNat = s by omega] at hsu
    omega
  | succ d ih =>
    intro s hs hl2 he
    have e1 := m_ln hR hU (s := s) (by omega) (by omega)
    rw [Int.toNat_natCast] at e1
    have bl := (hU.2.2.2.2.2.1 s (by omega)).2
    have sb := sumL_at hU (s := s) (by omega)
    simp only [segF] at he
    have es : sumL U (s + 1) = sumL U s + U 7 s := rfl
    rw [es] at he
    by_cases c : f < sumL U s + U 7 s
    · rw [if_pos c] at he
      rw [← he] at hQ
      rw [P_M_segmentIn_4]
      simp only [m_M_segmentIn, b_M_segmentIn_0, P_M_segmentIn_37, b_M_segmentIn_37, wp_aln0, wp_bipush, wp_goto, wp_iadd, wp_iald, wp_iclt, wp_iconst, wp_iln1, wp_iln2, wp_iln3, wp_imul, wp_inc2, wp_iret, wp_isn2, wp_isn3, wp_isub, wp_nop, wp_zret, wrI_row, cpI_row, row_s, row_n, row_ss, row_sw, upd_s, upd_n, ad_inj, ad_z, ad_z2, Nat.reduceEqDiff, reduceCtorEq, List.cons_append, List.nil_append, Option.toList_some, Option.toList_none, Int.toNat_natCast, List.length_cons, List.length_nil, Int.cast_ofNat_Int, Nat.reduceAdd, Nat.reduceLeDiff, Nat.reduceLT, Nat.reduceMul, Int.reduceAdd, Int.reduceSub, Int.reduceMul, Int.reduceNeg, Int.reduceLT, Int.reduceLE, Int.reduceEq, Int.reduceToNat, eq_self, true_and, and_true, true_or, or_true, false_or, or_false, if_true, if_false, not_true_eq_false, not_false_eq_true, and_self, ne_eq, b_M_segmentIn_4, hb, hl, e1]
      (repeat' (first | apply And.intro | split)) <;> first | omega | exact hQ
    · rw [if_neg c] at he
      have i1 := ih (s + 1) (by omega) (by omega) he
      rw [es, show f - (sumL U s + U 7 s) = f - sumL U s - U 7 s by omega] at i1
      rw [P_M_segmentIn_4]
      simp only [m_M_segmentIn, b_M_segmentIn_0, P_M_segmentIn_37, b_M_segmentIn_37, wp_aln0, wp_bipush, wp_goto, wp_iadd, wp_iald, wp_iclt, wp_iconst, wp_iln1, wp_iln2, wp_iln3, wp_imul, wp_inc2, wp_iret, wp_isn2, wp_isn3, wp_isub, wp_nop, wp_zret, wrI_row, cpI_row, row_s, row_n, row_ss, row_sw, upd_s, upd_n, ad_inj, ad_z, ad_z2, Nat.reduceEqDiff, reduceCtorEq, List.cons_append, List.nil_append, Option.toList_some, Option.toList_none, Int.toNat_natCast, List.length_cons, List.length_nil, Int.cast_ofNat_Int, Nat.reduceAdd, Nat.reduceLeDiff, Nat.reduceLT, Nat.reduceMul, Int.reduceAdd, Int.reduceSub, Int.reduceMul, Int.reduceNeg, Int.reduceLT, Int.reduceLE, Int.reduceEq, Int.reduceToNat, eq_self, true_and, and_true, true_or, or_true, false_or, or_false, if_true, if_false, not_true_eq_false, not_false_eq_true, and_self, ne_eq, b_M_segmentIn_4, hb, hl, e1]
      (repeat' (first | apply And.intro | split)) <;> first | omega | exact i1
theorem segmentIn_ok (hb : kdI ρ b 0) (hl : lnA ρ b = 953) (hR : LR (-1) (vwM (g b)) U) (hU : WFV (-1) U) {f : Int} (hf : 0 ≤ f ∧ f < U 8 0) (Q : Option AV → Sto → Prop) : WpM zt 125 [AR b, AI f] (g, ρ) Q ↔ Q (some (AI (segV U f))) (g, ρ) := by
  refine wpm_iff (fun Q hQ => ?_) Q
  have b5 := hU.2.2.2.2.1
  have k1 := segmentIn_loop (zt := zt) hb hl hR hU hf hQ (U 5 0).toNat 0 (by omega) hf.1 rfl
  rw [show f - sumL U 0 = f by simp only [sumL]; omega] at k1
  simp only [m_M_segmentIn, b_M_segmentIn_0, P_M_segmentIn_37, b_M_segmentIn_37, wp_aln0, wp_bipush, wp_goto, wp_iadd, wp_iald, wp_iclt, wp_iconst, wp_iln1, wp_iln2, wp_iln3, wp_imul, wp_inc2, wp_iret, wp_isn2, wp_isn3, wp_isub, wp_nop, wp_zret, wrI_row, cpI_row, row_s, row_n, row_ss, row_sw, upd_s, upd_n, ad_inj, ad_z, ad_z2, Nat.reduceEqDiff, reduceCtorEq, List.cons_append, List.nil_append, Option.toList_some, Option.toList_none, Int.toNat_natCast, List.length_cons, List.length_nil, Int.cast_ofNat_Int, Nat.reduceAdd, Nat.reduceLeDiff, Nat.reduceLT, Nat.reduceMul, Int.reduceAdd, Int.reduceSub, Int.reduceMul, Int.reduceNeg, Int.reduceLT, Int.reduceLE, Int.reduceEq, Int.reduceToNat, eq_self, true_and, and_true, true_or, or_true, false_or, or_false, if_true, if_false, not_true_eq_false, not_false_eq_true, and_self, ne_eq, hb, hl]
  exact k1
theorem wrongBy_ok (hM : isMd ρ a) (hR : LR (-1) (vwM (g (ad a 1))) U) (hU : WFV (-1) U) {kd m : Int} (hk0 : 0 ≤ kd) (hk1 : kd ≤ 9) (h0 : 0 ≤ m) (h1 : m < U 0 0) (Q : Option AV → Sto → Prop) : WpM zt 138 [AR a, AI kd, AI m] (g, ρ) Q ↔ Q (some (AI (wrgV U kd m.toNat))) (g, ρ) := by
  refine wpm_iff (fun Q hQ => ?_) Q
  have bm := hU.2.1 m.toNat (by omega)
  have b4 := hU.2.2.2.1
  have o1 := opening_ok (zt := zt) hM hR hU h0 h1
  have w1 := width_ok (zt := zt) hM hR hU h0 h1
  unfold wrgV at hQ
  by_cases c : kd = 9
  · rw [if_pos c] at hQ
    subst c
    have s2 := setting_ok (zt := zt) hM hR (w := 2) (by omega) (by omega)
    by_cases c2 : U 4 2 < U 1 m.toNat
    · rw [show 9 * max 0 (U 4 2 - U 1 m.toNat) = 0 by omega] at hQ
      simp only [m_M_wrongBy, b_M_wrongBy_0, P_M_wrongBy_23, b_M_wrongBy_23, P_M_wrongBy_37, b_M_wrongBy_37, P_M_wrongBy_38, b_M_wrongBy_38, wp_abs, wp_aln0, wp_bipush, wp_copy, wp_cs1, wp_cs2, wp_cs3, wp_cs4, wp_cs5, wp_cs6, wp_cs7, wp_cv1, wp_cv2, wp_cv3, wp_cv4, wp_cv5, wp_cv6, wp_cv7, wp_goto, wp_iadd, wp_iald, wp_icle, wp_icne, wp_iconst, wp_iln1, wp_iln2, wp_iln3, wp_imul, wp_iret, wp_isn3, wp_isub, wp_max, wp_min, wp_nop, wp_zret, qmd_kd, qmd_k1, qmd_l1, qmd_gf0, qmd_k2, qmd_l2, qmd_gf1, qmd_k3, qmd_l3, qmd_gf2, qmd_k4, qmd_l4, qmd_gf4, qmd_k5, qmd_l5, qmd_gf6, qmd_k6, qmd_l6, qmd_gf7, qmd_k7, qmd_l7, qmd_gf10, qmd_k8, qmd_l8, qmd_gf11, qmd_k9, qmd_l9, qmd_gf12, qmd_gf3, qmd_pf3, qmd_gf5, qmd_pf5, qmd_gf8, qmd_pf8, qmd_gf9, qmd_pf9, wrI_row, cpI_row, row_s, row_n, row_ss, row_sw, upd_s, upd_n, ad_inj, ad_z, ad_z2, Nat.reduceEqDiff, reduceCtorEq, List.cons_append, List.nil_append, Option.toList_some, Option.toList_none, Int.toNat_natCast, List.length_cons, List.length_nil, Int.cast_ofNat_Int, Nat.reduceAdd, Nat.reduceLeDiff, Nat.reduceLT, Nat.reduceMul, Int.reduceAdd, Int.reduceSub, Int.reduceMul, Int.reduceNeg, Int.reduceLT, Int.reduceLE, Int.reduceEq, Int.reduceToNat, eq_self, true_and, and_true, true_or, or_true, false_or, or_false, if_true, if_false, not_true_eq_false, not_false_eq_true, and_self, ne_eq, hM, o1, s2]
      (repeat' (first | apply And.intro | split)) <;> first | omega | exact hQ
    · rw [show max 0 (U 4 2 - U 1 m.toNat) = U 4 2 - U 1 m.toNat by omega] at hQ
      simp only [m_M_wrongBy, b_M_wrongBy_0, P_M_wrongBy_23, b_M_wrongBy_23, P_M_wrongBy_37, b_M_wrongBy_37, P_M_wrongBy_38, b_M_wrongBy_38, wp_abs, wp_aln0, wp_bipush, wp_copy, wp_cs1, wp_cs2, wp_cs3, wp_cs4, wp_cs5, wp_cs6, wp_cs7, wp_cv1, wp_cv2, wp_cv3, wp_cv4, wp_cv5, wp_cv6, wp_cv7, wp_goto, wp_iadd, wp_iald, wp_icle, wp_icne, wp_iconst, wp_iln1, wp_iln2, wp_iln3, wp_imul, wp_iret, wp_isn3, wp_isub, wp_max, wp_min, wp_nop, wp_zret, qmd_kd, qmd_k1, qmd_l1, qmd_gf0, qmd_k2, qmd_l2, qmd_gf1, qmd_k3, qmd_l3, qmd_gf2, qmd_k4, qmd_l4, qmd_gf4, qmd_k5, qmd_l5, qmd_gf6, qmd_k6, qmd_l6, qmd_gf7, qmd_k7, qmd_l7, qmd_gf10, qmd_k8, qmd_l8, qmd_gf11, qmd_k9, qmd_l9, qmd_gf12, qmd_gf3, qmd_pf3, qmd_gf5, qmd_pf5, qmd_gf8, qmd_pf8, qmd_gf9, qmd_pf9, wrI_row, cpI_row, row_s, row_n, row_ss, row_sw, upd_s, upd_n, ad_inj, ad_z, ad_z2, Nat.reduceEqDiff, reduceCtorEq, List.cons_append, List.nil_append, Option.toList_some, Option.toList_none, Int.toNat_natCast, List.length_cons, List.length_nil, Int.cast_ofNat_Int, Nat.reduceAdd, Nat.reduceLeDiff, Nat.reduceLT, Nat.reduceMul, Int.reduceAdd, Int.reduceSub, Int.reduceMul, Int.reduceNeg, Int.reduceLT, Int.reduceLE, Int.reduceEq, Int.reduceToNat, eq_self, true_and, and_true, true_or, or_true, false_or, or_false, if_true, if_false, not_true_eq_false, not_false_eq_true, and_self, ne_eq, hM, o1, s2]
      (repeat' (first | apply And.intro | split)) <;> first | omega | exact hQ
  · rw [if_neg c] at hQ
    have q2 := m_sn hR (j := (kd * 4 + 2).toNat) (by omega)
    have q0 := m_sn hR (j := (kd * 4 + 0).toNat) (by omega)
    have q1 := m_sn hR (j := (kd * 4 + 1).toNat) (by omega)
    have v2 := hU.2.2.1 (kd * 4 + 2).toNat (by omega)
    have v0 := hU.2.2.1 (kd * 4 + 0).toNat (by omega)
    have v1 := hU.2.2.1 (kd * 4 + 1).toNat (by omega)
    rw [show 17 + (kd * 4 + 2).toNat = (17 + 4 * kd + 2).toNat by omega] at q2
    rw [show 17 + (kd * 4 + 0).toNat = (17 + 4 * kd).toNat by omega] at q0
    rw [show 17 + (kd * 4 + 1).toNat = (17 + 4 * kd + 1).toNat by omega] at q1
    have a1 := fun Q => apart_ok (zt := zt) (g := g) (ρ := ρ) (x := U 1 m.toNat) (y := U 3 (kd * 4 + 0).toNat) (by omega) (by omega) Q
    have a2 := fun Q => apart_ok (zt := zt) (g := g) (ρ := ρ) (x := U 2 m.toNat) (y := U 3 (kd * 4 + 1).toNat) (by omega) (by omega) Q
    simp only [m_M_wrongBy, b_M_wrongBy_0, P_M_wrongBy_23, b_M_wrongBy_23, P_M_wrongBy_37, b_M_wrongBy_37, P_M_wrongBy_38, b_M_wrongBy_38, wp_abs, wp_aln0, wp_bipush, wp_copy, wp_cs1, wp_cs2, wp_cs3, wp_cs4, wp_cs5, wp_cs6, wp_cs7, wp_cv1, wp_cv2, wp_cv3, wp_cv4, wp_cv5, wp_cv6, wp_cv7, wp_goto, wp_iadd, wp_iald, wp_icle, wp_icne, wp_iconst, wp_iln1, wp_iln2, wp_iln3, wp_imul, wp_iret, wp_isn3, wp_isub, wp_max, wp_min, wp_nop, wp_zret, qmd_kd, qmd_k1, qmd_l1, qmd_gf0, qmd_k2, qmd_l2, qmd_gf1, qmd_k3, qmd_l3, qmd_gf2, qmd_k4, qmd_l4, qmd_gf4, qmd_k5, qmd_l5, qmd_gf6, qmd_k6, qmd_l6, qmd_gf7, qmd_k7, qmd_l7, qmd_gf10, qmd_k8, qmd_l8, qmd_gf11, qmd_k9, qmd_l9, qmd_gf12, qmd_gf3, qmd_pf3, qmd_gf5, qmd_pf5, qmd_gf8, qmd_pf8, qmd_gf9, qmd_pf9, wrI_row, cpI_row, row_s, row_n, row_ss, row_sw, upd_s, upd_n, ad_inj, ad_z, ad_z2, Nat.reduceEqDiff, reduceCtorEq, List.cons_append, List.nil_append, Option.toList_some, Option.toList_none, Int.toNat_natCast, List.length_cons, List.length_nil, Int.cast_ofNat_Int, Nat.reduceAdd, Nat.reduceLeDiff, Nat.reduceLT, Nat.reduceMul, Int.reduceAdd, Int.reduceSub, Int.reduceMul, Int.reduceNeg, Int.reduceLT, Int.reduceLE, Int.reduceEq, Int.reduceToNat, eq_self, true_and, and_true, true_or, or_true, false_or, or_false, if_true, if_false, not_true_eq_false, not_false_eq_true, and_self, ne_eq, hM, c, o1, w1, q0, q1, q2, a1, a2]
    (repeat' (first | apply And.intro | split)) <;> first | omega | exact hQ
end MRD
