/-! THE CLASS'S CALLS THAT LOOK -/
def Fr (L : Nat) (g : Nat → Nat → Int) (ρ : Ri) (g' : Nat → Nat → Int) (ρ' : Ri) : Prop := ρ'.2 = ρ.2 ∧ ∀ x, (x < L ∨ ad L 204 ≤ x) → ρ'.1 x = ρ.1 x ∧ g' x = g x
def CQ (g : Nat → Nat → Int) (ρ : Ri) (L : Nat) (r : Int × XV) (Q : Option AV → Sto → Prop) : Prop := ∀ (g' : Nat → Nat → Int) (ρ' : Ri) (h' : Nat → Nat), RepC g' ρ' L h' r.2 → Fr L g ρ g' ρ' → Q (some (AI r.1)) (g', ρ')
def i32 (v : Int) : Prop := -2147483648 ≤ v ∧ v < 2147483648
section LOK
variable {zt : Nat → Nat} {g : Nat → Nat → Int} {ρ : Ri} {L : Nat} {h : Nat → Nat} {X : XV} {Q : Option AV → Sto → Prop}
theorem CQ.ro {r : Int} (hQ : CQ g ρ L (r, X) Q) (hX : RepC g ρ L h X) : Q (some (AI r)) (g, ρ) := hQ g ρ h hX ⟨rfl, fun _ _ => ⟨rfl, rfl⟩⟩
theorem RepC.kept {g' : Nat → Nat → Int} (hX : RepC g ρ L h X) (hW : WFX X) (hk : ∀ x, L ≤ x → (x < ad L 182 ∨ x = ad L 203) → g' x = g x) : RepC g' ρ L h X := by
  obtain ⟨h1, h2, h3, h4, h5, h6⟩ := hX
  refine ⟨h1, h2.kept (fun x z1 z2 => hk x (by unfold ad at *; omega) (Or.inl (by unfold ad at *; omega))), fun i hi => ?_, ?_, ?_, fun j hj => ?_⟩
  · obtain ⟨-, -, -, -, -, -, -, hh, -⟩ := h1
    have e := hW.2.1
    have := (hh i (by omega)).2
    exact (h3 i hi).kept (fun x z1 z2 => hk x (by unfold ad at *; omega) (Or.inl (by unfold ad at *; omega)))
  · rw [hk L (Nat.le_refl _) (Or.inl (by unfold ad; omega))]
    exact h4
  · rw [hk L (Nat.le_refl _) (Or.inl (by unfold ad; omega))]
    exact h5
  · rw [hk (ad L 203) (by unfold ad; omega) (Or.inr rfl)]
    exact h6 j hj
theorem isOutside_ok {v lo hi : Int} (hv : i32 v) (hlo : i32 lo) (hhi : i32 hi) (Q : Option AV → Sto → Prop) : WpM zt 81 [AI v, AI lo, AI hi] (g, ρ) Q ↔ Q (some (AI (b2 (v < lo ∨ hi < v)))) (g, ρ) := by
  refine wpm_iff (fun Q hQ => ?_) Q
  unfold i32 at hv hlo hhi
  simp only [m_L_isOutside, b_L_isOutside_0, P_L_isOutside_10, b_L_isOutside_10, P_L_isOutside_14, b_L_isOutside_14, P_L_isOutside_15, b_L_isOutside_15, wp_goto, wp_icle, wp_iclt, wp_iconst, wp_iln0, wp_iln1, wp_iln2, wp_iret, wp_nop, wp_zret, wrI_row, cpI_row, row_s, row_n, row_ss, row_sw, upd_s, upd_n, ad_inj, ad_z, ad_z2, Nat.reduceEqDiff, reduceCtorEq, List.cons_append, List.nil_append, Option.toList_some, Option.toList_none, Int.toNat_natCast, List.length_cons, List.length_nil, Int.cast_ofNat_Int, Nat.reduceAdd, Nat.reduceLeDiff, Nat.reduceLT, Nat.reduceMul, Int.reduceAdd, Int.reduceSub, Int.reduceMul, Int.reduceNeg, Int.reduceLT, Int.reduceLE, Int.reduceEq, Int.reduceToNat, eq_self, true_and, and_true, true_or, or_true, false_or, or_false, if_true, if_false, not_true_eq_false, not_false_eq_true, and_self, ne_eq]
  (repeat' (first | apply And.intro | split)) <;> first | omega | exact hQ | (rw [b2_t (by omega)] at hQ; exact hQ) | (rw [b2_f (by omega)] at hQ; exact hQ)
/-- 0 to n -/
theorem out_t {v lo hi : Int} (hv : i32 v) (hlo : i32 lo) (hhi : i32 hi) (hc : v < lo ∨ hi < v) (Q : Option AV → Sto → Prop) : WpM zt 81 [AI v, AI lo, AI hi] (g, ρ) Q ↔ Q (some (AI 1)) (g, ρ) := by
  rw [isOutside_ok hv hlo hhi, b2_t hc]
theorem out_f {v lo hi : Int} (hv : i32 v) (hlo : i32 lo) (hhi : i32 hi) (hc : ¬ (v < lo ∨ hi < v)) (Q : Option AV → Sto → Prop) : WpM zt 81 [AI v, AI lo, AI hi] (g, ρ) Q ↔ Q (some (AI 0)) (g, ρ) := by
  rw [isOutside_ok hv hlo hhi, b2_f hc]
def sMouth (m w : Int) (X : XV) : Int := if 0 ≤ m ∧ m < X.1.1 0 0 ∧ 0 ≤ w ∧ w ≤ 1 then (if w = 0 then X.1.1 1 m.toNat else X.1.1 2 m.toNat) else -1
theorem c_mouth (hX : RepC g ρ L h X) (hW : WFX X) {m w : Int} (hm : i32 m) (hw : i32 w) (hQ : CQ g ρ L (sMouth m w X, X) Q) : WpM zt 67 [AR L, AI m, AI w] (g, ρ) Q := by
  obtain ⟨hLf, hN, -⟩ := id hX.1
  obtain ⟨hR, -⟩ := id hX.2.1
  have hWV := hR.wf (by omega) hW.1.1
  have hN1 := hN.1
  have hS := hN.2.1
  have q := hQ.ro hX
  unfold sMouth at q
  have e0 : g (ad (ad L 1) 1) 0 = X.1.1 0 0 := hR.l0
  have hb := w_M hWV
  have hmo := hasMouth_ok (zt := zt) (ρ := ρ) hS hWV (m := m) hm.1 hm.2
  rw [e0] at hmo
  by_cases c1 : 0 ≤ m ∧ m < X.1.1 0 0
  · rw [b2_t c1] at hmo
    by_cases c2 : 0 ≤ w ∧ w ≤ 1
    · have ho := fun Q => out_f (zt := zt) (g := g) (ρ := ρ) (lo := 0) (hi := 1) hw (by unfold i32; omega) (by unfold i32; omega) (by omega) Q
      rw [if_pos ⟨c1.1, c1.2, c2⟩] at q
      have r1 : g (ad (ad (ad L 1) 1) 1) m.toNat = X.1.1 1 m.toNat := hR.l1 (by omega)
      have r2 : g (ad (ad (ad L 1) 1) 2) m.toNat = X.1.1 2 m.toNat := hR.l2 (by omega)
      by_cases c3 : w = 0
      · rw [if_pos c3] at q
        subst c3
        simp only [m_L_mouth, b_L_mouth_0, P_L_mouth_23, b_L_mouth_23, P_L_mouth_25, b_L_mouth_25, P_L_mouth_44, b_L_mouth_44, P_L_mouth_56, b_L_mouth_56, wp_abs, wp_aln0, wp_copy, wp_cs1, wp_cs2, wp_cs3, wp_cs4, wp_cs5, wp_cs6, wp_cs7, wp_cv1, wp_cv2, wp_cv3, wp_cv4, wp_cv5, wp_cv6, wp_cv7, wp_goto, wp_iald, wp_iconst, wp_iln1, wp_iln2, wp_iret, wp_izeq, wp_izne, wp_max, wp_min, wp_nop, wp_zret, qsc_kd, qsc_k1, qsc_l1, qsc_gf1, qsc_k2, qsc_l2, qsc_gf2, qsc_k3, qsc_l3, qsc_gf3, qsc_k4, qsc_l4, qsc_gf4, qsc_k5, qsc_l5, qsc_gf6, qsc_k6, qsc_l6, qsc_gf7, qsc_k7, qsc_l7, qsc_gf9, qsc_k8, qsc_l8, qsc_gf10, qsc_gf0, qsc_pf0, qsc_gf5, qsc_pf5, qsc_gf8, qsc_pf8, qst_kd, qst_gf0, qst_k10, qst_l10, qst_gf1, qst_k29, qst_l29, qst_gf2, qlf_kd, qlf_gf0, qlf_k31, qlf_l31, qlf_gf1, qlf_gf3, qlf_gf4, qlf_gf5, qlf_gf6, qlf_k203, qlf_l203, qlf_gf7, qlf_gf2, qlf_pf2, qlf_gf8, qlf_pf8, wrI_row, cpI_row, row_s, row_n, row_ss, row_sw, upd_s, upd_n, ad_inj, ad_z, ad_z2, Nat.reduceEqDiff, reduceCtorEq, List.cons_append, List.nil_append, Option.toList_some, Option.toList_none, Int.toNat_natCast, List.length_cons, List.length_nil, Int.cast_ofNat_Int, Nat.reduceAdd, Nat.reduceLeDiff, Nat.reduceLT, Nat.reduceMul, Int.reduceAdd, Int.reduceSub, Int.reduceMul, Int.reduceNeg, Int.reduceLT, Int.reduceLE, Int.reduceEq, Int.reduceToNat, eq_self, true_and, and_true, true_or, or_true, false_or, or_false, if_true, if_false, not_true_eq_false, not_false_eq_true, and_self, ne_eq, hLf, hN1, hS, hmo, ho, r1, r2]
        (repeat' (first | apply And.intro | split)) <;> first | omega | exact q
      · rw [if_neg c3] at q
        simp only [m_L_mouth, b_L_mouth_0, P_L_mouth_23, b_L_mouth_23, P_L_mouth_25, b_L_mouth_25, P_L_mouth_44, b_L_mouth_44, P_L_mouth_56, b_L_mouth_56, wp_abs, wp_aln0, wp_copy, wp_cs1, wp_cs2, wp_cs3, wp_cs4, wp_cs5, wp_cs6, wp_cs7, wp_cv1, wp_cv2, wp_cv3, wp_cv4, wp_cv5, wp_cv6, wp_cv7, wp_goto, wp_iald, wp_iconst, wp_iln1, wp_iln2, wp_iret, wp_izeq, wp_izne, wp_max, wp_min, wp_nop, wp_zret, qsc_kd, qsc_k1, qsc_l1, qsc_gf1, qsc_k2, qsc_l2, qsc_gf2, qsc_k3, qsc_l3, qsc_gf3, qsc_k4, qsc_l4, qsc_gf4, qsc_k5, qsc_l5, qsc_gf6, qsc_k6, qsc_l6, qsc_gf7, qsc_k7, qsc_l7, qsc_gf9, qsc_k8, qsc_l8, qsc_gf10, qsc_gf0, qsc_pf0, qsc_gf5, qsc_pf5, qsc_gf8, qsc_pf8, qst_kd, qst_gf0, qst_k10, qst_l10, qst_gf1, qst_k29, qst_l29, qst_gf2, qlf_kd, qlf_gf0, qlf_k31, qlf_l31, qlf_gf1, qlf_gf3, qlf_gf4, qlf_gf5, qlf_gf6, qlf_k203, qlf_l203, qlf_gf7, qlf_gf2, qlf_pf2, qlf_gf8, qlf_pf8, wrI_row, cpI_row, row_s, row_n, row_ss, row_sw, upd_s, upd_n, ad_inj, ad_z, ad_z2, Nat.reduceEqDiff, reduceCtorEq, List.cons_append, List.nil_append, Option.toList_some, Option.toList_none, Int.toNat_natCast, List.length_cons, List.length_nil, Int.cast_ofNat_Int, Nat.reduceAdd, Nat.reduceLeDiff, Nat.reduceLT, Nat.reduceMul, Int.reduceAdd, Int.reduceSub, Int.reduceMul, Int.reduceNeg, Int.reduceLT, Int.reduceLE, Int.reduceEq, Int.reduceToNat, eq_self, true_and, and_true, true_or, or_true, false_or, or_false, if_true, if_false, not_true_eq_false, not_false_eq_true, and_self, ne_eq, hLf, hN1, hS, hmo, ho, r1, r2, c3]
        (repeat' (first | apply And.intro | split)) <;> first | omega | exact q
    · have ho := fun Q => out_t (zt := zt) (g := g) (ρ := ρ) (lo := 0) (hi := 1) hw (by unfold i32; omega) (by unfold i32; omega) (by omega) Q
      rw [if_neg (by omega)] at q
      simp only [m_L_mouth, b_L_mouth_0, P_L_mouth_23, b_L_mouth_23, P_L_mouth_25, b_L_mouth_25, P_L_mouth_44, b_L_mouth_44, P_L_mouth_56, b_L_mouth_56, wp_abs, wp_aln0, wp_copy, wp_cs1, wp_cs2, wp_cs3, wp_cs4, wp_cs5, wp_cs6, wp_cs7, wp_cv1, wp_cv2, wp_cv3, wp_cv4, wp_cv5, wp_cv6, wp_cv7, wp_goto, wp_iald, wp_iconst, wp_iln1, wp_iln2, wp_iret, wp_izeq, wp_izne, wp_max, wp_min, wp_nop, wp_zret, qsc_kd, qsc_k1, qsc_l1, qsc_gf1, qsc_k2, qsc_l2, qsc_gf2, qsc_k3, qsc_l3, qsc_gf3, qsc_k4, qsc_l4, qsc_gf4, qsc_k5, qsc_l5, qsc_gf6, qsc_k6, qsc_l6, qsc_gf7, qsc_k7, qsc_l7, qsc_gf9, qsc_k8, qsc_l8, qsc_gf10, qsc_gf0, qsc_pf0, qsc_gf5, qsc_pf5, qsc_gf8, qsc_pf8, qst_kd, qst_gf0, qst_k10, qst_l10, qst_gf1, qst_k29, qst_l29, qst_gf2, qlf_kd, qlf_gf0, qlf_k31, qlf_l31, qlf_gf1, qlf_gf3, qlf_gf4, qlf_gf5, qlf_gf6, qlf_k203, qlf_l203, qlf_gf7, qlf_gf2, qlf_pf2, qlf_gf8, qlf_pf8, wrI_row, cpI_row, row_s, row_n, row_ss, row_sw, upd_s, upd_n, ad_inj, ad_z, ad_z2, Nat.reduceEqDiff, reduceCtorEq, List.cons_append, List.nil_append, Option.toList_some, Option.toList_none, Int.toNat_natCast, List.length_cons, List.length_nil, Int.cast_ofNat_Int, Nat.reduceAdd, Nat.reduceLeDiff, Nat.reduceLT, Nat.reduceMul, Int.reduceAdd, Int.reduceSub, Int.reduceMul, Int.reduceNeg, Int.reduceLT, Int.reduceLE, Int.reduceEq, Int.reduceToNat, eq_self, true_and, and_true, true_or, or_true, false_or, or_false, if_true, if_false, not_true_eq_false, not_false_eq_true, and_self, ne_eq, hLf, hN1, hS, hmo, ho]
      (repeat' (first | apply And.intro | split)) <;> first | omega | exact q
  · rw [b2_f c1] at hmo
    rw [if_neg (by omega)] at q
    simp only [m_L_mouth, b_L_mouth_0, P_L_mouth_23, b_L_mouth_23, P_L_mouth_25, b_L_mouth_25, P_L_mouth_44, b_L_mouth_44, P_L_mouth_56, b_L_mouth_56, wp_abs, wp_aln0, wp_copy, wp_cs1, wp_cs2, wp_cs3, wp_cs4, wp_cs5, wp_cs6, wp_cs7, wp_cv1, wp_cv2, wp_cv3, wp_cv4, wp_cv5, wp_cv6, wp_cv7, wp_goto, wp_iald, wp_iconst, wp_iln1, wp_iln2, wp_iret, wp_izeq, wp_izne, wp_max, wp_min, wp_nop, wp_zret, qsc_kd, qsc_k1, qsc_l1, qsc_gf1, qsc_k2, qsc_l2, qsc_gf2, qsc_k3, qsc_l3, qsc_gf3, qsc_k4, qsc_l4, qsc_gf4, qsc_k5, qsc_l5, qsc_gf6, qsc_k6, qsc_l6, qsc_gf7, qsc_k7, qsc_l7, qsc_gf9, qsc_k8, qsc_l8, qsc_gf10, qsc_gf0, qsc_pf0, qsc_gf5, qsc_pf5, qsc_gf8, qsc_pf8, qst_kd, qst_gf0, qst_k10, qst_l10, qst_gf1, qst_k29, qst_l29, qst_gf2, qlf_kd, qlf_gf0, qlf_k31, qlf_l31, qlf_gf1, qlf_gf3, qlf_gf4, qlf_gf5, qlf_gf6, qlf_k203, qlf_l203, qlf_gf7, qlf_gf2, qlf_pf2, qlf_gf8, qlf_pf8, wrI_row, cpI_row, row_s, row_n, row_ss, row_sw, upd_s, upd_n, ad_inj, ad_z, ad_z2, Nat.reduceEqDiff, reduceCtorEq, List.cons_append, List.nil_append, Option.toList_some, Option.toList_none, Int.toNat_natCast, List.length_cons, List.length_nil, Int.cast_ofNat_Int, Nat.reduceAdd, Nat.reduceLeDiff, Nat.reduceLT, Nat.reduceMul, Int.reduceAdd, Int.reduceSub, Int.reduceMul, Int.reduceNeg, Int.reduceLT, Int.reduceLE, Int.reduceEq, Int.reduceToNat, eq_self, true_and, and_true, true_or, or_true, false_or, or_false, if_true, if_false, not_true_eq_false, not_false_eq_true, and_self, ne_eq, hLf, hN1, hS, hmo]
    (repeat' (first | apply And.intro | split)) <;> first | omega | exact q
theorem lk_in {v lo hi : Int} (hlo : -1000 ≤ lo) (hhi : hi ≤ 99999) (hc : lo ≤ v ∧ v ≤ hi) (Q : Option AV → Sto → Prop) : WpM zt 81 [AI v, AI lo, AI hi] (g, ρ) Q ↔ Q (some (AI 0)) (g, ρ) := out_f (by unfold i32; omega) (by unfold i32; omega) (by unfold i32; omega) (by omega) Q
theorem lk_out {v lo hi : Int} (hv : i32 v) (hlo : -1000 ≤ lo ∧ lo ≤ 99999) (hhi : -1000 ≤ hi ∧ hi ≤ 99999) (hc : ¬ (lo ≤ v ∧ v ≤ hi)) (Q : Option AV → Sto → Prop) : WpM zt 81 [AI v, AI lo, AI hi] (g, ρ) Q ↔ Q (some (AI 1)) (g, ρ) := out_t hv (by unfold i32; omega) (by unfold i32; omega) (by omega) Q
def sJump (x y : Int) (X : XV) : Int := if (0 ≤ x ∧ x < X.1.1 0 0) ∧ 0 ≤ y ∧ y < X.1.1 0 0 then jmpV X.1.1 x.toNat y.toNat else -1
theorem c_jump (hX : RepC g ρ L h X) (hW : WFX X) {x y : Int} (hx : i32 x) (hy : i32 y) (hQ : CQ g ρ L (sJump x y X, X) Q) : WpM zt 68 [AR L, AI x, AI y] (g, ρ) Q := by
  obtain ⟨hLf, hN, -⟩ := id hX.1
  obtain ⟨hR, -⟩ := id hX.2.1
  have hU := hW.1.1
  have hWV := hR.wf (by omega) hU
  have hN1 := hN.1
  have hS := hN.2.1
  have e0 : g (ad (ad L 1) 1) 0 = X.1.1 0 0 := hR.l0
  have e5 : g (ad (ad L 1) 1) 5 = X.1.1 5 0 := hR.l5
  have e8 : g (ad (ad L 1) 1) 8 = X.1.1 8 0 := hR.l8
  have b0 := hU.1
  have b5 := hU.2.2.2.2.1
  have b8 := hU.2.2.2.2.2.2.1
  have q := hQ.ro hX
  unfold sJump at q
  have hm1 := hasMouth_ok (zt := zt) (ρ := ρ) hS hWV (m := x) hx.1 hx.2
  have hm2 := hasMouth_ok (zt := zt) (ρ := ρ) hS hWV (m := y) hy.1 hy.2
  rw [e0] at hm1 hm2
  by_cases c1 : 0 ≤ x ∧ x < X.1.1 0 0
  · rw [b2_t c1] at hm1
    by_cases c2 : 0 ≤ y ∧ y < X.1.1 0 0
    · rw [b2_t c2] at hm2
      rw [if_pos ⟨c1, c2⟩] at q
      have hj := jumpOf_ok (zt := zt) (ρ := ρ) hS hWV c1.1 (by rw [e0]; exact c1.2) c2.1 (by rw [e0]; exact c2.2)
      rw [hR.jmp (by omega) (by omega)] at hj
      simp only [m_L_jump, b_L_jump_0, P_L_jump_28, b_L_jump_28, P_L_jump_30, b_L_jump_30, wp_aln0, wp_cv1, wp_cv2, wp_cv3, wp_cv4, wp_cv5, wp_cv6, wp_cv7, wp_iconst, wp_iln1, wp_iln2, wp_iret, wp_izeq, wp_izne, wp_nop, wp_zret, qsc_kd, qsc_k1, qsc_l1, qsc_gf1, qsc_k2, qsc_l2, qsc_gf2, qsc_k3, qsc_l3, qsc_gf3, qsc_k4, qsc_l4, qsc_gf4, qsc_k5, qsc_l5, qsc_gf6, qsc_k6, qsc_l6, qsc_gf7, qsc_k7, qsc_l7, qsc_gf9, qsc_k8, qsc_l8, qsc_gf10, qsc_gf0, qsc_pf0, qsc_gf5, qsc_pf5, qsc_gf8, qsc_pf8, qst_kd, qst_gf0, qst_k10, qst_l10, qst_gf1, qst_k29, qst_l29, qst_gf2, qlf_kd, qlf_gf0, qlf_k31, qlf_l31, qlf_gf1, qlf_gf3, qlf_gf4, qlf_gf5, qlf_gf6, qlf_k203, qlf_l203, qlf_gf7, qlf_gf2, qlf_pf2, qlf_gf8, qlf_pf8, wrI_row, cpI_row, row_s, row_n, row_ss, row_sw, upd_s, upd_n, ad_inj, ad_z, ad_z2, Nat.reduceEqDiff, reduceCtorEq, List.cons_append, List.nil_append, Option.toList_some, Option.toList_none, Int.toNat_natCast, List.length_cons, List.length_nil, Int.cast_ofNat_Int, Nat.reduceAdd, Nat.reduceLeDiff, Nat.reduceLT, Nat.reduceMul, Int.reduceAdd, Int.reduceSub, Int.reduceMul, Int.reduceNeg, Int.reduceLT, Int.reduceLE, Int.reduceEq, Int.reduceToNat, eq_self, true_and, and_true, true_or, or_true, false_or, or_false, if_true, if_false, not_true_eq_false, not_false_eq_true, and_self, ne_eq, hLf, hN1, hS, hm1, hm2, hj]
      (repeat' (first | apply And.intro | split)) <;> first | omega | exact q
    · rw [b2_f c2] at hm2
      rw [if_neg (fun z => c2 z.2)] at q
      simp only [m_L_jump, b_L_jump_0, P_L_jump_28, b_L_jump_28, P_L_jump_30, b_L_jump_30, wp_aln0, wp_cv1, wp_cv2, wp_cv3, wp_cv4, wp_cv5, wp_cv6, wp_cv7, wp_iconst, wp_iln1, wp_iln2, wp_iret, wp_izeq, wp_izne, wp_nop, wp_zret, qsc_kd, qsc_k1, qsc_l1, qsc_gf1, qsc_k2, qsc_l2, qsc_gf2, qsc_k3, qsc_l3, qsc_gf3, qsc_k4, qsc_l4, qsc_gf4, qsc_k5, qsc_l5, qsc_gf6, qsc_k6, qsc_l6, qsc_gf7, qsc_k7, qsc_l7, qsc_gf9, qsc_k8, qsc_l8, qsc_gf10, qsc_gf0, qsc_pf0, qsc_gf5, qsc_pf5, qsc_gf8, qsc_pf8, qst_kd, qst_gf0, qst_k10, qst_l10, qst_gf1, qst_k29, qst_l29, qst_gf2, qlf_kd, qlf_gf0, qlf_k31, qlf_l31, qlf_gf1, qlf_gf3, qlf_gf4, qlf_gf5, qlf_gf6, qlf_k203, qlf_l203, qlf_gf7, qlf_gf2, qlf_pf2, qlf_gf8, qlf_pf8, wrI_row, cpI_row, row_s, row_n, row_ss, row_sw, upd_s, upd_n, ad_inj, ad_z, ad_z2, Nat.reduceEqDiff, reduceCtorEq, List.cons_append, List.nil_append, Option.toList_some, Option.toList_none, Int.toNat_natCast, List.length_cons, List.length_nil, Int.cast_ofNat_Int, Nat.reduceAdd, Nat.reduceLeDiff, Nat.reduceLT, Nat.reduceMul, Int.reduceAdd, Int.reduceSub, Int.reduceMul, Int.reduceNeg, Int.reduceLT, Int.reduceLE, Int.reduceEq, Int.reduceToNat, eq_self, true_and, and_true, true_or, or_true, false_or, or_false, if_true, if_false, not_true_eq_false, not_false_eq_true, and_self, ne_eq, hLf, hN1, hS, hm1, hm2]
      (repeat' (first | apply And.intro | split)) <;> first | omega | exact q
  · rw [b2_f c1] at hm1
    rw [if_neg (fun z => c1 z.1)] at q
    simp only [m_L_jump, b_L_jump_0, P_L_jump_28, b_L_jump_28, P_L_jump_30, b_L_jump_30, wp_aln0, wp_cv1, wp_cv2, wp_cv3, wp_cv4, wp_cv5, wp_cv6, wp_cv7, wp_iconst, wp_iln1, wp_iln2, wp_iret, wp_izeq, wp_izne, wp_nop, wp_zret, qsc_kd, qsc_k1, qsc_l1, qsc_gf1, qsc_k2, qsc_l2, qsc_gf2, qsc_k3, qsc_l3, qsc_gf3, qsc_k4, qsc_l4, qsc_gf4, qsc_k5, qsc_l5, qsc_gf6, qsc_k6, qsc_l6, qsc_gf7, qsc_k7, qsc_l7, qsc_gf9, qsc_k8, qsc_l8, qsc_gf10, qsc_gf0, qsc_pf0, qsc_gf5, qsc_pf5, qsc_gf8, qsc_pf8, qst_kd, qst_gf0, qst_k10, qst_l10, qst_gf1, qst_k29, qst_l29, qst_gf2, qlf_kd, qlf_gf0, qlf_k31, qlf_l31, qlf_gf1, qlf_gf3, qlf_gf4, qlf_gf5, qlf_gf6, qlf_k203, qlf_l203, qlf_gf7, qlf_gf2, qlf_pf2, qlf_gf8, qlf_pf8, wrI_row, cpI_row, row_s, row_n, row_ss, row_sw, upd_s, upd_n, ad_inj, ad_z, ad_z2, Nat.reduceEqDiff, reduceCtorEq, List.cons_append, List.nil_append, Option.toList_some, Option.toList_none, Int.toNat_natCast, List.length_cons, List.length_nil, Int.cast_ofNat_Int, Nat.reduceAdd, Nat.reduceLeDiff, Nat.reduceLT, Nat.reduceMul, Int.reduceAdd, Int.reduceSub, Int.reduceMul, Int.reduceNeg, Int.reduceLT, Int.reduceLE, Int.reduceEq, Int.reduceToNat, eq_self, true_and, and_true, true_or, or_true, false_or, or_false, if_true, if_false, not_true_eq_false, not_false_eq_true, and_self, ne_eq, hLf, hN1, hS, hm1]
    (repeat' (first | apply And.intro | split)) <;> first | omega | exact q
def sNumber (w : Int) (X : XV) : Int := if 0 ≤ w ∧ w ≤ 4 then X.1.1 4 w.toNat else -1
theorem c_number (hX : RepC g ρ L h X) (hW : WFX X) {w : Int} (hw : i32 w) (hQ : CQ g ρ L (sNumber w X, X) Q) : WpM zt 70 [AR L, AI w] (g, ρ) Q := by
  obtain ⟨hLf, hN, -⟩ := id hX.1
  obtain ⟨hR, -⟩ := id hX.2.1
  have hU := hW.1.1
  have hWV := hR.wf (by omega) hU
  have hN1 := hN.1
  have hS := hN.2.1
  have e0 : g (ad (ad L 1) 1) 0 = X.1.1 0 0 := hR.l0
  have e5 : g (ad (ad L 1) 1) 5 = X.1.1 5 0 := hR.l5
  have e8 : g (ad (ad L 1) 1) 8 = X.1.1 8 0 := hR.l8
  have b0 := hU.1
  have b5 := hU.2.2.2.2.1
  have b8 := hU.2.2.2.2.2.2.1
  have q := hQ.ro hX
  unfold sNumber at q
  by_cases c : 0 ≤ w ∧ w ≤ 4
  · rw [if_pos c] at q
    have ho := fun Q => lk_in (zt := zt) (g := g) (ρ := ρ) (lo := 0) (hi := 4) (by omega) (by omega) c Q
    have r1 : g (ad (ad (ad L 1) 1) 4) w.toNat = X.1.1 4 w.toNat := hR.l4 (by omega)
    simp only [m_L_number, b_L_number_0, P_L_number_11, b_L_number_11, wp_abs, wp_aln0, wp_copy, wp_cs1, wp_cs2, wp_cs3, wp_cs4, wp_cs5, wp_cs6, wp_cs7, wp_iald, wp_iconst, wp_iln1, wp_iret, wp_izeq, wp_max, wp_min, wp_zret, qsc_kd, qsc_k1, qsc_l1, qsc_gf1, qsc_k2, qsc_l2, qsc_gf2, qsc_k3, qsc_l3, qsc_gf3, qsc_k4, qsc_l4, qsc_gf4, qsc_k5, qsc_l5, qsc_gf6, qsc_k6, qsc_l6, qsc_gf7, qsc_k7, qsc_l7, qsc_gf9, qsc_k8, qsc_l8, qsc_gf10, qsc_gf0, qsc_pf0, qsc_gf5, qsc_pf5, qsc_gf8, qsc_pf8, qst_kd, qst_gf0, qst_k10, qst_l10, qst_gf1, qst_k29, qst_l29, qst_gf2, qlf_kd, qlf_gf0, qlf_k31, qlf_l31, qlf_gf1, qlf_gf3, qlf_gf4, qlf_gf5, qlf_gf6, qlf_k203, qlf_l203, qlf_gf7, qlf_gf2, qlf_pf2, qlf_gf8, qlf_pf8, wrI_row, cpI_row, row_s, row_n, row_ss, row_sw, upd_s, upd_n, ad_inj, ad_z, ad_z2, Nat.reduceEqDiff, reduceCtorEq, List.cons_append, List.nil_append, Option.toList_some, Option.toList_none, Int.toNat_natCast, List.length_cons, List.length_nil, Int.cast_ofNat_Int, Nat.reduceAdd, Nat.reduceLeDiff, Nat.reduceLT, Nat.reduceMul, Int.reduceAdd, Int.reduceSub, Int.reduceMul, Int.reduceNeg, Int.reduceLT, Int.reduceLE, Int.reduceEq, Int.reduceToNat, eq_self, true_and, and_true, true_or, or_true, false_or, or_false, if_true, if_false, not_true_eq_false, not_false_eq_true, and_self, ne_eq, hLf, hN1, hS, ho, r1]
    (repeat' (first | apply And.intro | split)) <;> first | omega | exact q
  · rw [if_neg c] at q
    have ho := fun Q => lk_out (zt := zt) (g := g) (ρ := ρ) (lo := 0) (hi := 4) hw (by omega) (by omega) c Q
    simp only [m_L_number, b_L_number_0, P_L_number_11, b_L_number_11, wp_abs, wp_aln0, wp_copy, wp_cs1, wp_cs2, wp_cs3, wp_cs4, wp_cs5, wp_cs6, wp_cs7, wp_iald, wp_iconst, wp_iln1, wp_iret, wp_izeq, wp_max, wp_min, wp_zret, qsc_kd, qsc_k1, qsc_l1, qsc_gf1, qsc_k2, qsc_l2, qsc_gf2, qsc_k3, qsc_l3, qsc_gf3, qsc_k4, qsc_l4, qsc_gf4, qsc_k5, qsc_l5, qsc_gf6, qsc_k6, qsc_l6, qsc_gf7, qsc_k7, qsc_l7, qsc_gf9, qsc_k8, qsc_l8, qsc_gf10, qsc_gf0, qsc_pf0, qsc_gf5, qsc_pf5, qsc_gf8, qsc_pf8, qst_kd, qst_gf0, qst_k10, qst_l10, qst_gf1, qst_k29, qst_l29, qst_gf2, qlf_kd, qlf_gf0, qlf_k31, qlf_l31, qlf_gf1, qlf_gf3, qlf_gf4, qlf_gf5, qlf_gf6, qlf_k203, qlf_l203, qlf_gf7, qlf_gf2, qlf_pf2, qlf_gf8, qlf_pf8, wrI_row, cpI_row, row_s, row_n, row_ss, row_sw, upd_s, upd_n, ad_inj, ad_z, ad_z2, Nat.reduceEqDiff, reduceCtorEq, List.cons_append, List.nil_append, Option.toList_some, Option.toList_none, Int.toNat_natCast, List.length_cons, List.length_nil, Int.cast_ofNat_Int, Nat.reduceAdd, Nat.reduceLeDiff, Nat.reduceLT, Nat.reduceMul, Int.reduceAdd, Int.reduceSub, Int.reduceMul, Int.reduceNeg, Int.reduceLT, Int.reduceLE, Int.reduceEq, Int.reduceToNat, eq_self, true_and, and_true, true_or, or_true, false_or, or_false, if_true, if_false, not_true_eq_false, not_false_eq_true, and_self, ne_eq, hLf, hN1, hS, ho]
    (repeat' (first | apply And.intro | split)) <;> first | omega | exact q
def sSound (kd w : Int) (X : XV) : Int := if (0 ≤ kd ∧ kd ≤ 8) ∧ 0 ≤ w ∧ w ≤ 3 then X.1.1 3 (kd * 4 + w).toNat else -1
theorem c_sound (hX : RepC g ρ L h X) (hW : WFX X) {kd w : Int} (hk : i32 kd) (hw : i32 w) (hQ : CQ g ρ L (sSound kd w X, X) Q) : WpM zt 69 [AR L, AI kd, AI w] (g, ρ) Q := by
  obtain ⟨hLf, hN, -⟩ := id hX.1
  obtain ⟨hR, -⟩ := id hX.2.1
  have hU := hW.1.1
  have hWV := hR.wf (by omega) hU
  have hN1 := hN.1
  have hS := hN.2.1
  have e0 : g (ad (ad L 1) 1) 0 = X.1.1 0 0 := hR.l0
  have e5 : g (ad (ad L 1) 1) 5 = X.1.1 5 0 := hR.l5
  have e8 : g (ad (ad L 1) 1) 8 = X.1.1 8 0 := hR.l8
  have b0 := hU.1
  have b5 := hU.2.2.2.2.1
  have b8 := hU.2.2.2.2.2.2.1
  have q := hQ.ro hX
  unfold sSound at q
  by_cases c1 : 0 ≤ kd ∧ kd ≤ 8
  · have ho1 := fun Q => lk_in (zt := zt) (g := g) (ρ := ρ) (lo := 0) (hi := 8) (by omega) (by omega) c1 Q
    by_cases c2 : 0 ≤ w ∧ w ≤ 3
    · have ho2 := fun Q => lk_in (zt := zt) (g := g) (ρ := ρ) (lo := 0) (hi := 3) (by omega) (by omega) c2 Q
      rw [if_pos ⟨c1, c2⟩] at q
      have r1 : g (ad (ad (ad L 1) 1) 3) (kd * 4 + w).toNat = X.1.1 3 (kd * 4 + w).toNat := hR.l3 (by omega)
      simp only [m_L_sound, b_L_sound_0, P_L_sound_19, b_L_sound_19, P_L_sound_21, b_L_sound_21, wp_abs, wp_aln0, wp_bipush, wp_copy, wp_cs1, wp_cs2, wp_cs3, wp_cs4, wp_cs5, wp_cs6, wp_cs7, wp_iadd, wp_iald, wp_iconst, wp_iln1, wp_iln2, wp_imul, wp_iret, wp_izeq, wp_izne, wp_max, wp_min, wp_nop, wp_zret, qsc_kd, qsc_k1, qsc_l1, qsc_gf1, qsc_k2, qsc_l2, qsc_gf2, qsc_k3, qsc_l3, qsc_gf3, qsc_k4, qsc_l4, qsc_gf4, qsc_k5, qsc_l5, qsc_gf6, qsc_k6, qsc_l6, qsc_gf7, qsc_k7, qsc_l7, qsc_gf9, qsc_k8, qsc_l8, qsc_gf10, qsc_gf0, qsc_pf0, qsc_gf5, qsc_pf5, qsc_gf8, qsc_pf8, qst_kd, qst_gf0, qst_k10, qst_l10, qst_gf1, qst_k29, qst_l29, qst_gf2, qlf_kd, qlf_gf0, qlf_k31, qlf_l31, qlf_gf1, qlf_gf3, qlf_gf4, qlf_gf5, qlf_gf6, qlf_k203, qlf_l203, qlf_gf7, qlf_gf2, qlf_pf2, qlf_gf8, qlf_pf8, wrI_row, cpI_row, row_s, row_n, row_ss, row_sw, upd_s, upd_n, ad_inj, ad_z, ad_z2, Nat.reduceEqDiff, reduceCtorEq, List.cons_append, List.nil_append, Option.toList_some, Option.toList_none, Int.toNat_natCast, List.length_cons, List.length_nil, Int.cast_ofNat_Int, Nat.reduceAdd, Nat.reduceLeDiff, Nat.reduceLT, Nat.reduceMul, Int.reduceAdd, Int.reduceSub, Int.reduceMul, Int.reduceNeg, Int.reduceLT, Int.reduceLE, Int.reduceEq, Int.reduceToNat, eq_self, true_and, and_true, true_or, or_true, false_or, or_false, if_true, if_false, not_true_eq_false, not_false_eq_true, and_self, ne_eq, hLf, hN1, hS, ho1, ho2, r1]
      (repeat' (first | apply And.intro | split)) <;> first | omega | exact q
    · have ho2 := fun Q => lk_out (zt := zt) (g := g) (ρ := ρ) (lo := 0) (hi := 3) hw (by omega) (by omega) c2 Q
      rw [if_neg (fun z => c2 z.2)] at q
      simp only [m_L_sound, b_L_sound_0, P_L_sound_19, b_L_sound_19, P_L_sound_21, b_L_sound_21, wp_abs, wp_aln0, wp_bipush, wp_copy, wp_cs1, wp_cs2, wp_cs3, wp_cs4, wp_cs5, wp_cs6, wp_cs7, wp_iadd, wp_iald, wp_iconst, wp_iln1, wp_iln2, wp_imul, wp_iret, wp_izeq, wp_izne, wp_max, wp_min, wp_nop, wp_zret, qsc_kd, qsc_k1, qsc_l1, qsc_gf1, qsc_k2, qsc_l2, qsc_gf2, qsc_k3, qsc_l3, qsc_gf3, qsc_k4, qsc_l4, qsc_gf4, qsc_k5, qsc_l5, qsc_gf6, qsc_k6, qsc_l6, qsc_gf7, qsc_k7, qsc_l7, qsc_gf9, qsc_k8, qsc_l8, qsc_gf10, qsc_gf0, qsc_pf0, qsc_gf5, qsc_pf5, qsc_gf8, qsc_pf8, qst_kd, qst_gf0, qst_k10, qst_l10, qst_gf1, qst_k29, qst_l29, qst_gf2, qlf_kd, qlf_gf0, qlf_k31, qlf_l31, qlf_gf1, qlf_gf3, qlf_gf4, qlf_gf5, qlf_gf6, qlf_k203, qlf_l203, qlf_gf7, qlf_gf2, qlf_pf2, qlf_gf8, qlf_pf8, wrI_row, cpI_row, row_s, row_n, row_ss, row_sw, upd_s, upd_n, ad_inj, ad_z, ad_z2, Nat.reduceEqDiff, reduceCtorEq, List.cons_append, List.nil_append, Option.toList_some, Option.toList_none, Int.toNat_natCast, List.length_cons, List.length_nil, Int.cast_ofNat_Int, Nat.reduceAdd, Nat.reduceLeDiff, Nat.reduceLT, Nat.reduceMul, Int.reduceAdd, Int.reduceSub, Int.reduceMul, Int.reduceNeg, Int.reduceLT, Int.reduceLE, Int.reduceEq, Int.reduceToNat, eq_self, true_and, and_true, true_or, or_true, false_or, or_false, if_true, if_false, not_true_eq_false, not_false_eq_true, and_self, ne_eq, hLf, hN1, hS, ho1, ho2]
      (repeat' (first | apply And.intro | split)) <;> first | omega | exact q
  · have ho1 := fun Q => lk_out (zt := zt) (g := g) (ρ := ρ) (lo := 0) (hi := 8) hk (by omega) (by omega) c1 Q
    rw [if_neg (fun z => c1 z.1)] at q
    simp only [m_L_sound, b_L_sound_0, P_L_sound_19, b_L_sound_19, P_L_sound_21, b_L_sound_21, wp_abs, wp_aln0, wp_bipush, wp_copy, wp_cs1, wp_cs2, wp_cs3, wp_cs4, wp_cs5, wp_cs6, wp_cs7, wp_iadd, wp_iald, wp_iconst, wp_iln1, wp_iln2, wp_imul, wp_iret, wp_izeq, wp_izne, wp_max, wp_min, wp_nop, wp_zret, qsc_kd, qsc_k1, qsc_l1, qsc_gf1, qsc_k2, qsc_l2, qsc_gf2, qsc_k3, qsc_l3, qsc_gf3, qsc_k4, qsc_l4, qsc_gf4, qsc_k5, qsc_l5, qsc_gf6, qsc_k6, qsc_l6, qsc_gf7, qsc_k7, qsc_l7, qsc_gf9, qsc_k8, qsc_l8, qsc_gf10, qsc_gf0, qsc_pf0, qsc_gf5, qsc_pf5, qsc_gf8, qsc_pf8, qst_kd, qst_gf0, qst_k10, qst_l10, qst_gf1, qst_k29, qst_l29, qst_gf2, qlf_kd, qlf_gf0, qlf_k31, qlf_l31, qlf_gf1, qlf_gf3, qlf_gf4, qlf_gf5, qlf_gf6, qlf_k203, qlf_l203, qlf_gf7, qlf_gf2, qlf_pf2, qlf_gf8, qlf_pf8, wrI_row, cpI_row, row_s, row_n, row_ss, row_sw, upd_s, upd_n, ad_inj, ad_z, ad_z2, Nat.reduceEqDiff, reduceCtorEq, List.cons_append, List.nil_append, Option.toList_some, Option.toList_none, Int.toNat_natCast, List.length_cons, List.length_nil, Int.cast_ofNat_Int, Nat.reduceAdd, Nat.reduceLeDiff, Nat.reduceLT, Nat.reduceMul, Int.reduceAdd, Int.reduceSub, Int.reduceMul, Int.reduceNeg, Int.reduceLT, Int.reduceLE, Int.reduceEq, Int.reduceToNat, eq_self, true_and, and_true, true_or, or_true, false_or, or_false, if_true, if_false, not_true_eq_false, not_false_eq_true, and_self, ne_eq, hLf, hN1, hS, ho1]
    (repeat' (first | apply And.intro | split)) <;> first | omega | exact q
def sWrong (f m : Int) (X : XV) : Int := if (0 ≤ f ∧ f < X.1.1 8 0) ∧ 0 ≤ m ∧ m < X.1.1 0 0 then wrgV X.1.1 (kndV X.1.1 f) m.toNat else -1
theorem c_wrongness (hX : RepC g ρ L h X) (hW : WFX X) {f m : Int} (hf : i32 f) (hm : i32 m) (hQ : CQ g ρ L (sWrong f m X, X) Q) : WpM zt 73 [AR L, AI f, AI m] (g, ρ) Q := by
  obtain ⟨hLf, hN, -⟩ := id hX.1
  obtain ⟨hR, -⟩ := id hX.2.1
  have hU := hW.1.1
  have hWV := hR.wf (by omega) hU
  have hN1 := hN.1
  have hS := hN.2.1
  have e0 : g (ad (ad L 1) 1) 0 = X.1.1 0 0 := hR.l0
  have e5 : g (ad (ad L 1) 1) 5 = X.1.1 5 0 := hR.l5
  have e8 : g (ad (ad L 1) 1) 8 = X.1.1 8 0 := hR.l8
  have b0 := hU.1
  have b5 := hU.2.2.2.2.1
  have b8 := hU.2.2.2.2.2.2.1
  have q := hQ.ro hX
  unfold sWrong at q
  have hm1 := hasFrame_ok (zt := zt) (ρ := ρ) hS hWV (m := f) hf.1 hf.2
  have hm2 := hasMouth_ok (zt := zt) (ρ := ρ) hS hWV (m := m) hm.1 hm.2
  rw [e8] at hm1
  rw [e0] at hm2
  by_cases c1 : 0 ≤ f ∧ f < X.1.1 8 0
  · rw [b2_t c1] at hm1
    by_cases c2 : 0 ≤ m ∧ m < X.1.1 0 0
    · rw [b2_t c2] at hm2
      rw [if_pos ⟨c1, c2⟩] at q
      have hka := kindAt_ok (zt := zt) (ρ := ρ) hS hWV (f := f) (by omega) (by omega)
      have ef : ((f.toNat : Nat) : Int) = f := by omega
      have hke := hR.knd hU (f := f.toNat) (by omega)
      rw [ef] at hke
      rw [hke] at hka
      have hkb := kndV_lt hU (f := f.toNat) (by omega)
      rw [ef] at hkb
      have hwr := wrongOf_ok (zt := zt) (ρ := ρ) hS hWV (kd := kndV X.1.1 f) (m := m) hkb.1 hkb.2 c2.1 (by rw [e0]; exact c2.2)
      rw [hR.wrg hkb.1 hkb.2 (by omega)] at hwr
      simp only [m_L_wrongness, b_L_wrongness_0, P_L_wrongness_28, b_L_wrongness_28, P_L_wrongness_30, b_L_wrongness_30, wp_aln0, wp_cv1, wp_cv2, wp_cv3, wp_cv4, wp_cv5, wp_cv6, wp_cv7, wp_iconst, wp_iln1, wp_iln2, wp_iret, wp_izeq, wp_izne, wp_nop, wp_zret, qsc_kd, qsc_k1, qsc_l1, qsc_gf1, qsc_k2, qsc_l2, qsc_gf2, qsc_k3, qsc_l3, qsc_gf3, qsc_k4, qsc_l4, qsc_gf4, qsc_k5, qsc_l5, qsc_gf6, qsc_k6, qsc_l6, qsc_gf7, qsc_k7, qsc_l7, qsc_gf9, qsc_k8, qsc_l8, qsc_gf10, qsc_gf0, qsc_pf0, qsc_gf5, qsc_pf5, qsc_gf8, qsc_pf8, qst_kd, qst_gf0, qst_k10, qst_l10, qst_gf1, qst_k29, qst_l29, qst_gf2, qlf_kd, qlf_gf0, qlf_k31, qlf_l31, qlf_gf1, qlf_gf3, qlf_gf4, qlf_gf5, qlf_gf6, qlf_k203, qlf_l203, qlf_gf7, qlf_gf2, qlf_pf2, qlf_gf8, qlf_pf8, wrI_row, cpI_row, row_s, row_n, row_ss, row_sw, upd_s, upd_n, ad_inj, ad_z, ad_z2, Nat.reduceEqDiff, reduceCtorEq, List.cons_append, List.nil_append, Option.toList_some, Option.toList_none, Int.toNat_natCast, List.length_cons, List.length_nil, Int.cast_ofNat_Int, Nat.reduceAdd, Nat.reduceLeDiff, Nat.reduceLT, Nat.reduceMul, Int.reduceAdd, Int.reduceSub, Int.reduceMul, Int.reduceNeg, Int.reduceLT, Int.reduceLE, Int.reduceEq, Int.reduceToNat, eq_self, true_and, and_true, true_or, or_true, false_or, or_false, if_true, if_false, not_true_eq_false, not_false_eq_true, and_self, ne_eq, hLf, hN1, hS, hm1, hm2, hka, hwr]
      (repeat' (first | apply And.intro | split)) <;> first | omega | exact q
    · rw [b2_f c2] at hm2
      rw [if_neg (fun z => c2 z.2)] at q
      simp only [m_L_wrongness, b_L_wrongness_0, P_L_wrongness_28, b_L_wrongness_28, P_L_wrongness_30, b_L_wrongness_30, wp_aln0, wp_cv1, wp_cv2, wp_cv3, wp_cv4, wp_cv5, wp_cv6, wp_cv7, wp_iconst, wp_iln1, wp_iln2, wp_iret, wp_izeq, wp_izne, wp_nop, wp_zret, qsc_kd, qsc_k1, qsc_l1, qsc_gf1, qsc_k2, qsc_l2, qsc_gf2, qsc_k3, qsc_l3, qsc_gf3, qsc_k4, qsc_l4, qsc_gf4, qsc_k5, qsc_l5, qsc_gf6, qsc_k6, qsc_l6, qsc_gf7, qsc_k7, qsc_l7, qsc_gf9, qsc_k8, qsc_l8, qsc_gf10, qsc_gf0, qsc_pf0, qsc_gf5, qsc_pf5, qsc_gf8, qsc_pf8, qst_kd, qst_gf0, qst_k10, qst_l10, qst_gf1, qst_k29, qst_l29, qst_gf2, qlf_kd, qlf_gf0, qlf_k31, qlf_l31, qlf_gf1, qlf_gf3, qlf_gf4, qlf_gf5, qlf_gf6, qlf_k203, qlf_l203, qlf_gf7, qlf_gf2, qlf_pf2, qlf_gf8, qlf_pf8, wrI_row, cpI_row, row_s, row_n, row_ss, row_sw, upd_s, upd_n, ad_inj, ad_z, ad_z2, Nat.reduceEqDiff, reduceCtorEq, List.cons_append, List.nil_append, Option.toList_some, Option.toList_none, Int.toNat_natCast, List.length_cons, List.length_nil, Int.cast_ofNat_Int, Nat.reduceAdd, Nat.reduceLeDiff, Nat.reduceLT, Nat.reduceMul, Int.reduceAdd, Int.reduceSub, Int.reduceMul, Int.reduceNeg, Int.reduceLT, Int.reduceLE, Int.reduceEq, Int.reduceToNat, eq_self, true_and, and_true, true_or, or_true, false_or, or_false, if_true, if_false, not_true_eq_false, not_false_eq_true, and_self, ne_eq, hLf, hN1, hS, hm1, hm2]
      (repeat' (first | apply And.intro | split)) <;> first | omega | exact q
  · rw [b2_f c1] at hm1
    rw [if_neg (fun z => c1 z.1)] at q
    simp only [m_L_wrongness, b_L_wrongness_0, P_L_wrongness_28, b_L_wrongness_28, P_L_wrongness_30, b_L_wrongness_30, wp_aln0, wp_cv1, wp_cv2, wp_cv3, wp_cv4, wp_cv5, wp_cv6, wp_cv7, wp_iconst, wp_iln1, wp_iln2, wp_iret, wp_izeq, wp_izne, wp_nop, wp_zret, qsc_kd, qsc_k1, qsc_l1, qsc_gf1, qsc_k2, qsc_l2, qsc_gf2, qsc_k3, qsc_l3, qsc_gf3, qsc_k4, qsc_l4, qsc_gf4, qsc_k5, qsc_l5, qsc_gf6, qsc_k6, qsc_l6, qsc_gf7, qsc_k7, qsc_l7, qsc_gf9, qsc_k8, qsc_l8, qsc_gf10, qsc_gf0, qsc_pf0, qsc_gf5, qsc_pf5, qsc_gf8, qsc_pf8, qst_kd, qst_gf0, qst_k10, qst_l10, qst_gf1, qst_k29, qst_l29, qst_gf2, qlf_kd, qlf_gf0, qlf_k31, qlf_l31, qlf_gf1, qlf_gf3, qlf_gf4, qlf_gf5, qlf_gf6, qlf_k203, qlf_l203, qlf_gf7, qlf_gf2, qlf_pf2, qlf_gf8, qlf_pf8, wrI_row, cpI_row, row_s, row_n, row_ss, row_sw, upd_s, upd_n, ad_inj, ad_z, ad_z2, Nat.reduceEqDiff, reduceCtorEq, List.cons_append, List.nil_append, Option.toList_some, Option.toList_none, Int.toNat_natCast, List.length_cons, List.length_nil, Int.cast_ofNat_Int, Nat.reduceAdd, Nat.reduceLeDiff, Nat.reduceLT, Nat.reduceMul, Int.reduceAdd, Int.reduceSub, Int.reduceMul, Int.reduceNeg, Int.reduceLT, Int.reduceLE, Int.reduceEq, Int.reduceToNat, eq_self, true_and, and_true, true_or, or_true, false_or, or_false, if_true, if_false, not_true_eq_false, not_false_eq_true, and_self, ne_eq, hLf, hN1, hS, hm1]
    (repeat' (first | apply And.intro | split)) <;> first | omega | exact q
theorem amin_eq {f f' : Nat → Int} : ∀ n : Nat, (∀ j, j < n → f j = f' j) → amin f n = amin f' n
  | 0, _ => rfl
  | 1, _ => by rw [amin_1, amin_1]
  | n + 2, hf => by
    have h1 := amin_eq (n + 1) (fun j hj => hf j (by omega))
    have h2 := amin_lt (f := f') (n + 1) (by omega)
    have h3 := hf (n + 1) (by omega)
    have h4 := hf (amin f' (n + 1)) (by omega)
    show (if f (n + 1) < f (amin f (n + 1)) then n + 1 else amin f (n + 1)) = if f' (n + 1) < f' (amin f' (n + 1)) then n + 1 else amin f' (n + 1)
    rw [h1, h3, h4]
def sNearest (o w : Int) (X : XV) : Int := if (0 ≤ o ∧ o ≤ 9) ∧ 0 ≤ w ∧ w ≤ 9 then (amin (fun m => dstV X.1.1 m o w) (X.1.1 0 0).toNat : Nat) else -1
theorem c_nearest (hX : RepC g ρ L h X) (hW : WFX X) {o w : Int} (hoo : i32 o) (hw : i32 w) (hQ : CQ g ρ L (sNearest o w X, X) Q) : WpM zt 80 [AR L, AI o, AI w] (g, ρ) Q := by
  obtain ⟨hLf, hN, -⟩ := id hX.1
  obtain ⟨hR, -⟩ := id hX.2.1
  have hU := hW.1.1
  have hWV := hR.wf (by omega) hU
  have hN1 := hN.1
  have hS := hN.2.1
  have e0 : g (ad (ad L 1) 1) 0 = X.1.1 0 0 := hR.l0
  have e5 : g (ad (ad L 1) 1) 5 = X.1.1 5 0 := hR.l5
  have e8 : g (ad (ad L 1) 1) 8 = X.1.1 8 0 := hR.l8
  have b0 := hU.1
  have b5 := hU.2.2.2.2.1
  have b8 := hU.2.2.2.2.2.2.1
  have q := hQ.ro hX
  unfold sNearest at q
  by_cases c1 : 0 ≤ o ∧ o ≤ 9
  · have ho1 := fun Q => lk_in (zt := zt) (g := g) (ρ := ρ) (lo := 0) (hi := 9) (by omega) (by omega) c1 Q
    by_cases c2 : 0 ≤ w ∧ w ≤ 9
    · have ho2 := fun Q => lk_in (zt := zt) (g := g) (ρ := ρ) (lo := 0) (hi := 9) (by omega) (by omega) c2 Q
      rw [if_pos ⟨c1, c2⟩] at q
      have hn := nearestOfAll_ok (zt := zt) (ρ := ρ) hS hWV (o := o) (w := w) (by omega) (by omega)
      rw [e0, amin_eq (f' := fun m => dstV X.1.1 m o w) _ (fun j hj => hR.dst (by omega))] at hn
      simp only [m_L_nearest, b_L_nearest_0, P_L_nearest_20, b_L_nearest_20, P_L_nearest_22, b_L_nearest_22, wp_abs, wp_aln0, wp_bipush, wp_copy, wp_cs1, wp_cs2, wp_cs3, wp_cs4, wp_cs5, wp_cs6, wp_cs7, wp_cv1, wp_cv2, wp_cv3, wp_cv4, wp_cv5, wp_cv6, wp_cv7, wp_iconst, wp_iln1, wp_iln2, wp_iret, wp_izeq, wp_izne, wp_max, wp_min, wp_nop, wp_zret, qsc_kd, qsc_k1, qsc_l1, qsc_gf1, qsc_k2, qsc_l2, qsc_gf2, qsc_k3, qsc_l3, qsc_gf3, qsc_k4, qsc_l4, qsc_gf4, qsc_k5, qsc_l5, qsc_gf6, qsc_k6, qsc_l6, qsc_gf7, qsc_k7, qsc_l7, qsc_gf9, qsc_k8, qsc_l8, qsc_gf10, qsc_gf0, qsc_pf0, qsc_gf5, qsc_pf5, qsc_gf8, qsc_pf8, qst_kd, qst_gf0, qst_k10, qst_l10, qst_gf1, qst_k29, qst_l29, qst_gf2, qlf_kd, qlf_gf0, qlf_k31, qlf_l31, qlf_gf1, qlf_gf3, qlf_gf4, qlf_gf5, qlf_gf6, qlf_k203, qlf_l203, qlf_gf7, qlf_gf2, qlf_pf2, qlf_gf8, qlf_pf8, wrI_row, cpI_row, row_s, row_n, row_ss, row_sw, upd_s, upd_n, ad_inj, ad_z, ad_z2, Nat.reduceEqDiff, reduceCtorEq, List.cons_append, List.nil_append, Option.toList_some, Option.toList_none, Int.toNat_natCast, List.length_cons, List.length_nil, Int.cast_ofNat_Int, Nat.reduceAdd, Nat.reduceLeDiff, Nat.reduceLT, Nat.reduceMul, Int.reduceAdd, Int.reduceSub, Int.reduceMul, Int.reduceNeg, Int.reduceLT, Int.reduceLE, Int.reduceEq, Int.reduceToNat, eq_self, true_and, and_true, true_or, or_true, false_or, or_false, if_true, if_false, not_true_eq_false, not_false_eq_true, and_self, ne_eq, hLf, hN1, hS, ho1, ho2, hn]
      (repeat' (first | apply And.intro | split)) <;> first | omega | exact q
    · have ho2 := fun Q => lk_out (zt := zt) (g := g) (ρ := ρ) (lo := 0) (hi := 9) hw (by omega) (by omega) c2 Q
      rw [if_neg (fun z => c2 z.2)] at q
      simp only [m_L_nearest, b_L_nearest_0, P_L_nearest_20, b_L_nearest_20, P_L_nearest_22, b_L_nearest_22, wp_abs, wp_aln0, wp_bipush, wp_copy, wp_cs1, wp_cs2, wp_cs3, wp_cs4, wp_cs5, wp_cs6, wp_cs7, wp_cv1, wp_cv2, wp_cv3, wp_cv4, wp_cv5, wp_cv6, wp_cv7, wp_iconst, wp_iln1, wp_iln2, wp_iret, wp_izeq, wp_izne, wp_max, wp_min, wp_nop, wp_zret, qsc_kd, qsc_k1, qsc_l1, qsc_gf1, qsc_k2, qsc_l2, qsc_gf2, qsc_k3, qsc_l3, qsc_gf3, qsc_k4, qsc_l4, qsc_gf4, qsc_k5, qsc_l5, qsc_gf6, qsc_k6, qsc_l6, qsc_gf7, qsc_k7, qsc_l7, qsc_gf9, qsc_k8, qsc_l8, qsc_gf10, qsc_gf0, qsc_pf0, qsc_gf5, qsc_pf5, qsc_gf8, qsc_pf8, qst_kd, qst_gf0, qst_k10, qst_l10, qst_gf1, qst_k29, qst_l29, qst_gf2, qlf_kd, qlf_gf0, qlf_k31, qlf_l31, qlf_gf1, qlf_gf3, qlf_gf4, qlf_gf5, qlf_gf6, qlf_k203, qlf_l203, qlf_gf7, qlf_gf2, qlf_pf2, qlf_gf8, qlf_pf8, wrI_row, cpI_row, row_s, row_n, row_ss, row_sw, upd_s, upd_n, ad_inj, ad_z, ad_z2, Nat.reduceEqDiff, reduceCtorEq, List.cons_append, List.nil_append, Option.toList_some, Option.toList_none, Int.toNat_natCast, List.length_cons, List.length_nil, Int.cast_ofNat_Int, Nat.reduceAdd, Nat.reduceLeDiff, Nat.reduceLT, Nat.reduceMul, Int.reduceAdd, Int.reduceSub, Int.reduceMul, Int.reduceNeg, Int.reduceLT, Int.reduceLE, Int.reduceEq, Int.reduceToNat, eq_self, true_and, and_true, true_or, or_true, false_or, or_false, if_true, if_false, not_true_eq_false, not_false_eq_true, and_self, ne_eq, hLf, hN1, hS, ho1, ho2]
      (repeat' (first | apply And.intro | split)) <;> first | omega | exact q
  · have ho1 := fun Q => lk_out (zt := zt) (g := g) (ρ := ρ) (lo := 0) (hi := 9) hoo (by omega) (by omega) c1 Q
    rw [if_neg (fun z => c1 z.1)] at q
    simp only [m_L_nearest, b_L_nearest_0, P_L_nearest_20, b_L_nearest_20, P_L_nearest_22, b_L_nearest_22, wp_abs, wp_aln0, wp_bipush, wp_copy, wp_cs1, wp_cs2, wp_cs3, wp_cs4, wp_cs5, wp_cs6, wp_cs7, wp_cv1, wp_cv2, wp_cv3, wp_cv4, wp_cv5, wp_cv6, wp_cv7, wp_iconst, wp_iln1, wp_iln2, wp_iret, wp_izeq, wp_izne, wp_max, wp_min, wp_nop, wp_zret, qsc_kd, qsc_k1, qsc_l1, qsc_gf1, qsc_k2, qsc_l2, qsc_gf2, qsc_k3, qsc_l3, qsc_gf3, qsc_k4, qsc_l4, qsc_gf4, qsc_k5, qsc_l5, qsc_gf6, qsc_k6, qsc_l6, qsc_gf7, qsc_k7, qsc_l7, qsc_gf9, qsc_k8, qsc_l8, qsc_gf10, qsc_gf0, qsc_pf0, qsc_gf5, qsc_pf5, qsc_gf8, qsc_pf8, qst_kd, qst_gf0, qst_k10, qst_l10, qst_gf1, qst_k29, qst_l29, qst_gf2, qlf_kd, qlf_gf0, qlf_k31, qlf_l31, qlf_gf1, qlf_gf3, qlf_gf4, qlf_gf5, qlf_gf6, qlf_k203, qlf_l203, qlf_gf7, qlf_gf2, qlf_pf2, qlf_gf8, qlf_pf8, wrI_row, cpI_row, row_s, row_n, row_ss, row_sw, upd_s, upd_n, ad_inj, ad_z, ad_z2, Nat.reduceEqDiff, reduceCtorEq, List.cons_append, List.nil_append, Option.toList_some, Option.toList_none, Int.toNat_natCast, List.length_cons, List.length_nil, Int.cast_ofNat_Int, Nat.reduceAdd, Nat.reduceLeDiff, Nat.reduceLT, Nat.reduceMul, Int.reduceAdd, Int.reduceSub, Int.reduceMul, Int.reduceNeg, Int.reduceLT, Int.reduceLE, Int.reduceEq, Int.reduceToNat, eq_self, true_and, and_true, true_or, or_true, false_or, or_false, if_true, if_false, not_true_eq_false, not_false_eq_true, and_self, ne_eq, hLf, hN1, hS, ho1]
    (repeat' (first | apply And.intro | split)) <;> first | omega | exact q
end LOK
