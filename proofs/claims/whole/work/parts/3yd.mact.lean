/-! THE REFERENCE'S CALLS: single entries, snapshots -/
section MAC
variable {zt : Nat → Nat} {g : Nat → Nat → Int} {ρ : Ri} {M : Nat} {X : XV} {Q : Option AV → Sto → Prop}
theorem RepM.pg {R' : Nat → Int} {U' : Vw} (hX : RepM g ρ M (recX X)) (hW : WFX X) (hR : LR (-1) (vwM R') U') (hy : ∀ y, 317 ≤ y → y < 953 → R' y = g (ad M 1) y) : RepM (setRow g (ad M 1) R') ρ M (actX X U') := by
  refine hX.now hW ?_ (fun y z1 z2 => ?_) (row_n (by unfold ad; omega)) (row_n (by unfold ad; omega)) ?_ ?_
  · rw [row_s]
    exact hR
  · rw [row_s]
    exact hy y z1 z2
  · rw [row_n (by unfold ad; omega)]
  · rw [row_n (by unfold ad; omega)]
theorem pg_fr {g' : Nat → Nat → Int} {R' : Nat → Int} (hf : ∀ x, x ≠ M → x ≠ ad M 3 → g' x = g x) (x : Nat) (z : x < M ∨ ad M 10 ≤ x) : setRow g' (ad M 1) R' x = g x := by
  rw [row_n (by unfold ad at *; omega)]
  exact hf x (by unfold ad at z; omega) (by unfold ad at *; omega)
section VU
variable {r : Nat → Int} {p J : Nat} {v : Int}
theorem vwM_u1 (h58 : r 58 ≤ 30) (hJ : J < 8) (hp : p = 1 + 2 * J) : vwM (upd1 r p v) 1 J = v ∧ ∀ k j, k ≤ 10 → ¬ (k = 1 ∧ j = J) → vwM (upd1 r p v) k j = vwM r k j := vwM_upd h58 (Or.inl ⟨rfl, hJ, hp⟩)
theorem vwM_u2 (h58 : r 58 ≤ 30) (hJ : J < 8) (hp : p = 2 + 2 * J) : vwM (upd1 r p v) 2 J = v ∧ ∀ k j, k ≤ 10 → ¬ (k = 2 ∧ j = J) → vwM (upd1 r p v) k j = vwM r k j := vwM_upd h58 (Or.inr (Or.inl ⟨rfl, hJ, hp⟩))
theorem vwM_u3 (h58 : r 58 ≤ 30) (hJ : J < 36) (hp : p = 17 + J) : vwM (upd1 r p v) 3 J = v ∧ ∀ k j, k ≤ 10 → ¬ (k = 3 ∧ j = J) → vwM (upd1 r p v) k j = vwM r k j := vwM_upd h58 (Or.inr (Or.inr (Or.inl ⟨rfl, hJ, hp⟩)))
theorem vwM_u4 (h58 : r 58 ≤ 30) (hJ : J < 5) (hp : p = 53 + J) : vwM (upd1 r p v) 4 J = v ∧ ∀ k j, k ≤ 10 → ¬ (k = 4 ∧ j = J) → vwM (upd1 r p v) k j = vwM r k j := vwM_upd h58 (Or.inr (Or.inr (Or.inr (Or.inl ⟨rfl, hJ, hp⟩))))
theorem vwM_u9 (h58 : r 58 ≤ 30) (hJ : J < 99) (hp : p = 119 + J) : vwM (upd1 r p v) 9 J = v ∧ ∀ k j, k ≤ 10 → ¬ (k = 9 ∧ j = J) → vwM (upd1 r p v) k j = vwM r k j := vwM_upd h58 (Or.inr (Or.inr (Or.inr (Or.inr (Or.inl ⟨rfl, hJ, hp⟩)))))
theorem vwM_u10 (h58 : r 58 ≤ 30) (hJ : J < 99) (hp : p = 218 + J) : vwM (upd1 r p v) 10 J = v ∧ ∀ k j, k ≤ 10 → ¬ (k = 10 ∧ j = J) → vwM (upd1 r p v) k j = vwM r k j := vwM_upd h58 (Or.inr (Or.inr (Or.inr (Or.inr (Or.inr ⟨rfl, hJ, hp⟩)))))
end VU
theorem d_puts (hX : RepM g ρ M X) (hW : WFX X) {k : Nat} {row : Int} (hk : (k = 9 ∧ row = 119) ∨ (k = 10 ∧ row = 218)) {f m : Int} (hf : i32 f) (hm : i32 m) (hQ : MdQ g ρ M (sPut k f m X) Q) : WpM zt 118 [AR M, AI row, AI f, AI m] (g, ρ) Q := by
  obtain ⟨hM, hS, -⟩ := id hX
  have hR := hS.1
  have hU := hW.1.1
  have e0 := m_0 hR
  have e5 := m_5 hR
  have b0 := hU.1
  have b5 := hU.2.2.2.2.1
  have b8 := hU.2.2.2.2.2.2.1
  obtain ⟨ma, mb⟩ := id hm
  unfold sPut at hQ
  have h1 := isFrame_ok (zt := zt) hM hR hU hf
  have h2 := isMouth_ok (zt := zt) hM hR hU hm
  by_cases c1 : 0 ≤ f ∧ f < X.1.1 8 0
  · rw [b2_t c1] at h1
    have fin1 : (m = -1 ∨ (0 ≤ m ∧ m < X.1.1 0 0)) → Wp zt 118 (P 118 23) [some (AR M), some (AI row), some (AI f), some (AI m), none] [] (g, ρ) Q := by
      intro c2
      rw [if_pos ⟨c1, c2⟩] at hQ
      rw [P_M_puts_23]
      simp only [m_M_puts, b_M_puts_0, P_M_puts_21, b_M_puts_21, P_M_puts_56, b_M_puts_56, P_M_puts_58, b_M_puts_58, wp_aln0, wp_bipush, wp_cv1, wp_cv2, wp_cv3, wp_cv4, wp_cv5, wp_cv6, wp_cv7, wp_goto, wp_iadd, wp_iald, wp_iast, wp_iceq, wp_iconst, wp_il4, wp_iln1, wp_iln2, wp_iln3, wp_iret, wp_is4, wp_izeq, wp_izge, wp_izne, wp_nop, wp_zret, qmd_kd, qmd_k1, qmd_l1, qmd_gf0, qmd_k2, qmd_l2, qmd_gf1, qmd_k3, qmd_l3, qmd_gf2, qmd_k4, qmd_l4, qmd_gf4, qmd_k5, qmd_l5, qmd_gf6, qmd_k6, qmd_l6, qmd_gf7, qmd_k7, qmd_l7, qmd_gf10, qmd_k8, qmd_l8, qmd_gf11, qmd_k9, qmd_l9, qmd_gf12, qmd_gf3, qmd_pf3, qmd_gf5, qmd_pf5, qmd_gf8, qmd_pf8, qmd_gf9, qmd_pf9, wrI_row, cpI_row, row_s, row_n, row_ss, row_sw, upd_s, upd_n, ad_inj, ad_z, ad_z2, Nat.reduceEqDiff, reduceCtorEq, List.cons_append, List.nil_append, Option.toList_some, Option.toList_none, Int.toNat_natCast, List.length_cons, List.length_nil, Int.cast_ofNat_Int, Nat.reduceAdd, Nat.reduceLeDiff, Nat.reduceLT, Nat.reduceMul, Int.reduceAdd, Int.reduceSub, Int.reduceMul, Int.reduceNeg, Int.reduceLT, Int.reduceLE, Int.reduceEq, Int.reduceToNat, eq_self, true_and, and_true, true_or, or_true, false_or, or_false, if_true, if_false, not_true_eq_false, not_false_eq_true, and_self, ne_eq, b_M_puts_23, hM]
      refine keep_ok hX hW (fun g' j1 j2 j3 => ?_)
      have hM' := j1.1
      have hR' : LR (-1) (vwM (g' (ad M 1))) X.1.1 := j1.2.1.1
      have i58 : g' (ad M 1) 58 ≤ 30 := by rw [m_5 hR']; omega
      have hv : g' (ad M 1) (row + f).toNat = X.1.1 k f.toNat := by
        rcases hk with ⟨rfl, rfl⟩ | ⟨rfl, rfl⟩
        · exact m_pn hR' hU c1.1 c1.2
        · exact m_dr hR' hU c1.1 c1.2
      have hb := hU.2.2.2.2.2.2.2.2 f.toNat (by omega)
      have hb2 : X.1.1 k f.toNat = -1 ∨ (0 ≤ X.1.1 k f.toNat ∧ X.1.1 k f.toNat < X.1.1 0 0) := by
        rcases hk with ⟨rfl, rfl⟩ | ⟨rfl, rfl⟩
        · exact hb.1
        · exact hb.2
      have hf99 : f.toNat < 99 := by omega
      have hpl : (row + f).toNat < 317 := by rcases hk with ⟨-, rfl⟩ | ⟨-, rfl⟩ <;> omega
      have hu : vwM (upd1 (g' (ad M 1)) (row + f).toNat m) k f.toNat = m ∧ ∀ k' j, k' ≤ 10 → ¬ (k' = k ∧ j = f.toNat) → vwM (upd1 (g' (ad M 1)) (row + f).toNat m) k' j = vwM (g' (ad M 1)) k' j := by
        rcases hk with ⟨rfl, rfl⟩ | ⟨rfl, rfl⟩
        · exact vwM_u9 i58 hf99 (by omega)
        · exact vwM_u10 i58 hf99 (by omega)
      have hk2 : k = 9 ∨ k = 10 := hk.elim (fun z => Or.inl z.1) (fun z => Or.inr z.1)
      have hrow : row = 119 ∨ row = 218 := hk.elim (fun z => Or.inl z.2) (fun z => Or.inr z.2)
      clear hk
      have hl : LR (-1) (vwM (upd1 (g' (ad M 1)) (row + f).toNat m)) (setV X.1.1 k f.toNat m) := lr_setp hR' hk2 (fun k' j' z1 z2 => hu.2 k' j' z1 z2) (by rw [hu.1, nn_1])
      have q := hQ (setRow g' (ad M 1) (upd1 (g' (ad M 1)) (row + f).toNat m)) (j1.pg hW hl (fun y z1 z2 => upd_n (by omega))) (pg_fr j2)
      by_cases c3 : X.1.1 k f.toNat = -1
      · rw [show nn (-99) (X.1.1 k f.toNat) = -99 from if_pos c3] at q
        simp only [m_M_puts, b_M_puts_0, P_M_puts_21, b_M_puts_21, P_M_puts_56, b_M_puts_56, P_M_puts_58, b_M_puts_58, wp_aln0, wp_bipush, wp_cv1, wp_cv2, wp_cv3, wp_cv4, wp_cv5, wp_cv6, wp_cv7, wp_goto, wp_iadd, wp_iald, wp_iast, wp_iceq, wp_iconst, wp_il4, wp_iln1, wp_iln2, wp_iln3, wp_iret, wp_is4, wp_izeq, wp_izge, wp_izne, wp_nop, wp_zret, qmd_kd, qmd_k1, qmd_l1, qmd_gf0, qmd_k2, qmd_l2, qmd_gf1, qmd_k3, qmd_l3, qmd_gf2, qmd_k4, qmd_l4, qmd_gf4, qmd_k5, qmd_l5, qmd_gf6, qmd_k6, qmd_l6, qmd_gf7, qmd_k7, qmd_l7, qmd_gf10, qmd_k8, qmd_l8, qmd_gf11, qmd_k9, qmd_l9, qmd_gf12, qmd_gf3, qmd_pf3, qmd_gf5, qmd_pf5, qmd_gf8, qmd_pf8, qmd_gf9, qmd_pf9, wrI_row, cpI_row, row_s, row_n, row_ss, row_sw, upd_s, upd_n, ad_inj, ad_z, ad_z2, Nat.reduceEqDiff, reduceCtorEq, List.cons_append, List.nil_append, Option.toList_some, Option.toList_none, Int.toNat_natCast, List.length_cons, List.length_nil, Int.cast_ofNat_Int, Nat.reduceAdd, Nat.reduceLeDiff, Nat.reduceLT, Nat.reduceMul, Int.reduceAdd, Int.reduceSub, Int.reduceMul, Int.reduceNeg, Int.reduceLT, Int.reduceLE, Int.reduceEq, Int.reduceToNat, eq_self, true_and, and_true, true_or, or_true, false_or, or_false, if_true, if_false, not_true_eq_false, not_false_eq_true, and_self, ne_eq, hM', hv]
        (repeat' (first | apply And.intro | split)) <;> first | omega | exact q
      · rw [show nn (-99) (X.1.1 k f.toNat) = X.1.1 k f.toNat from if_neg c3] at q
        simp only [m_M_puts, b_M_puts_0, P_M_puts_21, b_M_puts_21, P_M_puts_56, b_M_puts_56, P_M_puts_58, b_M_puts_58, wp_aln0, wp_bipush, wp_cv1, wp_cv2, wp_cv3, wp_cv4, wp_cv5, wp_cv6, wp_cv7, wp_goto, wp_iadd, wp_iald, wp_iast, wp_iceq, wp_iconst, wp_il4, wp_iln1, wp_iln2, wp_iln3, wp_iret, wp_is4, wp_izeq, wp_izge, wp_izne, wp_nop, wp_zret, qmd_kd, qmd_k1, qmd_l1, qmd_gf0, qmd_k2, qmd_l2, qmd_gf1, qmd_k3, qmd_l3, qmd_gf2, qmd_k4, qmd_l4, qmd_gf4, qmd_k5, qmd_l5, qmd_gf6, qmd_k6, qmd_l6, qmd_gf7, qmd_k7, qmd_l7, qmd_gf10, qmd_k8, qmd_l8, qmd_gf11, qmd_k9, qmd_l9, qmd_gf12, qmd_gf3, qmd_pf3, qmd_gf5, qmd_pf5, qmd_gf8, qmd_pf8, qmd_gf9, qmd_pf9, wrI_row, cpI_row, row_s, row_n, row_ss, row_sw, upd_s, upd_n, ad_inj, ad_z, ad_z2, Nat.reduceEqDiff, reduceCtorEq, List.cons_append, List.nil_append, Option.toList_some, Option.toList_none, Int.toNat_natCast, List.length_cons, List.length_nil, Int.cast_ofNat_Int, Nat.reduceAdd, Nat.reduceLeDiff, Nat.reduceLT, Nat.reduceMul, Int.reduceAdd, Int.reduceSub, Int.reduceMul, Int.reduceNeg, Int.reduceLT, Int.reduceLE, Int.reduceEq, Int.reduceToNat, eq_self, true_and, and_true, true_or, or_true, false_or, or_false, if_true, if_false, not_true_eq_false, not_false_eq_true, and_self, ne_eq, hM', hv]
        (repeat' (first | apply And.intro | split)) <;> first | omega | exact q
    by_cases c3 : m = -1
    · have k1 := fin1 (Or.inl c3)
      simp only [m_M_puts, b_M_puts_0, P_M_puts_21, b_M_puts_21, P_M_puts_56, b_M_puts_56, P_M_puts_58, b_M_puts_58, wp_aln0, wp_bipush, wp_cv1, wp_cv2, wp_cv3, wp_cv4, wp_cv5, wp_cv6, wp_cv7, wp_goto, wp_iadd, wp_iald, wp_iast, wp_iceq, wp_iconst, wp_il4, wp_iln1, wp_iln2, wp_iln3, wp_iret, wp_is4, wp_izeq, wp_izge, wp_izne, wp_nop, wp_zret, qmd_kd, qmd_k1, qmd_l1, qmd_gf0, qmd_k2, qmd_l2, qmd_gf1, qmd_k3, qmd_l3, qmd_gf2, qmd_k4, qmd_l4, qmd_gf4, qmd_k5, qmd_l5, qmd_gf6, qmd_k6, qmd_l6, qmd_gf7, qmd_k7, qmd_l7, qmd_gf10, qmd_k8, qmd_l8, qmd_gf11, qmd_k9, qmd_l9, qmd_gf12, qmd_gf3, qmd_pf3, qmd_gf5, qmd_pf5, qmd_gf8, qmd_pf8, qmd_gf9, qmd_pf9, wrI_row, cpI_row, row_s, row_n, row_ss, row_sw, upd_s, upd_n, ad_inj, ad_z, ad_z2, Nat.reduceEqDiff, reduceCtorEq, List.cons_append, List.nil_append, Option.toList_some, Option.toList_none, Int.toNat_natCast, List.length_cons, List.length_nil, Int.cast_ofNat_Int, Nat.reduceAdd, Nat.reduceLeDiff, Nat.reduceLT, Nat.reduceMul, Int.reduceAdd, Int.reduceSub, Int.reduceMul, Int.reduceNeg, Int.reduceLT, Int.reduceLE, Int.reduceEq, Int.reduceToNat, eq_self, true_and, and_true, true_or, or_true, false_or, or_false, if_true, if_false, not_true_eq_false, not_false_eq_true, and_self, ne_eq, hM, h1]
      (repeat' (first | apply And.intro | split)) <;> first | omega | exact k1
    · by_cases c4 : 0 ≤ m ∧ m < X.1.1 0 0
      · have k1 := fin1 (Or.inr c4)
        rw [b2_t c4] at h2
        simp only [m_M_puts, b_M_puts_0, P_M_puts_21, b_M_puts_21, P_M_puts_56, b_M_puts_56, P_M_puts_58, b_M_puts_58, wp_aln0, wp_bipush, wp_cv1, wp_cv2, wp_cv3, wp_cv4, wp_cv5, wp_cv6, wp_cv7, wp_goto, wp_iadd, wp_iald, wp_iast, wp_iceq, wp_iconst, wp_il4, wp_iln1, wp_iln2, wp_iln3, wp_iret, wp_is4, wp_izeq, wp_izge, wp_izne, wp_nop, wp_zret, qmd_kd, qmd_k1, qmd_l1, qmd_gf0, qmd_k2, qmd_l2, qmd_gf1, qmd_k3, qmd_l3, qmd_gf2, qmd_k4, qmd_l4, qmd_gf4, qmd_k5, qmd_l5, qmd_gf6, qmd_k6, qmd_l6, qmd_gf7, qmd_k7, qmd_l7, qmd_gf10, qmd_k8, qmd_l8, qmd_gf11, qmd_k9, qmd_l9, qmd_gf12, qmd_gf3, qmd_pf3, qmd_gf5, qmd_pf5, qmd_gf8, qmd_pf8, qmd_gf9, qmd_pf9, wrI_row, cpI_row, row_s, row_n, row_ss, row_sw, upd_s, upd_n, ad_inj, ad_z, ad_z2, Nat.reduceEqDiff, reduceCtorEq, List.cons_append, List.nil_append, Option.toList_some, Option.toList_none, Int.toNat_natCast, List.length_cons, List.length_nil, Int.cast_ofNat_Int, Nat.reduceAdd, Nat.reduceLeDiff, Nat.reduceLT, Nat.reduceMul, Int.reduceAdd, Int.reduceSub, Int.reduceMul, Int.reduceNeg, Int.reduceLT, Int.reduceLE, Int.reduceEq, Int.reduceToNat, eq_self, true_and, and_true, true_or, or_true, false_or, or_false, if_true, if_false, not_true_eq_false, not_false_eq_true, and_self, ne_eq, hM, h1, h2, c3]
        (repeat' (first | apply And.intro | split)) <;> first | omega | exact k1
      · rw [b2_f c4] at h2
        rw [if_neg (fun z => z.2.elim c3 c4)] at hQ
        have q := hQ.ro hX
        simp only [m_M_puts, b_M_puts_0, P_M_puts_21, b_M_puts_21, P_M_puts_56, b_M_puts_56, P_M_puts_58, b_M_puts_58, wp_aln0, wp_bipush, wp_cv1, wp_cv2, wp_cv3, wp_cv4, wp_cv5, wp_cv6, wp_cv7, wp_goto, wp_iadd, wp_iald, wp_iast, wp_iceq, wp_iconst, wp_il4, wp_iln1, wp_iln2, wp_iln3, wp_iret, wp_is4, wp_izeq, wp_izge, wp_izne, wp_nop, wp_zret, qmd_kd, qmd_k1, qmd_l1, qmd_gf0, qmd_k2, qmd_l2, qmd_gf1, qmd_k3, qmd_l3, qmd_gf2, qmd_k4, qmd_l4, qmd_gf4, qmd_k5, qmd_l5, qmd_gf6, qmd_k6, qmd_l6, qmd_gf7, qmd_k7, qmd_l7, qmd_gf10, qmd_k8, qmd_l8, qmd_gf11, qmd_k9, qmd_l9, qmd_gf12, qmd_gf3, qmd_pf3, qmd_gf5, qmd_pf5, qmd_gf8, qmd_pf8, qmd_gf9, qmd_pf9, wrI_row, cpI_row, row_s, row_n, row_ss, row_sw, upd_s, upd_n, ad_inj, ad_z, ad_z2, Nat.reduceEqDiff, reduceCtorEq, List.cons_append, List.nil_append, Option.toList_some, Option.toList_none, Int.toNat_natCast, List.length_cons, List.length_nil, Int.cast_ofNat_Int, Nat.reduceAdd, Nat.reduceLeDiff, Nat.reduceLT, Nat.reduceMul, Int.reduceAdd, Int.reduceSub, Int.reduceMul, Int.reduceNeg, Int.reduceLT, Int.reduceLE, Int.reduceEq, Int.reduceToNat, eq_self, true_and, and_true, true_or, or_true, false_or, or_false, if_true, if_false, not_true_eq_false, not_false_eq_true, and_self, ne_eq, hM, h1, h2, c3]
        (repeat' (first | apply And.intro | split)) <;> first | omega | exact q
  · rw [b2_f c1] at h1
    rw [if_neg (fun z => c1 z.1)] at hQ
    have q := hQ.ro hX
    simp only [m_M_puts, b_M_puts_0, P_M_puts_21, b_M_puts_21, P_M_puts_56, b_M_puts_56, P_M_puts_58, b_M_puts_58, wp_aln0, wp_bipush, wp_cv1, wp_cv2, wp_cv3, wp_cv4, wp_cv5, wp_cv6, wp_cv7, wp_goto, wp_iadd, wp_iald, wp_iast, wp_iceq, wp_iconst, wp_il4, wp_iln1, wp_iln2, wp_iln3, wp_iret, wp_is4, wp_izeq, wp_izge, wp_izne, wp_nop, wp_zret, qmd_kd, qmd_k1, qmd_l1, qmd_gf0, qmd_k2, qmd_l2, qmd_gf1, qmd_k3, qmd_l3, qmd_gf2, qmd_k4, qmd_l4, qmd_gf4, qmd_k5, qmd_l5, qmd_gf6, qmd_k6, qmd_l6, qmd_gf7, qmd_k7, qmd_l7, qmd_gf10, qmd_k8, qmd_l8, qmd_gf11, qmd_k9, qmd_l9, qmd_gf12, qmd_gf3, qmd_pf3, qmd_gf5, qmd_pf5, qmd_gf8, qmd_pf8, qmd_gf9, qmd_pf9, wrI_row, cpI_row, row_s, row_n, row_ss, row_sw, upd_s, upd_n, ad_inj, ad_z, ad_z2, Nat.reduceEqDiff, reduceCtorEq, List.cons_append, List.nil_append, Option.toList_some, Option.toList_none, Int.toNat_natCast, List.length_cons, List.length_nil, Int.cast_ofNat_Int, Nat.reduceAdd, Nat.reduceLeDiff, Nat.reduceLT, Nat.reduceMul, Int.reduceAdd, Int.reduceSub, Int.reduceMul, Int.reduceNeg, Int.reduceLT, Int.reduceLE, Int.reduceEq, Int.reduceToNat, eq_self, true_and, and_true, true_or, or_true, false_or, or_false, if_true, if_false, not_true_eq_false, not_false_eq_true, and_self, ne_eq, hM, h1]
    (repeat' (first | apply And.intro | split)) <;> first | omega | exact q
theorem ret_id {v : Option AV} {s : Sto} {Q : Option AV → Sto → Prop} {z : Int} (h : Q (some (AI z)) s) : Q (some (AI z)) s := h
theorem d_pin (hX : RepM g ρ M X) (hW : WFX X) {f m : Int} (hf : i32 f) (hm : i32 m) (hQ : MdQ g ρ M (sPut 9 f m X) Q) : WpM zt 119 [AR M, AI f, AI m] (g, ρ) Q := by
  have hM := hX.1
  simp only [m_M_pin, b_M_pin_0, wp_aln0, wp_bipush, wp_cv1, wp_cv2, wp_cv3, wp_cv4, wp_cv5, wp_cv6, wp_cv7, wp_iln1, wp_iln2, wp_iret, wp_zret, qmd_kd, qmd_k1, qmd_l1, qmd_gf0, qmd_k2, qmd_l2, qmd_gf1, qmd_k3, qmd_l3, qmd_gf2, qmd_k4, qmd_l4, qmd_gf4, qmd_k5, qmd_l5, qmd_gf6, qmd_k6, qmd_l6, qmd_gf7, qmd_k7, qmd_l7, qmd_gf10, qmd_k8, qmd_l8, qmd_gf11, qmd_k9, qmd_l9, qmd_gf12, qmd_gf3, qmd_pf3, qmd_gf5, qmd_pf5, qmd_gf8, qmd_pf8, qmd_gf9, qmd_pf9, wrI_row, cpI_row, row_s, row_n, row_ss, row_sw, upd_s, upd_n, ad_inj, ad_z, ad_z2, Nat.reduceEqDiff, reduceCtorEq, List.cons_append, List.nil_append, Option.toList_some, Option.toList_none, Int.toNat_natCast, List.length_cons, List.length_nil, Int.cast_ofNat_Int, Nat.reduceAdd, Nat.reduceLeDiff, Nat.reduceLT, Nat.reduceMul, Int.reduceAdd, Int.reduceSub, Int.reduceMul, Int.reduceNeg, Int.reduceLT, Int.reduceLE, Int.reduceEq, Int.reduceToNat, eq_self, true_and, and_true, true_or, or_true, false_or, or_false, if_true, if_false, not_true_eq_false, not_false_eq_true, and_self, ne_eq, hM]
  refine d_puts hX hW (Or.inl ⟨rfl, rfl⟩) hf hm (fun g' y1 y2 => ?_)
  simp only [m_M_pin, b_M_pin_0, wp_aln0, wp_bipush, wp_cv1, wp_cv2, wp_cv3, wp_cv4, wp_cv5, wp_cv6, wp_cv7, wp_iln1, wp_iln2, wp_iret, wp_zret, qmd_kd, qmd_k1, qmd_l1, qmd_gf0, qmd_k2, qmd_l2, qmd_gf1, qmd_k3, qmd_l3, qmd_gf2, qmd_k4, qmd_l4, qmd_gf4, qmd_k5, qmd_l5, qmd_gf6, qmd_k6, qmd_l6, qmd_gf7, qmd_k7, qmd_l7, qmd_gf10, qmd_k8, qmd_l8, qmd_gf11, qmd_k9, qmd_l9, qmd_gf12, qmd_gf3, qmd_pf3, qmd_gf5, qmd_pf5, qmd_gf8, qmd_pf8, qmd_gf9, qmd_pf9, wrI_row, cpI_row, row_s, row_n, row_ss, row_sw, upd_s, upd_n, ad_inj, ad_z, ad_z2, Nat.reduceEqDiff, reduceCtorEq, List.cons_append, List.nil_append, Option.toList_some, Option.toList_none, Int.toNat_natCast, List.length_cons, List.length_nil, Int.cast_ofNat_Int, Nat.reduceAdd, Nat.reduceLeDiff, Nat.reduceLT, Nat.reduceMul, Int.reduceAdd, Int.reduceSub, Int.reduceMul, Int.reduceNeg, Int.reduceLT, Int.reduceLE, Int.reduceEq, Int.reduceToNat, eq_self, true_and, and_true, true_or, or_true, false_or, or_false, if_true, if_false, not_true_eq_false, not_false_eq_true, and_self, ne_eq]
  exact hQ g' y1 y2
theorem d_draw (hX : RepM g ρ M X) (hW : WFX X) {f m : Int} (hf : i32 f) (hm : i32 m) (hQ : MdQ g ρ M (sPut 10 f m X) Q) : WpM zt 120 [AR M, AI f, AI m] (g, ρ) Q := by
  have hM := hX.1
  simp only [m_M_draw, b_M_draw_0, wp_aln0, wp_cv1, wp_cv2, wp_cv3, wp_cv4, wp_cv5, wp_cv6, wp_cv7, wp_iln1, wp_iln2, wp_iret, wp_sipush, wp_zret, qmd_kd, qmd_k1, qmd_l1, qmd_gf0, qmd_k2, qmd_l2, qmd_gf1, qmd_k3, qmd_l3, qmd_gf2, qmd_k4, qmd_l4, qmd_gf4, qmd_k5, qmd_l5, qmd_gf6, qmd_k6, qmd_l6, qmd_gf7, qmd_k7, qmd_l7, qmd_gf10, qmd_k8, qmd_l8, qmd_gf11, qmd_k9, qmd_l9, qmd_gf12, qmd_gf3, qmd_pf3, qmd_gf5, qmd_pf5, qmd_gf8, qmd_pf8, qmd_gf9, qmd_pf9, wrI_row, cpI_row, row_s, row_n, row_ss, row_sw, upd_s, upd_n, ad_inj, ad_z, ad_z2, Nat.reduceEqDiff, reduceCtorEq, List.cons_append, List.nil_append, Option.toList_some, Option.toList_none, Int.toNat_natCast, List.length_cons, List.length_nil, Int.cast_ofNat_Int, Nat.reduceAdd, Nat.reduceLeDiff, Nat.reduceLT, Nat.reduceMul, Int.reduceAdd, Int.reduceSub, Int.reduceMul, Int.reduceNeg, Int.reduceLT, Int.reduceLE, Int.reduceEq, Int.reduceToNat, eq_self, true_and, and_true, true_or, or_true, false_or, or_false, if_true, if_false, not_true_eq_false, not_false_eq_true, and_self, ne_eq, hM]
  refine d_puts hX hW (Or.inr ⟨rfl, rfl⟩) hf hm (fun g' y1 y2 => ?_)
  simp only [m_M_draw, b_M_draw_0, wp_aln0, wp_cv1, wp_cv2, wp_cv3, wp_cv4, wp_cv5, wp_cv6, wp_cv7, wp_iln1, wp_iln2, wp_iret, wp_sipush, wp_zret, qmd_kd, qmd_k1, qmd_l1, qmd_gf0, qmd_k2, qmd_l2, qmd_gf1, qmd_k3, qmd_l3, qmd_gf2, qmd_k4, qmd_l4, qmd_gf4, qmd_k5, qmd_l5, qmd_gf6, qmd_k6, qmd_l6, qmd_gf7, qmd_k7, qmd_l7, qmd_gf10, qmd_k8, qmd_l8, qmd_gf11, qmd_k9, qmd_l9, qmd_gf12, qmd_gf3, qmd_pf3, qmd_gf5, qmd_pf5, qmd_gf8, qmd_pf8, qmd_gf9, qmd_pf9, wrI_row, cpI_row, row_s, row_n, row_ss, row_sw, upd_s, upd_n, ad_inj, ad_z, ad_z2, Nat.reduceEqDiff, reduceCtorEq, List.cons_append, List.nil_append, Option.toList_some, Option.toList_none, Int.toNat_natCast, List.length_cons, List.length_nil, Int.cast_ofNat_Int, Nat.reduceAdd, Nat.reduceLeDiff, Nat.reduceLT, Nat.reduceMul, Int.reduceAdd, Int.reduceSub, Int.reduceMul, Int.reduceNeg, Int.reduceLT, Int.reduceLE, Int.reduceEq, Int.reduceToNat, eq_self, true_and, and_true, true_or, or_true, false_or, or_false, if_true, if_false, not_true_eq_false, not_false_eq_true, and_self, ne_eq]
  exact hQ g' y1 y2
theorem vwM_upd0 {r : Nat → Int} {v : Int} : vwM (upd1 r 0 v) 0 0 = v ∧ ∀ k j, 1 ≤ k → k ≤ 10 → vwM (upd1 r 0 v) k j = vwM r k j := by
  refine ⟨upd_s, fun k j h1 hk => ?_⟩
  rcases k_cases hk with rfl | rfl | rfl | rfl | rfl | rfl | rfl | rfl | rfl | rfl | rfl
  · omega
  · show (if j < 8 then upd1 r 0 v (1 + 2 * j) else 0) = if j < 8 then r (1 + 2 * j) else 0
    split
    · exact upd_n (by omega)
    · rfl
  · show (if j < 8 then upd1 r 0 v (2 + 2 * j) else 0) = if j < 8 then r (2 + 2 * j) else 0
    split
    · exact upd_n (by omega)
    · rfl
  · show (if j < 36 then upd1 r 0 v (17 + j) else 0) = if j < 36 then r (17 + j) else 0
    split
    · exact upd_n (by omega)
    · rfl
  · show (if j < 5 then upd1 r 0 v (53 + j) else 0) = if j < 5 then r (53 + j) else 0
    split
    · exact upd_n (by omega)
    · rfl
  · exact upd_n (by omega)
  · show (if j < 30 then upd1 r 0 v (59 + 2 * j) else 0) = if j < 30 then r (59 + 2 * j) else 0
    split
    · exact upd_n (by omega)
    · rfl
  · show (if j < 30 then upd1 r 0 v (60 + 2 * j) else 0) = if j < 30 then r (60 + 2 * j) else 0
    split
    · exact upd_n (by omega)
    · rfl
  · show smM (upd1 r 0 v) (upd1 r 0 v 58).toNat = smM r (r 58).toNat
    rw [upd_n (by omega)]
    exact smM_eq _ (fun s hs => upd_n (by omega))
  · show (if j < 99 then upd1 r 0 v (119 + j) else 0) = if j < 99 then r (119 + j) else 0
    split
    · exact upd_n (by omega)
    · rfl
  · show (if j < 99 then upd1 r 0 v (218 + j) else 0) = if j < 99 then r (218 + j) else 0
    split
    · exact upd_n (by omega)
    · rfl
theorem d_addMouth (hX : RepM g ρ M X) (hW : WFX X) {o w : Int} (hoo : i32 o) (hw : i32 w) (hQ : MdQ g ρ M (sAddMouth o w X) Q) : WpM zt 105 [AR M, AI o, AI w] (g, ρ) Q := by
  obtain ⟨hM, hS, -⟩ := id hX
  have hR := hS.1
  have hU := hW.1.1
  have e0 := m_0 hR
  have e5 := m_5 hR
  have b0 := hU.1
  have b5 := hU.2.2.2.2.1
  have b8 := hU.2.2.2.2.2.2.1
  unfold sAddMouth at hQ
  have h1 := isSize_ok (zt := zt) (g := g) (ρ := ρ) hoo
  have h2 := isSize_ok (zt := zt) (g := g) (ρ := ρ) hw
  by_cases c1 : 0 ≤ o ∧ o ≤ 9
  · rw [b2_t c1] at h1
    by_cases c2 : 0 ≤ w ∧ w ≤ 9
    · rw [b2_t c2] at h2
      rw [if_pos ⟨c1, c2⟩] at hQ
      by_cases c3 : X.1.1 0 0 < 8
      · rw [if_pos c3] at hQ
        have c3' : ¬ X.1.1 0 0 = 8 := by omega
        simp only [m_M_addMouth, b_M_addMouth_0, P_M_addMouth_14, b_M_addMouth_14, P_M_addMouth_16, b_M_addMouth_16, P_M_addMouth_30, b_M_addMouth_30, wp_abs, wp_aln0, wp_bipush, wp_copy, wp_cs1, wp_cs2, wp_cs3, wp_cs4, wp_cs5, wp_cs6, wp_cs7, wp_cv1, wp_cv2, wp_cv3, wp_cv4, wp_cv5, wp_cv6, wp_cv7, wp_dup2, wp_iadd, wp_iald, wp_iast, wp_icne, wp_iconst, wp_iln1, wp_iln2, wp_imul, wp_iret, wp_isub, wp_izeq, wp_izne, wp_max, wp_min, wp_nop, wp_zret, qmd_kd, qmd_k1, qmd_l1, qmd_gf0, qmd_k2, qmd_l2, qmd_gf1, qmd_k3, qmd_l3, qmd_gf2, qmd_k4, qmd_l4, qmd_gf4, qmd_k5, qmd_l5, qmd_gf6, qmd_k6, qmd_l6, qmd_gf7, qmd_k7, qmd_l7, qmd_gf10, qmd_k8, qmd_l8, qmd_gf11, qmd_k9, qmd_l9, qmd_gf12, qmd_gf3, qmd_pf3, qmd_gf5, qmd_pf5, qmd_gf8, qmd_pf8, qmd_gf9, qmd_pf9, wrI_row, cpI_row, row_s, row_n, row_ss, row_sw, upd_s, upd_n, ad_inj, ad_z, ad_z2, Nat.reduceEqDiff, reduceCtorEq, List.cons_append, List.nil_append, Option.toList_some, Option.toList_none, Int.toNat_natCast, List.length_cons, List.length_nil, Int.cast_ofNat_Int, Nat.reduceAdd, Nat.reduceLeDiff, Nat.reduceLT, Nat.reduceMul, Int.reduceAdd, Int.reduceSub, Int.reduceMul, Int.reduceNeg, Int.reduceLT, Int.reduceLE, Int.reduceEq, Int.reduceToNat, eq_self, true_and, and_true, true_or, or_true, false_or, or_false, if_true, if_false, not_true_eq_false, not_false_eq_true, and_self, ne_eq, hM, h1, h2, e0, c3']
        (repeat' (first | apply And.intro | split)) <;> first | omega | skip
        refine keep_ok hX hW (fun g' j1 j2 j3 => ?_)
        have hM' := j1.1
        have hR' : LR (-1) (vwM (g' (ad M 1))) X.1.1 := j1.2.1.1
        have i58 : g' (ad M 1) 58 ≤ 30 := by rw [m_5 hR']; omega
        have f0 : g' (ad M 1) 0 = X.1.1 0 0 := m_0 hR'
        obtain ⟨m, hm⟩ := Int.eq_ofNat_of_zero_le (show 0 ≤ X.1.1 0 0 by omega)
        rw [hm] at f0
        have i1 : (1 + 2 * (m : Int)).toNat = 1 + 2 * m := by omega
        have i2 : (1 + 2 * (m : Int) + 1).toNat = 2 + 2 * m := by omega
        have n1 : (0 = 1 + 2 * m) ↔ False := iff_false_intro (by omega)
        have n2 : (0 = 2 + 2 * m) ↔ False := iff_false_intro (by omega)
        have u1 := vwM_u1 (v := o) i58 (J := m) (p := 1 + 2 * m) (by omega) (by omega)
        have i58b : upd1 (g' (ad M 1)) (1 + 2 * m) o 58 ≤ 30 := by rw [upd_n (by omega)]; exact i58
        have u2 := vwM_u2 (v := w) i58b (J := m) (p := 2 + 2 * m) (by omega) (by omega)
        have u3 := vwM_upd0 (r := upd1 (upd1 (g' (ad M 1)) (1 + 2 * m) o) (2 + 2 * m) w) (v := (m : Int) + 1)
        have hl : LR (-1) (vwM (upd1 (upd1 (upd1 (g' (ad M 1)) (1 + 2 * m) o) (2 + 2 * m) w) 0 ((m : Int) + 1))) (addV X.1.1 o w) := by
          refine lr_add hR' ?_ (fun j => ?_) (fun j => ?_) (fun k j z1 z2 => ?_)
          · rw [u3.1, hm]
          · rw [u3.2 1 j (by omega) (by omega), hm, Int.toNat_natCast]
            by_cases e : j = m
            · subst e
              rw [if_pos rfl, u2.2 1 j (by omega) (by omega), u1.1]
            · rw [if_neg e, u2.2 1 j (by omega) (by omega), u1.2 1 j (by omega) (by omega)]
          · rw [u3.2 2 j (by omega) (by omega), hm, Int.toNat_natCast]
            by_cases e : j = m
            · subst e
              rw [if_pos rfl, u2.1]
            · rw [if_neg e, u2.2 2 j (by omega) (by omega), u1.2 2 j (by omega) (by omega)]
          · rw [u3.2 k j (by omega) (by omega), u2.2 k j (by omega) (by omega), u1.2 k j (by omega) (by omega)]
        have q := hQ (setRow g' (ad M 1) (upd1 (upd1 (upd1 (g' (ad M 1)) (1 + 2 * m) o) (2 + 2 * m) w) 0 ((m : Int) + 1))) (j1.pg hW hl (fun y z1 z2 => by rw [upd_n (by omega), upd_n (by omega), upd_n (by omega)])) (pg_fr j2)
        rw [hm] at q
        have e9 : (m : Int) + 1 - 1 = m := by omega
        simp only [m_M_addMouth, b_M_addMouth_0, P_M_addMouth_14, b_M_addMouth_14, P_M_addMouth_16, b_M_addMouth_16, P_M_addMouth_30, b_M_addMouth_30, wp_abs, wp_aln0, wp_bipush, wp_copy, wp_cs1, wp_cs2, wp_cs3, wp_cs4, wp_cs5, wp_cs6, wp_cs7, wp_cv1, wp_cv2, wp_cv3, wp_cv4, wp_cv5, wp_cv6, wp_cv7, wp_dup2, wp_iadd, wp_iald, wp_iast, wp_icne, wp_iconst, wp_iln1, wp_iln2, wp_imul, wp_iret, wp_isub, wp_izeq, wp_izne, wp_max, wp_min, wp_nop, wp_zret, qmd_kd, qmd_k1, qmd_l1, qmd_gf0, qmd_k2, qmd_l2, qmd_gf1, qmd_k3, qmd_l3, qmd_gf2, qmd_k4, qmd_l4, qmd_gf4, qmd_k5, qmd_l5, qmd_gf6, qmd_k6, qmd_l6, qmd_gf7, qmd_k7, qmd_l7, qmd_gf10, qmd_k8, qmd_l8, qmd_gf11, qmd_k9, qmd_l9, qmd_gf12, qmd_gf3, qmd_pf3, qmd_gf5, qmd_pf5, qmd_gf8, qmd_pf8, qmd_gf9, qmd_pf9, wrI_row, cpI_row, row_s, row_n, row_ss, row_sw, upd_s, upd_n, ad_inj, ad_z, ad_z2, Nat.reduceEqDiff, reduceCtorEq, List.cons_append, List.nil_append, Option.toList_some, Option.toList_none, Int.toNat_natCast, List.length_cons, List.length_nil, Int.cast_ofNat_Int, Nat.reduceAdd, Nat.reduceLeDiff, Nat.reduceLT, Nat.reduceMul, Int.reduceAdd, Int.reduceSub, Int.reduceMul, Int.reduceNeg, Int.reduceLT, Int.reduceLE, Int.reduceEq, Int.reduceToNat, eq_self, true_and, and_true, true_or, or_true, false_or, or_false, if_true, if_false, not_true_eq_false, not_false_eq_true, and_self, ne_eq, hM', f0, i1, i2, n1, n2, wp_dup2, e9]
        (repeat' (first | apply And.intro | split)) <;> first | omega | exact q
      · rw [if_neg c3] at hQ
        have q := hQ.ro hX
        have c3' : X.1.1 0 0 = 8 := by omega
        simp only [m_M_addMouth, b_M_addMouth_0, P_M_addMouth_14, b_M_addMouth_14, P_M_addMouth_16, b_M_addMouth_16, P_M_addMouth_30, b_M_addMouth_30, wp_abs, wp_aln0, wp_bipush, wp_copy, wp_cs1, wp_cs2, wp_cs3, wp_cs4, wp_cs5, wp_cs6, wp_cs7, wp_cv1, wp_cv2, wp_cv3, wp_cv4, wp_cv5, wp_cv6, wp_cv7, wp_dup2, wp_iadd, wp_iald, wp_iast, wp_icne, wp_iconst, wp_iln1, wp_iln2, wp_imul, wp_iret, wp_isub, wp_izeq, wp_izne, wp_max, wp_min, wp_nop, wp_zret, qmd_kd, qmd_k1, qmd_l1, qmd_gf0, qmd_k2, qmd_l2, qmd_gf1, qmd_k3, qmd_l3, qmd_gf2, qmd_k4, qmd_l4, qmd_gf4, qmd_k5, qmd_l5, qmd_gf6, qmd_k6, qmd_l6, qmd_gf7, qmd_k7, qmd_l7, qmd_gf10, qmd_k8, qmd_l8, qmd_gf11, qmd_k9, qmd_l9, qmd_gf12, qmd_gf3, qmd_pf3, qmd_gf5, qmd_pf5, qmd_gf8, qmd_pf8, qmd_gf9, qmd_pf9, wrI_row, cpI_row, row_s, row_n, row_ss, row_sw, upd_s, upd_n, ad_inj, ad_z, ad_z2, Nat.reduceEqDiff, reduceCtorEq, List.cons_append, List.nil_append, Option.toList_some, Option.toList_none, Int.toNat_natCast, List.length_cons, List.length_nil, Int.cast_ofNat_Int, Nat.reduceAdd, Nat.reduceLeDiff, Nat.reduceLT, Nat.reduceMul, Int.reduceAdd, Int.reduceSub, Int.reduceMul, Int.reduceNeg, Int.reduceLT, Int.reduceLE, Int.reduceEq, Int.reduceToNat, eq_self, true_and, and_true, true_or, or_true, false_or, or_false, if_true, if_false, not_true_eq_false, not_false_eq_true, and_self, ne_eq, hM, h1, h2, e0, c3']
        (repeat' (first | apply And.intro | split)) <;> first | omega | exact q
    · rw [b2_f c2] at h2
      rw [if_neg (fun z => c2 z.2)] at hQ
      have q := hQ.ro hX
      simp only [m_M_addMouth, b_M_addMouth_0, P_M_addMouth_14, b_M_addMouth_14, P_M_addMouth_16, b_M_addMouth_16, P_M_addMouth_30, b_M_addMouth_30, wp_abs, wp_aln0, wp_bipush, wp_copy, wp_cs1, wp_cs2, wp_cs3, wp_cs4, wp_cs5, wp_cs6, wp_cs7, wp_cv1, wp_cv2, wp_cv3, wp_cv4, wp_cv5, wp_cv6, wp_cv7, wp_dup2, wp_iadd, wp_iald, wp_iast, wp_icne, wp_iconst, wp_iln1, wp_iln2, wp_imul, wp_iret, wp_isub, wp_izeq, wp_izne, wp_max, wp_min, wp_nop, wp_zret, qmd_kd, qmd_k1, qmd_l1, qmd_gf0, qmd_k2, qmd_l2, qmd_gf1, qmd_k3, qmd_l3, qmd_gf2, qmd_k4, qmd_l4, qmd_gf4, qmd_k5, qmd_l5, qmd_gf6, qmd_k6, qmd_l6, qmd_gf7, qmd_k7, qmd_l7, qmd_gf10, qmd_k8, qmd_l8, qmd_gf11, qmd_k9, qmd_l9, qmd_gf12, qmd_gf3, qmd_pf3, qmd_gf5, qmd_pf5, qmd_gf8, qmd_pf8, qmd_gf9, qmd_pf9, wrI_row, cpI_row, row_s, row_n, row_ss, row_sw, upd_s, upd_n, ad_inj, ad_z, ad_z2, Nat.reduceEqDiff, reduceCtorEq, List.cons_append, List.nil_append, Option.toList_some, Option.toList_none, Int.toNat_natCast, List.length_cons, List.length_nil, Int.cast_ofNat_Int, Nat.reduceAdd, Nat.reduceLeDiff, Nat.reduceLT, Nat.reduceMul, Int.reduceAdd, Int.reduceSub, Int.reduceMul, Int.reduceNeg, Int.reduceLT, Int.reduceLE, Int.reduceEq, Int.reduceToNat, eq_self, true_and, and_true, true_or, or_true, false_or, or_false, if_true, if_false, not_true_eq_false, not_false_eq_true, and_self, ne_eq, hM, h1, h2]
      (repeat' (first | apply And.intro | split)) <;> first | omega | exact q
  · rw [b2_f c1] at h1
    rw [if_neg (fun z => c1 z.1)] at hQ
    have q := hQ.ro hX
    simp only [m_M_addMouth, b_M_addMouth_0, P_M_addMouth_14, b_M_addMouth_14, P_M_addMouth_16, b_M_addMouth_16, P_M_addMouth_30, b_M_addMouth_30, wp_abs, wp_aln0, wp_bipush, wp_copy, wp_cs1, wp_cs2, wp_cs3, wp_cs4, wp_cs5, wp_cs6, wp_cs7, wp_cv1, wp_cv2, wp_cv3, wp_cv4, wp_cv5, wp_cv6, wp_cv7, wp_dup2, wp_iadd, wp_iald, wp_iast, wp_icne, wp_iconst, wp_iln1, wp_iln2, wp_imul, wp_iret, wp_isub, wp_izeq, wp_izne, wp_max, wp_min, wp_nop, wp_zret, qmd_kd, qmd_k1, qmd_l1, qmd_gf0, qmd_k2, qmd_l2, qmd_gf1, qmd_k3, qmd_l3, qmd_gf2, qmd_k4, qmd_l4, qmd_gf4, qmd_k5, qmd_l5, qmd_gf6, qmd_k6, qmd_l6, qmd_gf7, qmd_k7, qmd_l7, qmd_gf10, qmd_k8, qmd_l8, qmd_gf11, qmd_k9, qmd_l9, qmd_gf12, qmd_gf3, qmd_pf3, qmd_gf5, qmd_pf5, qmd_gf8, qmd_pf8, qmd_gf9, qmd_pf9, wrI_row, cpI_row, row_s, row_n, row_ss, row_sw, upd_s, upd_n, ad_inj, ad_z, ad_z2, Nat.reduceEqDiff, reduceCtorEq, List.cons_append, List.nil_append, Option.toList_some, Option.toList_none, Int.toNat_natCast, List.length_cons, List.length_nil, Int.cast_ofNat_Int, Nat.reduceAdd, Nat.reduceLeDiff, Nat.reduceLT, Nat.reduceMul, Int.reduceAdd, Int.reduceSub, Int.reduceMul, Int.reduceNeg, Int.reduceLT, Int.reduceLE, Int.reduceEq, Int.reduceToNat, eq_self, true_and, and_true, true_or, or_true, false_or, or_false, if_true, if_false, not_true_eq_false, not_false_eq_true, and_self, ne_eq, hM, h1]
    (repeat' (first | apply And.intro | split)) <;> first | omega | exact q
theorem d_setMouth (hX : RepM g ρ M X) (hW : WFX X) {m o w : Int} (hm : i32 m) (hoo : i32 o) (hw : i32 w) (hQ : MdQ g ρ M (sSetMouth m o w X) Q) : WpM zt 106 [AR M, AI m, AI o, AI w] (g, ρ) Q := by
  obtain ⟨hM, hS, -⟩ := id hX
  have hR := hS.1
  have hU := hW.1.1
  have e0 := m_0 hR
  have e5 := m_5 hR
  have b0 := hU.1
  have b5 := hU.2.2.2.2.1
  have b8 := hU.2.2.2.2.2.2.1
  unfold sSetMouth at hQ
  have h0 := isMouth_ok (zt := zt) hM hR hU hm
  have h1 := isSize_ok (zt := zt) (g := g) (ρ := ρ) hoo
  have h2 := isSize_ok (zt := zt) (g := g) (ρ := ρ) hw
  by_cases c0 : 0 ≤ m ∧ m < X.1.1 0 0
  · rw [b2_t c0] at h0
    by_cases c1 : 0 ≤ o ∧ o ≤ 9
    · rw [b2_t c1] at h1
      by_cases c2 : 0 ≤ w ∧ w ≤ 9
      · rw [b2_t c2] at h2
        rw [if_pos ⟨c0, c1, c2⟩] at hQ
        simp only [m_M_setMouth, b_M_setMouth_0, P_M_setMouth_22, b_M_setMouth_22, P_M_setMouth_24, b_M_setMouth_24, wp_abs, wp_aln0, wp_copy, wp_cs1, wp_cs2, wp_cs3, wp_cs4, wp_cs5, wp_cs6, wp_cs7, wp_cv1, wp_cv2, wp_cv3, wp_cv4, wp_cv5, wp_cv6, wp_cv7, wp_iadd, wp_iast, wp_iconst, wp_il4, wp_iln1, wp_iln2, wp_iln3, wp_imul, wp_iret, wp_is4, wp_izeq, wp_izne, wp_max, wp_min, wp_nop, wp_zret, qmd_kd, qmd_k1, qmd_l1, qmd_gf0, qmd_k2, qmd_l2, qmd_gf1, qmd_k3, qmd_l3, qmd_gf2, qmd_k4, qmd_l4, qmd_gf4, qmd_k5, qmd_l5, qmd_gf6, qmd_k6, qmd_l6, qmd_gf7, qmd_k7, qmd_l7, qmd_gf10, qmd_k8, qmd_l8, qmd_gf11, qmd_k9, qmd_l9, qmd_gf12, qmd_gf3, qmd_pf3, qmd_gf5, qmd_pf5, qmd_gf8, qmd_pf8, qmd_gf9, qmd_pf9, wrI_row, cpI_row, row_s, row_n, row_ss, row_sw, upd_s, upd_n, ad_inj, ad_z, ad_z2, Nat.reduceEqDiff, reduceCtorEq, List.cons_append, List.nil_append, Option.toList_some, Option.toList_none, Int.toNat_natCast, List.length_cons, List.length_nil, Int.cast_ofNat_Int, Nat.reduceAdd, Nat.reduceLeDiff, Nat.reduceLT, Nat.reduceMul, Int.reduceAdd, Int.reduceSub, Int.reduceMul, Int.reduceNeg, Int.reduceLT, Int.reduceLE, Int.reduceEq, Int.reduceToNat, eq_self, true_and, and_true, true_or, or_true, false_or, or_false, if_true, if_false, not_true_eq_false, not_false_eq_true, and_self, ne_eq, hM, h0, h1, h2]
        refine keep_ok hX hW (fun g' j1 j2 j3 => ?_)
        have hM' := j1.1
        have hR' : LR (-1) (vwM (g' (ad M 1))) X.1.1 := j1.2.1.1
        have i58 : g' (ad M 1) 58 ≤ 30 := by rw [m_5 hR']; omega
        have bm := hU.2.1 m.toNat (by omega)
        have o1 := opening_ok (zt := zt) hM' hR' hU c0.1 c0.2
        have w1 := width_ok (zt := zt) hM' hR' hU c0.1 c0.2
        have a1 := fun Q => apart_ok (zt := zt) (g := g') (ρ := ρ) (x := X.1.1 1 m.toNat) (y := o) (by omega) (by omega) Q
        have a2 := fun Q => apart_ok (zt := zt) (g := g') (ρ := ρ) (x := X.1.1 2 m.toNat) (y := w) (by omega) (by omega) Q
        have g1 := fun Q => greater_ok (zt := zt) (g := g') (ρ := ρ) (x := ((X.1.1 1 m.toNat - o).natAbs : Int)) (y := ((X.1.1 2 m.toNat - w).natAbs : Int)) (by omega) (by omega) Q
        have u1 := vwM_u1 (v := o) i58 (J := m.toNat) (p := (1 + 2 * m).toNat) (by omega) (by omega)
        have i58b : upd1 (g' (ad M 1)) (1 + 2 * m).toNat o 58 ≤ 30 := by rw [upd_n (by omega)]; exact i58
        have u2 := vwM_u2 (v := w) i58b (J := m.toNat) (p := (1 + 2 * m + 1).toNat) (by omega) (by omega)
        have hl1 : LR (-1) (vwM (upd1 (g' (ad M 1)) (1 + 2 * m).toNat o)) (setV X.1.1 1 m.toNat o) := lr_set hR' (Or.inl rfl) (fun k' j' z1 z2 => u1.2 k' j' z1 z2) u1.1
        have hl : LR (-1) (vwM (upd1 (upd1 (g' (ad M 1)) (1 + 2 * m).toNat o) (1 + 2 * m + 1).toNat w)) (setV (setV X.1.1 1 m.toNat o) 2 m.toNat w) := lr_set hl1 (Or.inr (Or.inl rfl)) (fun k' j' z1 z2 => u2.2 k' j' z1 z2) u2.1
        have q := hQ (setRow g' (ad M 1) (upd1 (upd1 (g' (ad M 1)) (1 + 2 * m).toNat o) (1 + 2 * m + 1).toNat w)) (j1.pg hW hl (fun y z1 z2 => by rw [upd_n (by omega), upd_n (by omega)])) (pg_fr j2)
        simp only [m_M_setMouth, b_M_setMouth_0, P_M_setMouth_22, b_M_setMouth_22, P_M_setMouth_24, b_M_setMouth_24, wp_abs, wp_aln0, wp_copy, wp_cs1, wp_cs2, wp_cs3, wp_cs4, wp_cs5, wp_cs6, wp_cs7, wp_cv1, wp_cv2, wp_cv3, wp_cv4, wp_cv5, wp_cv6, wp_cv7, wp_iadd, wp_iast, wp_iconst, wp_il4, wp_iln1, wp_iln2, wp_iln3, wp_imul, wp_iret, wp_is4, wp_izeq, wp_izne, wp_max, wp_min, wp_nop, wp_zret, qmd_kd, qmd_k1, qmd_l1, qmd_gf0, qmd_k2, qmd_l2, qmd_gf1, qmd_k3, qmd_l3, qmd_gf2, qmd_k4, qmd_l4, qmd_gf4, qmd_k5, qmd_l5, qmd_gf6, qmd_k6, qmd_l6, qmd_gf7, qmd_k7, qmd_l7, qmd_gf10, qmd_k8, qmd_l8, qmd_gf11, qmd_k9, qmd_l9, qmd_gf12, qmd_gf3, qmd_pf3, qmd_gf5, qmd_pf5, qmd_gf8, qmd_pf8, qmd_gf9, qmd_pf9, wrI_row, cpI_row, row_s, row_n, row_ss, row_sw, upd_s, upd_n, ad_inj, ad_z, ad_z2, Nat.reduceEqDiff, reduceCtorEq, List.cons_append, List.nil_append, Option.toList_some, Option.toList_none, Int.toNat_natCast, List.length_cons, List.length_nil, Int.cast_ofNat_Int, Nat.reduceAdd, Nat.reduceLeDiff, Nat.reduceLT, Nat.reduceMul, Int.reduceAdd, Int.reduceSub, Int.reduceMul, Int.reduceNeg, Int.reduceLT, Int.reduceLE, Int.reduceEq, Int.reduceToNat, eq_self, true_and, and_true, true_or, or_true, false_or, or_false, if_true, if_false, not_true_eq_false, not_false_eq_true, and_self, ne_eq, hM', o1, w1, a1, a2, g1]
        (repeat' (first | apply And.intro | split)) <;> first | omega | exact q
      · rw [b2_f c2] at h2
        rw [if_neg (fun z => c2 z.2.2)] at hQ
        have q := hQ.ro hX
        simp only [m_M_setMouth, b_M_setMouth_0, P_M_setMouth_22, b_M_setMouth_22, P_M_setMouth_24, b_M_setMouth_24, wp_abs, wp_aln0, wp_copy, wp_cs1, wp_cs2, wp_cs3, wp_cs4, wp_cs5, wp_cs6, wp_cs7, wp_cv1, wp_cv2, wp_cv3, wp_cv4, wp_cv5, wp_cv6, wp_cv7, wp_iadd, wp_iast, wp_iconst, wp_il4, wp_iln1, wp_iln2, wp_iln3, wp_imul, wp_iret, wp_is4, wp_izeq, wp_izne, wp_max, wp_min, wp_nop, wp_zret, qmd_kd, qmd_k1, qmd_l1, qmd_gf0, qmd_k2, qmd_l2, qmd_gf1, qmd_k3, qmd_l3, qmd_gf2, qmd_k4, qmd_l4, qmd_gf4, qmd_k5, qmd_l5, qmd_gf6, qmd_k6, qmd_l6, qmd_gf7, qmd_k7, qmd_l7, qmd_gf10, qmd_k8, qmd_l8, qmd_gf11, qmd_k9, qmd_l9, qmd_gf12, qmd_gf3, qmd_pf3, qmd_gf5, qmd_pf5, qmd_gf8, qmd_pf8, qmd_gf9, qmd_pf9, wrI_row, cpI_row, row_s, row_n, row_ss, row_sw, upd_s, upd_n, ad_inj, ad_z, ad_z2, Nat.reduceEqDiff, reduceCtorEq, List.cons_append, List.nil_append, Option.toList_some, Option.toList_none, Int.toNat_natCast, List.length_cons, List.length_nil, Int.cast_ofNat_Int, Nat.reduceAdd, Nat.reduceLeDiff, Nat.reduceLT, Nat.reduceMul, Int.reduceAdd, Int.reduceSub, Int.reduceMul, Int.reduceNeg, Int.reduceLT, Int.reduceLE, Int.reduceEq, Int.reduceToNat, eq_self, true_and, and_true, true_or, or_true, false_or, or_false, if_true, if_false, not_true_eq_false, not_false_eq_true, and_self, ne_eq, hM, h0, h1, h2]
        (repeat' (first | apply And.intro | split)) <;> first | omega | exact q
    · rw [b2_f c1] at h1
      rw [if_neg (fun z => c1 z.2.1)] at hQ
      have q := hQ.ro hX
      simp only [m_M_setMouth, b_M_setMouth_0, P_M_setMouth_22, b_M_setMouth_22, P_M_setMouth_24, b_M_setMouth_24, wp_abs, wp_aln0, wp_copy, wp_cs1, wp_cs2, wp_cs3, wp_cs4, wp_cs5, wp_cs6, wp_cs7, wp_cv1, wp_cv2, wp_cv3, wp_cv4, wp_cv5, wp_cv6, wp_cv7, wp_iadd, wp_iast, wp_iconst, wp_il4, wp_iln1, wp_iln2, wp_iln3, wp_imul, wp_iret, wp_is4, wp_izeq, wp_izne, wp_max, wp_min, wp_nop, wp_zret, qmd_kd, qmd_k1, qmd_l1, qmd_gf0, qmd_k2, qmd_l2, qmd_gf1, qmd_k3, qmd_l3, qmd_gf2, qmd_k4, qmd_l4, qmd_gf4, qmd_k5, qmd_l5, qmd_gf6, qmd_k6, qmd_l6, qmd_gf7, qmd_k7, qmd_l7, qmd_gf10, qmd_k8, qmd_l8, qmd_gf11, qmd_k9, qmd_l9, qmd_gf12, qmd_gf3, qmd_pf3, qmd_gf5, qmd_pf5, qmd_gf8, qmd_pf8, qmd_gf9, qmd_pf9, wrI_row, cpI_row, row_s, row_n, row_ss, row_sw, upd_s, upd_n, ad_inj, ad_z, ad_z2, Nat.reduceEqDiff, reduceCtorEq, List.cons_append, List.nil_append, Option.toList_some, Option.toList_none, Int.toNat_natCast, List.length_cons, List.length_nil, Int.cast_ofNat_Int, Nat.reduceAdd, Nat.reduceLeDiff, Nat.reduceLT, Nat.reduceMul, Int.reduceAdd, Int.reduceSub, Int.reduceMul, Int.reduceNeg, Int.reduceLT, Int.reduceLE, Int.reduceEq, Int.reduceToNat, eq_self, true_and, and_true, true_or, or_true, false_or, or_false, if_true, if_false, not_true_eq_false, not_false_eq_true, and_self, ne_eq, hM, h0, h1]
      (repeat' (first | apply And.intro | split)) <;> first | omega | exact q
  · rw [b2_f c0] at h0
    rw [if_neg (fun z => c0 z.1)] at hQ
    have q := hQ.ro hX
    simp only [m_M_setMouth, b_M_setMouth_0, P_M_setMouth_22, b_M_setMouth_22, P_M_setMouth_24, b_M_setMouth_24, wp_abs, wp_aln0, wp_copy, wp_cs1, wp_cs2, wp_cs3, wp_cs4, wp_cs5, wp_cs6, wp_cs7, wp_cv1, wp_cv2, wp_cv3, wp_cv4, wp_cv5, wp_cv6, wp_cv7, wp_iadd, wp_iast, wp_iconst, wp_il4, wp_iln1, wp_iln2, wp_iln3, wp_imul, wp_iret, wp_is4, wp_izeq, wp_izne, wp_max, wp_min, wp_nop, wp_zret, qmd_kd, qmd_k1, qmd_l1, qmd_gf0, qmd_k2, qmd_l2, qmd_gf1, qmd_k3, qmd_l3, qmd_gf2, qmd_k4, qmd_l4, qmd_gf4, qmd_k5, qmd_l5, qmd_gf6, qmd_k6, qmd_l6, qmd_gf7, qmd_k7, qmd_l7, qmd_gf10, qmd_k8, qmd_l8, qmd_gf11, qmd_k9, qmd_l9, qmd_gf12, qmd_gf3, qmd_pf3, qmd_gf5, qmd_pf5, qmd_gf8, qmd_pf8, qmd_gf9, qmd_pf9, wrI_row, cpI_row, row_s, row_n, row_ss, row_sw, upd_s, upd_n, ad_inj, ad_z, ad_z2, Nat.reduceEqDiff, reduceCtorEq, List.cons_append, List.nil_append, Option.toList_some, Option.toList_none, Int.toNat_natCast, List.length_cons, List.length_nil, Int.cast_ofNat_Int, Nat.reduceAdd, Nat.reduceLeDiff, Nat.reduceLT, Nat.reduceMul, Int.reduceAdd, Int.reduceSub, Int.reduceMul, Int.reduceNeg, Int.reduceLT, Int.reduceLE, Int.reduceEq, Int.reduceToNat, eq_self, true_and, and_true, true_or, or_true, false_or, or_false, if_true, if_false, not_true_eq_false, not_false_eq_true, and_self, ne_eq, hM, h0]
    (repeat' (first | apply And.intro | split)) <;> first | omega | exact q
theorem d_setSound (hX : RepM g ρ M X) (hW : WFX X) {kd w v : Int} (hk : i32 kd) (hw : i32 w) (hv : i32 v) (hQ : MdQ g ρ M (sSetSound kd w v X) Q) : WpM zt 107 [AR M, AI kd, AI w, AI v] (g, ρ) Q := by
  obtain ⟨hM, hS, -⟩ := id hX
  have hR := hS.1
  have hU := hW.1.1
  have e0 := m_0 hR
  have e5 := m_5 hR
  have b0 := hU.1
  have b5 := hU.2.2.2.2.1
  have b8 := hU.2.2.2.2.2.2.1
  unfold sSetSound at hQ
  by_cases c1 : 0 ≤ kd ∧ kd ≤ 8
  · have ho1 := fun Q => in_t (zt := zt) (g := g) (ρ := ρ) (lo := 0) (hi := 8) (by omega) (by omega) c1 Q
    by_cases c2 : 0 ≤ w ∧ w ≤ 3
    · have ho2 := fun Q => in_t (zt := zt) (g := g) (ρ := ρ) (lo := 0) (hi := 3) (by omega) (by omega) c2 Q
      have rest : (if (0 ≤ v ∧ v ≤ (if w = 3 then 3 else 9)) then True else False) → Wp zt 107 (P 107 40) [some (AR M), some (AI kd), some (AI w), some (AI v), none] [] (g, ρ) Q := by
        intro zz
        have c3 : 0 ≤ v ∧ v ≤ (if w = 3 then 3 else 9) := by
          by_cases c : 0 ≤ v ∧ v ≤ (if w = 3 then 3 else 9)
          · exact c
          · rw [if_neg c] at zz
            exact zz.elim
        rw [if_pos ⟨c1, c2, c3⟩] at hQ
        rw [P_M_setSound_40]
        simp only [m_M_setSound, b_M_setSound_0, P_M_setSound_30, b_M_setSound_30, P_M_setSound_32, b_M_setSound_32, P_M_setSound_38, b_M_setSound_38, wp_abs, wp_aln0, wp_bipush, wp_copy, wp_cs1, wp_cs2, wp_cs3, wp_cs4, wp_cs5, wp_cs6, wp_cs7, wp_cv1, wp_cv2, wp_cv3, wp_cv4, wp_cv5, wp_cv6, wp_cv7, wp_goto, wp_iadd, wp_iald, wp_iast, wp_icne, wp_iconst, wp_il4, wp_iln1, wp_iln2, wp_iln3, wp_imul, wp_iret, wp_is4, wp_izeq, wp_izne, wp_max, wp_min, wp_nop, wp_zret, qmd_kd, qmd_k1, qmd_l1, qmd_gf0, qmd_k2, qmd_l2, qmd_gf1, qmd_k3, qmd_l3, qmd_gf2, qmd_k4, qmd_l4, qmd_gf4, qmd_k5, qmd_l5, qmd_gf6, qmd_k6, qmd_l6, qmd_gf7, qmd_k7, qmd_l7, qmd_gf10, qmd_k8, qmd_l8, qmd_gf11, qmd_k9, qmd_l9, qmd_gf12, qmd_gf3, qmd_pf3, qmd_gf5, qmd_pf5, qmd_gf8, qmd_pf8, qmd_gf9, qmd_pf9, wrI_row, cpI_row, row_s, row_n, row_ss, row_sw, upd_s, upd_n, ad_inj, ad_z, ad_z2, Nat.reduceEqDiff, reduceCtorEq, List.cons_append, List.nil_append, Option.toList_some, Option.toList_none, Int.toNat_natCast, List.length_cons, List.length_nil, Int.cast_ofNat_Int, Nat.reduceAdd, Nat.reduceLeDiff, Nat.reduceLT, Nat.reduceMul, Int.reduceAdd, Int.reduceSub, Int.reduceMul, Int.reduceNeg, Int.reduceLT, Int.reduceLE, Int.reduceEq, Int.reduceToNat, eq_self, true_and, and_true, true_or, or_true, false_or, or_false, if_true, if_false, not_true_eq_false, not_false_eq_true, and_self, ne_eq, b_M_setSound_40, hM]
        refine keep_ok hX hW (fun g' j1 j2 j3 => ?_)
        have hM' := j1.1
        have hR' : LR (-1) (vwM (g' (ad M 1))) X.1.1 := j1.2.1.1
        have i58 : g' (ad M 1) 58 ≤ 30 := by rw [m_5 hR']; omega
        have r1 := m_sn hR' (j := (kd * 4 + w).toNat) (by omega)
        rw [show 17 + (kd * 4 + w).toNat = (17 + 4 * kd + w).toNat by omega] at r1
        have u1 := vwM_u3 (v := v) i58 (J := (kd * 4 + w).toNat) (p := (17 + 4 * kd + w).toNat) (by omega) (by omega)
        have hl : LR (-1) (vwM (upd1 (g' (ad M 1)) (17 + 4 * kd + w).toNat v)) (setV X.1.1 3 (kd * 4 + w).toNat v) := lr_set hR' (Or.inr (Or.inr (Or.inl rfl))) (fun k' j' z1 z2 => u1.2 k' j' z1 z2) u1.1
        have q := hQ (setRow g' (ad M 1) (upd1 (g' (ad M 1)) (17 + 4 * kd + w).toNat v)) (j1.pg hW hl (fun y z1 z2 => upd_n (by omega))) (pg_fr j2)
        simp only [m_M_setSound, b_M_setSound_0, P_M_setSound_30, b_M_setSound_30, P_M_setSound_32, b_M_setSound_32, P_M_setSound_38, b_M_setSound_38, wp_abs, wp_aln0, wp_bipush, wp_copy, wp_cs1, wp_cs2, wp_cs3, wp_cs4, wp_cs5, wp_cs6, wp_cs7, wp_cv1, wp_cv2, wp_cv3, wp_cv4, wp_cv5, wp_cv6, wp_cv7, wp_goto, wp_iadd, wp_iald, wp_iast, wp_icne, wp_iconst, wp_il4, wp_iln1, wp_iln2, wp_iln3, wp_imul, wp_iret, wp_is4, wp_izeq, wp_izne, wp_max, wp_min, wp_nop, wp_zret, qmd_kd, qmd_k1, qmd_l1, qmd_gf0, qmd_k2, qmd_l2, qmd_gf1, qmd_k3, qmd_l3, qmd_gf2, qmd_k4, qmd_l4, qmd_gf4, qmd_k5, qmd_l5, qmd_gf6, qmd_k6, qmd_l6, qmd_gf7, qmd_k7, qmd_l7, qmd_gf10, qmd_k8, qmd_l8, qmd_gf11, qmd_k9, qmd_l9, qmd_gf12, qmd_gf3, qmd_pf3, qmd_gf5, qmd_pf5, qmd_gf8, qmd_pf8, qmd_gf9, qmd_pf9, wrI_row, cpI_row, row_s, row_n, row_ss, row_sw, upd_s, upd_n, ad_inj, ad_z, ad_z2, Nat.reduceEqDiff, reduceCtorEq, List.cons_append, List.nil_append, Option.toList_some, Option.toList_none, Int.toNat_natCast, List.length_cons, List.length_nil, Int.cast_ofNat_Int, Nat.reduceAdd, Nat.reduceLeDiff, Nat.reduceLT, Nat.reduceMul, Int.reduceAdd, Int.reduceSub, Int.reduceMul, Int.reduceNeg, Int.reduceLT, Int.reduceLE, Int.reduceEq, Int.reduceToNat, eq_self, true_and, and_true, true_or, or_true, false_or, or_false, if_true, if_false, not_true_eq_false, not_false_eq_true, and_self, ne_eq, hM', r1]
        (repeat' (first | apply And.intro | split)) <;> first | omega | exact q
      by_cases w3 : w = 3
      · rw [if_pos w3] at rest hQ
        by_cases c3 : 0 ≤ v ∧ v ≤ 3
        · have ho3 := fun Q => in_t (zt := zt) (g := g) (ρ := ρ) (lo := 0) (hi := 3) (by omega) (by omega) c3 Q
          have k1 := rest (by rw [if_pos c3]; exact True.intro)
          simp only [m_M_setSound, b_M_setSound_0, P_M_setSound_30, b_M_setSound_30, P_M_setSound_32, b_M_setSound_32, P_M_setSound_38, b_M_setSound_38, wp_abs, wp_aln0, wp_bipush, wp_copy, wp_cs1, wp_cs2, wp_cs3, wp_cs4, wp_cs5, wp_cs6, wp_cs7, wp_cv1, wp_cv2, wp_cv3, wp_cv4, wp_cv5, wp_cv6, wp_cv7, wp_goto, wp_iadd, wp_iald, wp_iast, wp_icne, wp_iconst, wp_il4, wp_iln1, wp_iln2, wp_iln3, wp_imul, wp_iret, wp_is4, wp_izeq, wp_izne, wp_max, wp_min, wp_nop, wp_zret, qmd_kd, qmd_k1, qmd_l1, qmd_gf0, qmd_k2, qmd_l2, qmd_gf1, qmd_k3, qmd_l3, qmd_gf2, qmd_k4, qmd_l4, qmd_gf4, qmd_k5, qmd_l5, qmd_gf6, qmd_k6, qmd_l6, qmd_gf7, qmd_k7, qmd_l7, qmd_gf10, qmd_k8, qmd_l8, qmd_gf11, qmd_k9, qmd_l9, qmd_gf12, qmd_gf3, qmd_pf3, qmd_gf5, qmd_pf5, qmd_gf8, qmd_pf8, qmd_gf9, qmd_pf9, wrI_row, cpI_row, row_s, row_n, row_ss, row_sw, upd_s, upd_n, ad_inj, ad_z, ad_z2, Nat.reduceEqDiff, reduceCtorEq, List.cons_append, List.nil_append, Option.toList_some, Option.toList_none, Int.toNat_natCast, List.length_cons, List.length_nil, Int.cast_ofNat_Int, Nat.reduceAdd, Nat.reduceLeDiff, Nat.reduceLT, Nat.reduceMul, Int.reduceAdd, Int.reduceSub, Int.reduceMul, Int.reduceNeg, Int.reduceLT, Int.reduceLE, Int.reduceEq, Int.reduceToNat, eq_self, true_and, and_true, true_or, or_true, false_or, or_false, if_true, if_false, not_true_eq_false, not_false_eq_true, and_self, ne_eq, hM, ho1, ho2, ho3]
          (repeat' (first | apply And.intro | split)) <;> first | omega | exact k1
        · have ho3 := fun Q => in_f (zt := zt) (g := g) (ρ := ρ) (lo := 0) (hi := 3) hv (by omega) (by omega) c3 Q
          rw [if_neg (fun z => c3 z.2.2)] at hQ
          have q := hQ.ro hX
          simp only [m_M_setSound, b_M_setSound_0, P_M_setSound_30, b_M_setSound_30, P_M_setSound_32, b_M_setSound_32, P_M_setSound_38, b_M_setSound_38, wp_abs, wp_aln0, wp_bipush, wp_copy, wp_cs1, wp_cs2, wp_cs3, wp_cs4, wp_cs5, wp_cs6, wp_cs7, wp_cv1, wp_cv2, wp_cv3, wp_cv4, wp_cv5, wp_cv6, wp_cv7, wp_goto, wp_iadd, wp_iald, wp_iast, wp_icne, wp_iconst, wp_il4, wp_iln1, wp_iln2, wp_iln3, wp_imul, wp_iret, wp_is4, wp_izeq, wp_izne, wp_max, wp_min, wp_nop, wp_zret, qmd_kd, qmd_k1, qmd_l1, qmd_gf0, qmd_k2, qmd_l2, qmd_gf1, qmd_k3, qmd_l3, qmd_gf2, qmd_k4, qmd_l4, qmd_gf4, qmd_k5, qmd_l5, qmd_gf6, qmd_k6, qmd_l6, qmd_gf7, qmd_k7, qmd_l7, qmd_gf10, qmd_k8, qmd_l8, qmd_gf11, qmd_k9, qmd_l9, qmd_gf12, qmd_gf3, qmd_pf3, qmd_gf5, qmd_pf5, qmd_gf8, qmd_pf8, qmd_gf9, qmd_pf9, wrI_row, cpI_row, row_s, row_n, row_ss, row_sw, upd_s, upd_n, ad_inj, ad_z, ad_z2, Nat.reduceEqDiff, reduceCtorEq, List.cons_append, List.nil_append, Option.toList_some, Option.toList_none, Int.toNat_natCast, List.length_cons, List.length_nil, Int.cast_ofNat_Int, Nat.reduceAdd, Nat.reduceLeDiff, Nat.reduceLT, Nat.reduceMul, Int.reduceAdd, Int.reduceSub, Int.reduceMul, Int.reduceNeg, Int.reduceLT, Int.reduceLE, Int.reduceEq, Int.reduceToNat, eq_self, true_and, and_true, true_or, or_true, false_or, or_false, if_true, if_false, not_true_eq_false, not_false_eq_true, and_self, ne_eq, hM, ho1, ho2, ho3]
          (repeat' (first | apply And.intro | split)) <;> first | omega | exact q
      · rw [if_neg w3] at rest hQ
        by_cases c3 : 0 ≤ v ∧ v ≤ 9
        · have ho3 := fun Q => in_t (zt := zt) (g := g) (ρ := ρ) (lo := 0) (hi := 9) (by omega) (by omega) c3 Q
          have k1 := rest (by rw [if_pos c3]; exact True.intro)
          simp only [m_M_setSound, b_M_setSound_0, P_M_setSound_30, b_M_setSound_30, P_M_setSound_32, b_M_setSound_32, P_M_setSound_38, b_M_setSound_38, wp_abs, wp_aln0, wp_bipush, wp_copy, wp_cs1, wp_cs2, wp_cs3, wp_cs4, wp_cs5, wp_cs6, wp_cs7, wp_cv1, wp_cv2, wp_cv3, wp_cv4, wp_cv5, wp_cv6, wp_cv7, wp_goto, wp_iadd, wp_iald, wp_iast, wp_icne, wp_iconst, wp_il4, wp_iln1, wp_iln2, wp_iln3, wp_imul, wp_iret, wp_is4, wp_izeq, wp_izne, wp_max, wp_min, wp_nop, wp_zret, qmd_kd, qmd_k1, qmd_l1, qmd_gf0, qmd_k2, qmd_l2, qmd_gf1, qmd_k3, qmd_l3, qmd_gf2, qmd_k4, qmd_l4, qmd_gf4, qmd_k5, qmd_l5, qmd_gf6, qmd_k6, qmd_l6, qmd_gf7, qmd_k7, qmd_l7, qmd_gf10, qmd_k8, qmd_l8, qmd_gf11, qmd_k9, qmd_l9, qmd_gf12, qmd_gf3, qmd_pf3, qmd_gf5, qmd_pf5, qmd_gf8, qmd_pf8, qmd_gf9, qmd_pf9, wrI_row, cpI_row, row_s, row_n, row_ss, row_sw, upd_s, upd_n, ad_inj, ad_z, ad_z2, Nat.reduceEqDiff, reduceCtorEq, List.cons_append, List.nil_append, Option.toList_some, Option.toList_none, Int.toNat_natCast, List.length_cons, List.length_nil, Int.cast_ofNat_Int, Nat.reduceAdd, Nat.reduceLeDiff, Nat.reduceLT, Nat.reduceMul, Int.reduceAdd, Int.reduceSub, Int.reduceMul, Int.reduceNeg, Int.reduceLT, Int.reduceLE, Int.reduceEq, Int.reduceToNat, eq_self, true_and, and_true, true_or, or_true, false_or, or_false, if_true, if_false, not_true_eq_false, not_false_eq_true, and_self, ne_eq, hM, ho1, ho2, ho3]
          (repeat' (first | apply And.intro | split)) <;> first | omega | exact k1
        · have ho3 := fun Q => in_f (zt := zt) (g := g) (ρ := ρ) (lo := 0) (hi := 9) hv (by omega) (by omega) c3 Q
          rw [if_neg (fun z => c3 z.2.2)] at hQ
          have q := hQ.ro hX
          simp only [m_M_setSound, b_M_setSound_0, P_M_setSound_30, b_M_setSound_30, P_M_setSound_32, b_M_setSound_32, P_M_setSound_38, b_M_setSound_38, wp_abs, wp_aln0, wp_bipush, wp_copy, wp_cs1, wp_cs2, wp_cs3, wp_cs4, wp_cs5, wp_cs6, wp_cs7, wp_cv1, wp_cv2, wp_cv3, wp_cv4, wp_cv5, wp_cv6, wp_cv7, wp_goto, wp_iadd, wp_iald, wp_iast, wp_icne, wp_iconst, wp_il4, wp_iln1, wp_iln2, wp_iln3, wp_imul, wp_iret, wp_is4, wp_izeq, wp_izne, wp_max, wp_min, wp_nop, wp_zret, qmd_kd, qmd_k1, qmd_l1, qmd_gf0, qmd_k2, qmd_l2, qmd_gf1, qmd_k3, qmd_l3, qmd_gf2, qmd_k4, qmd_l4, qmd_gf4, qmd_k5, qmd_l5, qmd_gf6, qmd_k6, qmd_l6, qmd_gf7, qmd_k7, qmd_l7, qmd_gf10, qmd_k8, qmd_l8, qmd_gf11, qmd_k9, qmd_l9, qmd_gf12, qmd_gf3, qmd_pf3, qmd_gf5, qmd_pf5, qmd_gf8, qmd_pf8, qmd_gf9, qmd_pf9, wrI_row, cpI_row, row_s, row_n, row_ss, row_sw, upd_s, upd_n, ad_inj, ad_z, ad_z2, Nat.reduceEqDiff, reduceCtorEq, List.cons_append, List.nil_append, Option.toList_some, Option.toList_none, Int.toNat_natCast, List.length_cons, List.length_nil, Int.cast_ofNat_Int, Nat.reduceAdd, Nat.reduceLeDiff, Nat.reduceLT, Nat.reduceMul, Int.reduceAdd, Int.reduceSub, Int.reduceMul, Int.reduceNeg, Int.reduceLT, Int.reduceLE, Int.reduceEq, Int.reduceToNat, eq_self, true_and, and_true, true_or, or_true, false_or, or_false, if_true, if_false, not_true_eq_false, not_false_eq_true, and_self, ne_eq, hM, ho1, ho2, ho3]
          (repeat' (first | apply And.intro | split)) <;> first | omega | exact q
    · have ho2 := fun Q => in_f (zt := zt) (g := g) (ρ := ρ) (lo := 0) (hi := 3) hw (by omega) (by omega) c2 Q
      rw [if_neg (fun z => c2 z.2.1)] at hQ
      have q := hQ.ro hX
      simp only [m_M_setSound, b_M_setSound_0, P_M_setSound_30, b_M_setSound_30, P_M_setSound_32, b_M_setSound_32, P_M_setSound_38, b_M_setSound_38, wp_abs, wp_aln0, wp_bipush, wp_copy, wp_cs1, wp_cs2, wp_cs3, wp_cs4, wp_cs5, wp_cs6, wp_cs7, wp_cv1, wp_cv2, wp_cv3, wp_cv4, wp_cv5, wp_cv6, wp_cv7, wp_goto, wp_iadd, wp_iald, wp_iast, wp_icne, wp_iconst, wp_il4, wp_iln1, wp_iln2, wp_iln3, wp_imul, wp_iret, wp_is4, wp_izeq, wp_izne, wp_max, wp_min, wp_nop, wp_zret, qmd_kd, qmd_k1, qmd_l1, qmd_gf0, qmd_k2, qmd_l2, qmd_gf1, qmd_k3, qmd_l3, qmd_gf2, qmd_k4, qmd_l4, qmd_gf4, qmd_k5, qmd_l5, qmd_gf6, qmd_k6, qmd_l6, qmd_gf7, qmd_k7, qmd_l7, qmd_gf10, qmd_k8, qmd_l8, qmd_gf11, qmd_k9, qmd_l9, qmd_gf12, qmd_gf3, qmd_pf3, qmd_gf5, qmd_pf5, qmd_gf8, qmd_pf8, qmd_gf9, qmd_pf9, wrI_row, cpI_row, row_s, row_n, row_ss, row_sw, upd_s, upd_n, ad_inj, ad_z, ad_z2, Nat.reduceEqDiff, reduceCtorEq, List.cons_append, List.nil_append, Option.toList_some, Option.toList_none, Int.toNat_natCast, List.length_cons, List.length_nil, Int.cast_ofNat_Int, Nat.reduceAdd, Nat.reduceLeDiff, Nat.reduceLT, Nat.reduceMul, Int.reduceAdd, Int.reduceSub, Int.reduceMul, Int.reduceNeg, Int.reduceLT, Int.reduceLE, Int.reduceEq, Int.reduceToNat, eq_self, true_and, and_true, true_or, or_true, false_or, or_false, if_true, if_false, not_true_eq_false, not_false_eq_true, and_self, ne_eq, hM, ho1, ho2]
      (repeat' (first | apply And.intro | split)) <;> first | omega | exact q
  · have ho1 := fun Q => in_f (zt := zt) (g := g) (ρ := ρ) (lo := 0) (hi := 8) hk (by omega) (by omega) c1 Q
    rw [if_neg (fun z => c1 z.1)] at hQ
    have q := hQ.ro hX
    simp only [m_M_setSound, b_M_setSound_0, P_M_setSound_30, b_M_setSound_30, P_M_setSound_32, b_M_setSound_32, P_M_setSound_38, b_M_setSound_38, wp_abs, wp_aln0, wp_bipush, wp_copy, wp_cs1, wp_cs2, wp_cs3, wp_cs4, wp_cs5, wp_cs6, wp_cs7, wp_cv1, wp_cv2, wp_cv3, wp_cv4, wp_cv5, wp_cv6, wp_cv7, wp_goto, wp_iadd, wp_iald, wp_iast, wp_icne, wp_iconst, wp_il4, wp_iln1, wp_iln2, wp_iln3, wp_imul, wp_iret, wp_is4, wp_izeq, wp_izne, wp_max, wp_min, wp_nop, wp_zret, qmd_kd, qmd_k1, qmd_l1, qmd_gf0, qmd_k2, qmd_l2, qmd_gf1, qmd_k3, qmd_l3, qmd_gf2, qmd_k4, qmd_l4, qmd_gf4, qmd_k5, qmd_l5, qmd_gf6, qmd_k6, qmd_l6, qmd_gf7, qmd_k7, qmd_l7, qmd_gf10, qmd_k8, qmd_l8, qmd_gf11, qmd_k9, qmd_l9, qmd_gf12, qmd_gf3, qmd_pf3, qmd_gf5, qmd_pf5, qmd_gf8, qmd_pf8, qmd_gf9, qmd_pf9, wrI_row, cpI_row, row_s, row_n, row_ss, row_sw, upd_s, upd_n, ad_inj, ad_z, ad_z2, Nat.reduceEqDiff, reduceCtorEq, List.cons_append, List.nil_append, Option.toList_some, Option.toList_none, Int.toNat_natCast, List.length_cons, List.length_nil, Int.cast_ofNat_Int, Nat.reduceAdd, Nat.reduceLeDiff, Nat.reduceLT, Nat.reduceMul, Int.reduceAdd, Int.reduceSub, Int.reduceMul, Int.reduceNeg, Int.reduceLT, Int.reduceLE, Int.reduceEq, Int.reduceToNat, eq_self, true_and, and_true, true_or, or_true, false_or, or_false, if_true, if_false, not_true_eq_false, not_false_eq_true, and_self, ne_eq, hM, ho1]
    (repeat' (first | apply And.intro | split)) <;> first | omega | exact q
theorem isSetting_ok {w v : Int} (hw : i32 w) (hv : i32 v) (Q : Option AV → Sto → Prop) : WpM zt 108 [AI w, AI v] (g, ρ) Q ↔ Q (some (AI (b2 ((0 ≤ w ∧ w ≤ 4) ∧ loN w ≤ v ∧ v ≤ hiN w)))) (g, ρ) := by
  refine wpm_iff (fun Q hQ => ?_) Q
  have hi1 := fun lo hi h1 h2 Q => in_ok (zt := zt) (g := g) (ρ := ρ) (lo := lo) (hi := hi) hv h1 h2 Q
  have hb : ∀ (p : Prop) [Decidable p], b2 p = 0 ∨ b2 p = 1 := fun p _ => by
    unfold b2
    split <;> omega
  have heq : ∀ (p p' : Prop) [Decidable p] [Decidable p'], (p ↔ p') → b2 p = b2 p' := fun p p' _ _ h => by
    by_cases c : p
    · rw [b2_t c, b2_t (h.1 c)]
    · rw [b2_f c, b2_f (fun z => c (h.2 z))]
  rcases (by omega : w = 0 ∨ w = 1 ∨ w = 2 ∨ w = 3 ∨ w = 4 ∨ (w < 0 ∨ 4 < w)) with rfl | rfl | rfl | rfl | rfl | c
  · rw [heq _ (1 ≤ v ∧ v ≤ 9) (by unfold loN hiN; simp)] at hQ
    have h1 := hi1 1 9 (by unfold i32; omega) (by unfold i32; omega)
    simp only [m_M_isSetting, b_M_isSetting_0, P_M_isSetting_32, b_M_isSetting_32, P_M_isSetting_40, b_M_isSetting_40, P_M_isSetting_47, b_M_isSetting_47, P_M_isSetting_55, b_M_isSetting_55, P_M_isSetting_63, b_M_isSetting_63, P_M_isSetting_82, b_M_isSetting_82, P_M_isSetting_83, b_M_isSetting_83, wp_abs, wp_bipush, wp_copy, wp_cs1, wp_cs2, wp_cs3, wp_cs4, wp_cs5, wp_cs6, wp_cs7, wp_goto, wp_icne, wp_iconst, wp_iln0, wp_iln1, wp_iret, wp_izeq, wp_max, wp_min, wp_nop, wp_zret, wrI_row, cpI_row, row_s, row_n, row_ss, row_sw, upd_s, upd_n, ad_inj, ad_z, ad_z2, Nat.reduceEqDiff, reduceCtorEq, List.cons_append, List.nil_append, Option.toList_some, Option.toList_none, Int.toNat_natCast, List.length_cons, List.length_nil, Int.cast_ofNat_Int, Nat.reduceAdd, Nat.reduceLeDiff, Nat.reduceLT, Nat.reduceMul, Int.reduceAdd, Int.reduceSub, Int.reduceMul, Int.reduceNeg, Int.reduceLT, Int.reduceLE, Int.reduceEq, Int.reduceToNat, eq_self, true_and, and_true, true_or, or_true, false_or, or_false, if_true, if_false, not_true_eq_false, not_false_eq_true, and_self, ne_eq, wp_tsw_i (v := 0) (lo := 0) (hi := 3) (t := 32) (ts := [32, 40, 47, 55]) (by omega) (rng_32 (by unfold i32; omega)) rfl, h1]
    exact ⟨hb _, hQ⟩
  · rw [heq _ (1 ≤ v ∧ v ≤ 3) (by unfold loN hiN; simp)] at hQ
    have h1 := hi1 1 3 (by unfold i32; omega) (by unfold i32; omega)
    simp only [m_M_isSetting, b_M_isSetting_0, P_M_isSetting_32, b_M_isSetting_32, P_M_isSetting_40, b_M_isSetting_40, P_M_isSetting_47, b_M_isSetting_47, P_M_isSetting_55, b_M_isSetting_55, P_M_isSetting_63, b_M_isSetting_63, P_M_isSetting_82, b_M_isSetting_82, P_M_isSetting_83, b_M_isSetting_83, wp_abs, wp_bipush, wp_copy, wp_cs1, wp_cs2, wp_cs3, wp_cs4, wp_cs5, wp_cs6, wp_cs7, wp_goto, wp_icne, wp_iconst, wp_iln0, wp_iln1, wp_iret, wp_izeq, wp_max, wp_min, wp_nop, wp_zret, wrI_row, cpI_row, row_s, row_n, row_ss, row_sw, upd_s, upd_n, ad_inj, ad_z, ad_z2, Nat.reduceEqDiff, reduceCtorEq, List.cons_append, List.nil_append, Option.toList_some, Option.toList_none, Int.toNat_natCast, List.length_cons, List.length_nil, Int.cast_ofNat_Int, Nat.reduceAdd, Nat.reduceLeDiff, Nat.reduceLT, Nat.reduceMul, Int.reduceAdd, Int.reduceSub, Int.reduceMul, Int.reduceNeg, Int.reduceLT, Int.reduceLE, Int.reduceEq, Int.reduceToNat, eq_self, true_and, and_true, true_or, or_true, false_or, or_false, if_true, if_false, not_true_eq_false, not_false_eq_true, and_self, ne_eq, wp_tsw_i (v := 1) (lo := 0) (hi := 3) (t := 40) (ts := [32, 40, 47, 55]) (by omega) (rng_32 (by unfold i32; omega)) rfl, h1]
    exact ⟨hb _, hQ⟩
  · rw [heq _ (0 ≤ v ∧ v ≤ 9) (by unfold loN hiN; simp)] at hQ
    have h1 := hi1 0 9 (by unfold i32; omega) (by unfold i32; omega)
    simp only [m_M_isSetting, b_M_isSetting_0, P_M_isSetting_32, b_M_isSetting_32, P_M_isSetting_40, b_M_isSetting_40, P_M_isSetting_47, b_M_isSetting_47, P_M_isSetting_55, b_M_isSetting_55, P_M_isSetting_63, b_M_isSetting_63, P_M_isSetting_82, b_M_isSetting_82, P_M_isSetting_83, b_M_isSetting_83, wp_abs, wp_bipush, wp_copy, wp_cs1, wp_cs2, wp_cs3, wp_cs4, wp_cs5, wp_cs6, wp_cs7, wp_goto, wp_icne, wp_iconst, wp_iln0, wp_iln1, wp_iret, wp_izeq, wp_max, wp_min, wp_nop, wp_zret, wrI_row, cpI_row, row_s, row_n, row_ss, row_sw, upd_s, upd_n, ad_inj, ad_z, ad_z2, Nat.reduceEqDiff, reduceCtorEq, List.cons_append, List.nil_append, Option.toList_some, Option.toList_none, Int.toNat_natCast, List.length_cons, List.length_nil, Int.cast_ofNat_Int, Nat.reduceAdd, Nat.reduceLeDiff, Nat.reduceLT, Nat.reduceMul, Int.reduceAdd, Int.reduceSub, Int.reduceMul, Int.reduceNeg, Int.reduceLT, Int.reduceLE, Int.reduceEq, Int.reduceToNat, eq_self, true_and, and_true, true_or, or_true, false_or, or_false, if_true, if_false, not_true_eq_false, not_false_eq_true, and_self, ne_eq, wp_tsw_i (v := 2) (lo := 0) (hi := 3) (t := 47) (ts := [32, 40, 47, 55]) (by omega) (rng_32 (by unfold i32; omega)) rfl, h1]
    exact ⟨hb _, hQ⟩
  · rw [heq _ (1 ≤ v ∧ v ≤ 99) (by unfold loN hiN; simp)] at hQ
    have h1 := hi1 1 99 (by unfold i32; omega) (by unfold i32; omega)
    simp only [m_M_isSetting, b_M_isSetting_0, P_M_isSetting_32, b_M_isSetting_32, P_M_isSetting_40, b_M_isSetting_40, P_M_isSetting_47, b_M_isSetting_47, P_M_isSetting_55, b_M_isSetting_55, P_M_isSetting_63, b_M_isSetting_63, P_M_isSetting_82, b_M_isSetting_82, P_M_isSetting_83, b_M_isSetting_83, wp_abs, wp_bipush, wp_copy, wp_cs1, wp_cs2, wp_cs3, wp_cs4, wp_cs5, wp_cs6, wp_cs7, wp_goto, wp_icne, wp_iconst, wp_iln0, wp_iln1, wp_iret, wp_izeq, wp_max, wp_min, wp_nop, wp_zret, wrI_row, cpI_row, row_s, row_n, row_ss, row_sw, upd_s, upd_n, ad_inj, ad_z, ad_z2, Nat.reduceEqDiff, reduceCtorEq, List.cons_append, List.nil_append, Option.toList_some, Option.toList_none, Int.toNat_natCast, List.length_cons, List.length_nil, Int.cast_ofNat_Int, Nat.reduceAdd, Nat.reduceLeDiff, Nat.reduceLT, Nat.reduceMul, Int.reduceAdd, Int.reduceSub, Int.reduceMul, Int.reduceNeg, Int.reduceLT, Int.reduceLE, Int.reduceEq, Int.reduceToNat, eq_self, true_and, and_true, true_or, or_true, false_or, or_false, if_true, if_false, not_true_eq_false, not_false_eq_true, and_self, ne_eq, wp_tsw_i (v := 3) (lo := 0) (hi := 3) (t := 55) (ts := [32, 40, 47, 55]) (by omega) (rng_32 (by unfold i32; omega)) rfl, h1]
    exact ⟨hb _, hQ⟩
  · rw [heq _ (1 ≤ v ∧ v ≤ 20) (by unfold loN hiN; simp)] at hQ
    have h1 := hi1 1 20 (by unfold i32; omega) (by unfold i32; omega)
    by_cases c : 1 ≤ v ∧ v ≤ 20
    · rw [b2_t c] at hQ h1
      simp only [m_M_isSetting, b_M_isSetting_0, P_M_isSetting_32, b_M_isSetting_32, P_M_isSetting_40, b_M_isSetting_40, P_M_isSetting_47, b_M_isSetting_47, P_M_isSetting_55, b_M_isSetting_55, P_M_isSetting_63, b_M_isSetting_63, P_M_isSetting_82, b_M_isSetting_82, P_M_isSetting_83, b_M_isSetting_83, wp_abs, wp_bipush, wp_copy, wp_cs1, wp_cs2, wp_cs3, wp_cs4, wp_cs5, wp_cs6, wp_cs7, wp_goto, wp_icne, wp_iconst, wp_iln0, wp_iln1, wp_iret, wp_izeq, wp_max, wp_min, wp_nop, wp_zret, wrI_row, cpI_row, row_s, row_n, row_ss, row_sw, upd_s, upd_n, ad_inj, ad_z, ad_z2, Nat.reduceEqDiff, reduceCtorEq, List.cons_append, List.nil_append, Option.toList_some, Option.toList_none, Int.toNat_natCast, List.length_cons, List.length_nil, Int.cast_ofNat_Int, Nat.reduceAdd, Nat.reduceLeDiff, Nat.reduceLT, Nat.reduceMul, Int.reduceAdd, Int.reduceSub, Int.reduceMul, Int.reduceNeg, Int.reduceLT, Int.reduceLE, Int.reduceEq, Int.reduceToNat, eq_self, true_and, and_true, true_or, or_true, false_or, or_false, if_true, if_false, not_true_eq_false, not_false_eq_true, and_self, ne_eq, wp_tsw_o (v := 4) (lo := 0) (hi := 3) (by omega) (rng_32 (by unfold i32; omega)), h1]
      (repeat' (first | apply And.intro | split)) <;> first | omega | exact hQ
    · rw [b2_f c] at hQ h1
      simp only [m_M_isSetting, b_M_isSetting_0, P_M_isSetting_32, b_M_isSetting_32, P_M_isSetting_40, b_M_isSetting_40, P_M_isSetting_47, b_M_isSetting_47, P_M_isSetting_55, b_M_isSetting_55, P_M_isSetting_63, b_M_isSetting_63, P_M_isSetting_82, b_M_isSetting_82, P_M_isSetting_83, b_M_isSetting_83, wp_abs, wp_bipush, wp_copy, wp_cs1, wp_cs2, wp_cs3, wp_cs4, wp_cs5, wp_cs6, wp_cs7, wp_goto, wp_icne, wp_iconst, wp_iln0, wp_iln1, wp_iret, wp_izeq, wp_max, wp_min, wp_nop, wp_zret, wrI_row, cpI_row, row_s, row_n, row_ss, row_sw, upd_s, upd_n, ad_inj, ad_z, ad_z2, Nat.reduceEqDiff, reduceCtorEq, List.cons_append, List.nil_append, Option.toList_some, Option.toList_none, Int.toNat_natCast, List.length_cons, List.length_nil, Int.cast_ofNat_Int, Nat.reduceAdd, Nat.reduceLeDiff, Nat.reduceLT, Nat.reduceMul, Int.reduceAdd, Int.reduceSub, Int.reduceMul, Int.reduceNeg, Int.reduceLT, Int.reduceLE, Int.reduceEq, Int.reduceToNat, eq_self, true_and, and_true, true_or, or_true, false_or, or_false, if_true, if_false, not_true_eq_false, not_false_eq_true, and_self, ne_eq, wp_tsw_o (v := 4) (lo := 0) (hi := 3) (by omega) (rng_32 (by unfold i32; omega)), h1]
      (repeat' (first | apply And.intro | split)) <;> first | omega | exact hQ
  · rw [b2_f (by omega)] at hQ
    have c4 : ¬ w = 4 := by omega
    unfold i32 at hw
    simp only [m_M_isSetting, b_M_isSetting_0, P_M_isSetting_32, b_M_isSetting_32, P_M_isSetting_40, b_M_isSetting_40, P_M_isSetting_47, b_M_isSetting_47, P_M_isSetting_55, b_M_isSetting_55, P_M_isSetting_63, b_M_isSetting_63, P_M_isSetting_82, b_M_isSetting_82, P_M_isSetting_83, b_M_isSetting_83, wp_abs, wp_bipush, wp_copy, wp_cs1, wp_cs2, wp_cs3, wp_cs4, wp_cs5, wp_cs6, wp_cs7, wp_goto, wp_icne, wp_iconst, wp_iln0, wp_iln1, wp_iret, wp_izeq, wp_max, wp_min, wp_nop, wp_zret, wrI_row, cpI_row, row_s, row_n, row_ss, row_sw, upd_s, upd_n, ad_inj, ad_z, ad_z2, Nat.reduceEqDiff, reduceCtorEq, List.cons_append, List.nil_append, Option.toList_some, Option.toList_none, Int.toNat_natCast, List.length_cons, List.length_nil, Int.cast_ofNat_Int, Nat.reduceAdd, Nat.reduceLeDiff, Nat.reduceLT, Nat.reduceMul, Int.reduceAdd, Int.reduceSub, Int.reduceMul, Int.reduceNeg, Int.reduceLT, Int.reduceLE, Int.reduceEq, Int.reduceToNat, eq_self, true_and, and_true, true_or, or_true, false_or, or_false, if_true, if_false, not_true_eq_false, not_false_eq_true, and_self, ne_eq, wp_tsw_o (v := w) (lo := 0) (hi := 3) (by omega) (rng_32 (by unfold i32; omega)), c4]
    (repeat' (first | apply And.intro | split)) <;> first | omega | exact hQ
theorem d_setNumber (hX : RepM g ρ M X) (hW : WFX X) {w v : Int} (hw : i32 w) (hv : i32 v) (hQ : MdQ g ρ M (sSetNumber w v X) Q) : WpM zt 109 [AR M, AI w, AI v] (g, ρ) Q := by
  obtain ⟨hM, hS, -⟩ := id hX
  have hR := hS.1
  have hU := hW.1.1
  have e0 := m_0 hR
  have e5 := m_5 hR
  have b0 := hU.1
  have b5 := hU.2.2.2.2.1
  have b8 := hU.2.2.2.2.2.2.1
  unfold sSetNumber at hQ
  have h1 := isSetting_ok (zt := zt) (g := g) (ρ := ρ) hw hv
  by_cases c : (0 ≤ w ∧ w ≤ 4) ∧ loN w ≤ v ∧ v ≤ hiN w
  · rw [b2_t c] at h1
    rw [if_pos c] at hQ
    simp only [m_M_setNumber, b_M_setNumber_0, P_M_setNumber_10, b_M_setNumber_10, wp_abs, wp_aln0, wp_bipush, wp_copy, wp_cs1, wp_cs2, wp_cs3, wp_cs4, wp_cs5, wp_cs6, wp_cs7, wp_cv1, wp_cv2, wp_cv3, wp_cv4, wp_cv5, wp_cv6, wp_cv7, wp_iadd, wp_iast, wp_iconst, wp_iln1, wp_iln2, wp_iln3, wp_iret, wp_isn3, wp_izne, wp_max, wp_min, wp_zret, qmd_kd, qmd_k1, qmd_l1, qmd_gf0, qmd_k2, qmd_l2, qmd_gf1, qmd_k3, qmd_l3, qmd_gf2, qmd_k4, qmd_l4, qmd_gf4, qmd_k5, qmd_l5, qmd_gf6, qmd_k6, qmd_l6, qmd_gf7, qmd_k7, qmd_l7, qmd_gf10, qmd_k8, qmd_l8, qmd_gf11, qmd_k9, qmd_l9, qmd_gf12, qmd_gf3, qmd_pf3, qmd_gf5, qmd_pf5, qmd_gf8, qmd_pf8, qmd_gf9, qmd_pf9, wrI_row, cpI_row, row_s, row_n, row_ss, row_sw, upd_s, upd_n, ad_inj, ad_z, ad_z2, Nat.reduceEqDiff, reduceCtorEq, List.cons_append, List.nil_append, Option.toList_some, Option.toList_none, Int.toNat_natCast, List.length_cons, List.length_nil, Int.cast_ofNat_Int, Nat.reduceAdd, Nat.reduceLeDiff, Nat.reduceLT, Nat.reduceMul, Int.reduceAdd, Int.reduceSub, Int.reduceMul, Int.reduceNeg, Int.reduceLT, Int.reduceLE, Int.reduceEq, Int.reduceToNat, eq_self, true_and, and_true, true_or, or_true, false_or, or_false, if_true, if_false, not_true_eq_false, not_false_eq_true, and_self, ne_eq, hM, h1]
    refine keep_ok hX hW (fun g' j1 j2 j3 => ?_)
    have hM' := j1.1
    have hR' : LR (-1) (vwM (g' (ad M 1))) X.1.1 := j1.2.1.1
    have i58 : g' (ad M 1) 58 ≤ 30 := by rw [m_5 hR']; omega
    have s1 := setting_ok (zt := zt) hM' hR' c.1.1 c.1.2
    have u1 := vwM_u4 (v := v) i58 (J := w.toNat) (p := (53 + w).toNat) (by omega) (by omega)
    have hl : LR (-1) (vwM (upd1 (g' (ad M 1)) (53 + w).toNat v)) (setV X.1.1 4 w.toNat v) := lr_set hR' (Or.inr (Or.inr (Or.inr rfl))) (fun k' j' z1 z2 => u1.2 k' j' z1 z2) u1.1
    have q := hQ (setRow g' (ad M 1) (upd1 (g' (ad M 1)) (53 + w).toNat v)) (j1.pg hW hl (fun y z1 z2 => upd_n (by omega))) (pg_fr j2)
    simp only [m_M_setNumber, b_M_setNumber_0, P_M_setNumber_10, b_M_setNumber_10, wp_abs, wp_aln0, wp_bipush, wp_copy, wp_cs1, wp_cs2, wp_cs3, wp_cs4, wp_cs5, wp_cs6, wp_cs7, wp_cv1, wp_cv2, wp_cv3, wp_cv4, wp_cv5, wp_cv6, wp_cv7, wp_iadd, wp_iast, wp_iconst, wp_iln1, wp_iln2, wp_iln3, wp_iret, wp_isn3, wp_izne, wp_max, wp_min, wp_zret, qmd_kd, qmd_k1, qmd_l1, qmd_gf0, qmd_k2, qmd_l2, qmd_gf1, qmd_k3, qmd_l3, qmd_gf2, qmd_k4, qmd_l4, qmd_gf4, qmd_k5, qmd_l5, qmd_gf6, qmd_k6, qmd_l6, qmd_gf7, qmd_k7, qmd_l7, qmd_gf10, qmd_k8, qmd_l8, qmd_gf11, qmd_k9, qmd_l9, qmd_gf12, qmd_gf3, qmd_pf3, qmd_gf5, qmd_pf5, qmd_gf8, qmd_pf8, qmd_gf9, qmd_pf9, wrI_row, cpI_row, row_s, row_n, row_ss, row_sw, upd_s, upd_n, ad_inj, ad_z, ad_z2, Nat.reduceEqDiff, reduceCtorEq, List.cons_append, List.nil_append, Option.toList_some, Option.toList_none, Int.toNat_natCast, List.length_cons, List.length_nil, Int.cast_ofNat_Int, Nat.reduceAdd, Nat.reduceLeDiff, Nat.reduceLT, Nat.reduceMul, Int.reduceAdd, Int.reduceSub, Int.reduceMul, Int.reduceNeg, Int.reduceLT, Int.reduceLE, Int.reduceEq, Int.reduceToNat, eq_self, true_and, and_true, true_or, or_true, false_or, or_false, if_true, if_false, not_true_eq_false, not_false_eq_true, and_self, ne_eq, hM', s1]
    (repeat' (first | apply And.intro | split)) <;> first | omega | exact q
  · rw [b2_f c] at h1
    rw [if_neg c] at hQ
    have q := hQ.ro hX
    simp only [m_M_setNumber, b_M_setNumber_0, P_M_setNumber_10, b_M_setNumber_10, wp_abs, wp_aln0, wp_bipush, wp_copy, wp_cs1, wp_cs2, wp_cs3, wp_cs4, wp_cs5, wp_cs6, wp_cs7, wp_cv1, wp_cv2, wp_cv3, wp_cv4, wp_cv5, wp_cv6, wp_cv7, wp_iadd, wp_iast, wp_iconst, wp_iln1, wp_iln2, wp_iln3, wp_iret, wp_isn3, wp_izne, wp_max, wp_min, wp_zret, qmd_kd, qmd_k1, qmd_l1, qmd_gf0, qmd_k2, qmd_l2, qmd_gf1, qmd_k3, qmd_l3, qmd_gf2, qmd_k4, qmd_l4, qmd_gf4, qmd_k5, qmd_l5, qmd_gf6, qmd_k6, qmd_l6, qmd_gf7, qmd_k7, qmd_l7, qmd_gf10, qmd_k8, qmd_l8, qmd_gf11, qmd_k9, qmd_l9, qmd_gf12, qmd_gf3, qmd_pf3, qmd_gf5, qmd_pf5, qmd_gf8, qmd_pf8, qmd_gf9, qmd_pf9, wrI_row, cpI_row, row_s, row_n, row_ss, row_sw, upd_s, upd_n, ad_inj, ad_z, ad_z2, Nat.reduceEqDiff, reduceCtorEq, List.cons_append, List.nil_append, Option.toList_some, Option.toList_none, Int.toNat_natCast, List.length_cons, List.length_nil, Int.cast_ofNat_Int, Nat.reduceAdd, Nat.reduceLeDiff, Nat.reduceLT, Nat.reduceMul, Int.reduceAdd, Int.reduceSub, Int.reduceMul, Int.reduceNeg, Int.reduceLT, Int.reduceLE, Int.reduceEq, Int.reduceToNat, eq_self, true_and, and_true, true_or, or_true, false_or, or_false, if_true, if_false, not_true_eq_false, not_false_eq_true, and_self, ne_eq, hM, h1]
    (repeat' (first | apply And.intro | split)) <;> first | omega | exact q
theorem d_take (hX : RepM g ρ M X) (hW : WFX X) {i : Int} (hi : i32 i) (hQ : MdQ g ρ M (sTake i X) Q) : WpM zt 127 [AR M, AI i] (g, ρ) Q := by
  obtain ⟨hM, hS, -⟩ := id hX
  have hR := hS.1
  have hU := hW.1.1
  have e0 := m_0 hR
  have e5 := m_5 hR
  have b0 := hU.1
  have b5 := hU.2.2.2.2.1
  have b8 := hU.2.2.2.2.2.2.1
  unfold sTake at hQ
  by_cases c1 : 0 ≤ i ∧ i ≤ 1
  · have ho1 := fun Q => in_t (zt := zt) (g := g) (ρ := ρ) (lo := 0) (hi := 1) (by omega) (by omega) c1 Q
    rw [if_pos c1] at hQ
    obtain ⟨I, rfl⟩ := Int.eq_ofNat_of_zero_le c1.1
    rw [Int.toNat_natCast] at hQ
    simp only [m_M_take, b_M_take_0, P_M_take_11, b_M_take_11, wp_abs, wp_aln0, wp_copy, wp_cs1, wp_cs2, wp_cs3, wp_cs4, wp_cs5, wp_cs6, wp_cs7, wp_cv1, wp_cv2, wp_cv3, wp_cv4, wp_cv5, wp_cv6, wp_cv7, wp_iadd, wp_iast, wp_iconst, wp_iln1, wp_iln2, wp_imul, wp_iret, wp_isn2, wp_izne, wp_max, wp_min, wp_sipush, wp_zret, qmd_kd, qmd_k1, qmd_l1, qmd_gf0, qmd_k2, qmd_l2, qmd_gf1, qmd_k3, qmd_l3, qmd_gf2, qmd_k4, qmd_l4, qmd_gf4, qmd_k5, qmd_l5, qmd_gf6, qmd_k6, qmd_l6, qmd_gf7, qmd_k7, qmd_l7, qmd_gf10, qmd_k8, qmd_l8, qmd_gf11, qmd_k9, qmd_l9, qmd_gf12, qmd_gf3, qmd_pf3, qmd_gf5, qmd_pf5, qmd_gf8, qmd_pf8, qmd_gf9, qmd_pf9, wrI_row, cpI_row, row_s, row_n, row_ss, row_sw, upd_s, upd_n, ad_inj, ad_z, ad_z2, Nat.reduceEqDiff, reduceCtorEq, List.cons_append, List.nil_append, Option.toList_some, Option.toList_none, Int.toNat_natCast, List.length_cons, List.length_nil, Int.cast_ofNat_Int, Nat.reduceAdd, Nat.reduceLeDiff, Nat.reduceLT, Nat.reduceMul, Int.reduceAdd, Int.reduceSub, Int.reduceMul, Int.reduceNeg, Int.reduceLT, Int.reduceLE, Int.reduceEq, Int.reduceToNat, eq_self, true_and, and_true, true_or, or_true, false_or, or_false, if_true, if_false, not_true_eq_false, not_false_eq_true, and_self, ne_eq, hM, ho1]
    refine keep_ok hX hW (fun g' j1 j2 j3 => ?_)
    have hM' := j1.1
    obtain ⟨x1, ⟨s1, s2, s3, s4, s5⟩, x3, x4, x5, x6⟩ := id j1
    replace s1 : LR (-1) (vwM (g' (ad M 1))) X.1.1 := s1
    have ei : (317 + 318 * (I : Int)).toNat = 317 + 318 * I := by omega
    have r0 : ∀ j, j < 317 → upd1 (g' (ad M 1)) (317 + 318 * I) 1 j = g' (ad M 1) j := fun j hj => upd_n (by omega)
    have f1 := fun Q => bring_ok (zt := zt) (g := setRow g' (ad M 1) (upd1 (g' (ad M 1)) (317 + 318 * I) 1)) (ρ := ρ) (b := ad M 1) (c := ad M 1) (sp := 0) (dp := 318 + 318 * I) (n := 317) (sp' := 0) (dp' := 317 + 318 * (I : Int) + 1) (n' := 317) (qmd_k1 hM) (qmd_k1 hM) (qmd_l1 hM) (qmd_l1 hM) (by omega) (by omega) (by omega) (by omega) (Or.inr (Or.inr (by omega))) rfl (by omega) rfl Q
    rw [row_s, row_ss] at f1
    have rr : ∀ y, cpR (upd1 (g' (ad M 1)) (317 + 318 * I) 1) (upd1 (g' (ad M 1)) (317 + 318 * I) 1) 0 (318 + 318 * I) 317 y = if 318 + 318 * I ≤ y ∧ y < 318 + 318 * I + 317 then g' (ad M 1) (y - (318 + 318 * I)) else if y = 317 + 318 * I then 1 else g' (ad M 1) y := fun y => by
      by_cases c : 318 + 318 * I ≤ y ∧ y < 318 + 318 * I + 317
      · rw [if_pos c, cpR_in c.1 c.2, r0 _ (by omega), show 0 + (y - (318 + 318 * I)) = y - (318 + 318 * I) by omega]
      · rw [if_neg c, cpR_out (by omega)]
        rfl
    obtain ⟨R', hR'⟩ : ∃ R', R' = cpR (upd1 (g' (ad M 1)) (317 + 318 * I) 1) (upd1 (g' (ad M 1)) (317 + 318 * I) 1) 0 (318 + 318 * I) 317 := ⟨_, rfl⟩
    rw [← hR'] at f1
    simp only [← hR'] at rr
    have hlow : ∀ j, j < 317 → R' j = g' (ad M 1) j := fun j hj => by rw [rr, if_neg (by omega), if_neg (by omega)]
    have hl : LR (-1) (vwM R') X.1.1 := lrm_eq s1 hU hlow
    have hsl : ∀ (n : Nat), n = 318 + 318 * I → LR (-1) (vwM (fun j => R' (n + j))) X.1.1 := fun n hn => lrm_eq s1 hU (fun j hj => by
      show R' (n + j) = _
      rw [rr, if_pos (by omega)]
      congr 1
      omega)
    have hsrm : SRM R' (takX X I).1 := by
      rcases (by omega : I = 0 ∨ I = 1) with rfl | rfl
      · refine ⟨hl, ?_, ?_, fun _ => hsl 318 rfl, fun q => ?_⟩
        · rw [rr, if_neg (by omega), if_pos rfl]
          rfl
        · rw [rr, if_neg (by omega), if_neg (by omega)]
          exact s3
        · exact lrm_eq (s5 q) (hW.1.2 1 (by omega) q) (fun j hj => by
            show R' (636 + j) = _
            rw [rr, if_neg (by omega), if_neg (by omega)])
      · refine ⟨hl, ?_, ?_, fun q => ?_, fun _ => hsl 636 rfl⟩
        · rw [rr, if_neg (by omega), if_neg (by omega)]
          exact s2
        · rw [rr, if_neg (by omega), if_pos rfl]
          rfl
        · exact lrm_eq (s4 q) (hW.1.2 0 (by omega) q) (fun j hj => by
            show R' (318 + j) = _
            rw [rr, if_neg (by omega), if_neg (by omega)])
    have hrep : RepM (setRow g' (ad M 1) R') ρ M (takX X I) := by
      refine ⟨hM', by rw [row_s]; exact hsrm, ?_, ?_, ?_, ?_⟩
      · rw [row_n (by unfold ad; omega)]
        exact x3
      · rw [row_n (by unfold ad; omega)]
        exact x4
      · rw [row_n (by unfold ad; omega)]
        exact x5
      · rw [row_n (by unfold ad; omega)]
        exact x6
    have q := hQ (setRow g' (ad M 1) R') hrep (pg_fr j2)
    have hfr := frames_ok (zt := zt) (g := setRow g' (ad M 1) R') hM' (by rw [row_s]; exact hl) hU
    simp only [m_M_take, b_M_take_0, P_M_take_11, b_M_take_11, wp_abs, wp_aln0, wp_copy, wp_cs1, wp_cs2, wp_cs3, wp_cs4, wp_cs5, wp_cs6, wp_cs7, wp_cv1, wp_cv2, wp_cv3, wp_cv4, wp_cv5, wp_cv6, wp_cv7, wp_iadd, wp_iast, wp_iconst, wp_iln1, wp_iln2, wp_imul, wp_iret, wp_isn2, wp_izne, wp_max, wp_min, wp_sipush, wp_zret, qmd_kd, qmd_k1, qmd_l1, qmd_gf0, qmd_k2, qmd_l2, qmd_gf1, qmd_k3, qmd_l3, qmd_gf2, qmd_k4, qmd_l4, qmd_gf4, qmd_k5, qmd_l5, qmd_gf6, qmd_k6, qmd_l6, qmd_gf7, qmd_k7, qmd_l7, qmd_gf10, qmd_k8, qmd_l8, qmd_gf11, qmd_k9, qmd_l9, qmd_gf12, qmd_gf3, qmd_pf3, qmd_gf5, qmd_pf5, qmd_gf8, qmd_pf8, qmd_gf9, qmd_pf9, wrI_row, cpI_row, row_s, row_n, row_ss, row_sw, upd_s, upd_n, ad_inj, ad_z, ad_z2, Nat.reduceEqDiff, reduceCtorEq, List.cons_append, List.nil_append, Option.toList_some, Option.toList_none, Int.toNat_natCast, List.length_cons, List.length_nil, Int.cast_ofNat_Int, Nat.reduceAdd, Nat.reduceLeDiff, Nat.reduceLT, Nat.reduceMul, Int.reduceAdd, Int.reduceSub, Int.reduceMul, Int.reduceNeg, Int.reduceLT, Int.reduceLE, Int.reduceEq, Int.reduceToNat, eq_self, true_and, and_true, true_or, or_true, false_or, or_false, if_true, if_false, not_true_eq_false, not_false_eq_true, and_self, ne_eq, hM', ei, f1, hfr]
    (repeat' (first | apply And.intro | split)) <;> first | omega | exact q
  · have ho1 := fun Q => in_f (zt := zt) (g := g) (ρ := ρ) (lo := 0) (hi := 1) hi (by omega) (by omega) c1 Q
    rw [if_neg c1] at hQ
    have q := hQ.ro hX
    simp only [m_M_take, b_M_take_0, P_M_take_11, b_M_take_11, wp_abs, wp_aln0, wp_copy, wp_cs1, wp_cs2, wp_cs3, wp_cs4, wp_cs5, wp_cs6, wp_cs7, wp_cv1, wp_cv2, wp_cv3, wp_cv4, wp_cv5, wp_cv6, wp_cv7, wp_iadd, wp_iast, wp_iconst, wp_iln1, wp_iln2, wp_imul, wp_iret, wp_isn2, wp_izne, wp_max, wp_min, wp_sipush, wp_zret, qmd_kd, qmd_k1, qmd_l1, qmd_gf0, qmd_k2, qmd_l2, qmd_gf1, qmd_k3, qmd_l3, qmd_gf2, qmd_k4, qmd_l4, qmd_gf4, qmd_k5, qmd_l5, qmd_gf6, qmd_k6, qmd_l6, qmd_gf7, qmd_k7, qmd_l7, qmd_gf10, qmd_k8, qmd_l8, qmd_gf11, qmd_k9, qmd_l9, qmd_gf12, qmd_gf3, qmd_pf3, qmd_gf5, qmd_pf5, qmd_gf8, qmd_pf8, qmd_gf9, qmd_pf9, wrI_row, cpI_row, row_s, row_n, row_ss, row_sw, upd_s, upd_n, ad_inj, ad_z, ad_z2, Nat.reduceEqDiff, reduceCtorEq, List.cons_append, List.nil_append, Option.toList_some, Option.toList_none, Int.toNat_natCast, List.length_cons, List.length_nil, Int.cast_ofNat_Int, Nat.reduceAdd, Nat.reduceLeDiff, Nat.reduceLT, Nat.reduceMul, Int.reduceAdd, Int.reduceSub, Int.reduceMul, Int.reduceNeg, Int.reduceLT, Int.reduceLE, Int.reduceEq, Int.reduceToNat, eq_self, true_and, and_true, true_or, or_true, false_or, or_false, if_true, if_false, not_true_eq_false, not_false_eq_true, and_self, ne_eq, hM, ho1]
    (repeat' (first | apply And.intro | split)) <;> first | omega | exact q
theorem d_restore (hX : RepM g ρ M X) (hW : WFX X) {i : Int} (hi : i32 i) (hQ : MdQ g ρ M (sRestore i X) Q) : WpM zt 128 [AR M, AI i] (g, ρ) Q := by
  obtain ⟨hM, hS, -⟩ := id hX
  have hR := hS.1
  have hU := hW.1.1
  have e0 := m_0 hR
  have e5 := m_5 hR
  have b0 := hU.1
  have b5 := hU.2.2.2.2.1
  have b8 := hU.2.2.2.2.2.2.1
  unfold sRestore at hQ
  by_cases c1 : 0 ≤ i ∧ i ≤ 1
  · have ho1 := fun Q => in_t (zt := zt) (g := g) (ρ := ρ) (lo := 0) (hi := 1) (by omega) (by omega) c1 Q
    rw [if_pos c1] at hQ
    obtain ⟨I, rfl⟩ := Int.eq_ofNat_of_zero_le c1.1
    rw [Int.toNat_natCast] at hQ
    have ei : (317 + 318 * (I : Int)).toNat = 317 + 318 * I := by omega
    have kk : g (ad M 1) (317 + 318 * I) = if X.1.2.1 I = true then 1 else 0 := by
      rcases (by omega : I = 0 ∨ I = 1) with rfl | rfl
      · exact hS.2.1
      · exact hS.2.2.1
    by_cases c2 : X.1.2.1 I = true
    · rw [if_pos c2] at hQ kk
      simp only [m_M_restore, b_M_restore_0, P_M_restore_11, b_M_restore_11, P_M_restore_33, b_M_restore_33, wp_abs, wp_aln0, wp_bipush, wp_copy, wp_cs1, wp_cs2, wp_cs3, wp_cs4, wp_cs5, wp_cs6, wp_cs7, wp_cv1, wp_cv2, wp_cv3, wp_cv4, wp_cv5, wp_cv6, wp_cv7, wp_iadd, wp_iald, wp_iconst, wp_iln1, wp_iln2, wp_imul, wp_iret, wp_isn2, wp_izne, wp_max, wp_min, wp_sipush, wp_zret, qmd_kd, qmd_k1, qmd_l1, qmd_gf0, qmd_k2, qmd_l2, qmd_gf1, qmd_k3, qmd_l3, qmd_gf2, qmd_k4, qmd_l4, qmd_gf4, qmd_k5, qmd_l5, qmd_gf6, qmd_k6, qmd_l6, qmd_gf7, qmd_k7, qmd_l7, qmd_gf10, qmd_k8, qmd_l8, qmd_gf11, qmd_k9, qmd_l9, qmd_gf12, qmd_gf3, qmd_pf3, qmd_gf5, qmd_pf5, qmd_gf8, qmd_pf8, qmd_gf9, qmd_pf9, wrI_row, cpI_row, row_s, row_n, row_ss, row_sw, upd_s, upd_n, ad_inj, ad_z, ad_z2, Nat.reduceEqDiff, reduceCtorEq, List.cons_append, List.nil_append, Option.toList_some, Option.toList_none, Int.toNat_natCast, List.length_cons, List.length_nil, Int.cast_ofNat_Int, Nat.reduceAdd, Nat.reduceLeDiff, Nat.reduceLT, Nat.reduceMul, Int.reduceAdd, Int.reduceSub, Int.reduceMul, Int.reduceNeg, Int.reduceLT, Int.reduceLE, Int.reduceEq, Int.reduceToNat, eq_self, true_and, and_true, true_or, or_true, false_or, or_false, if_true, if_false, not_true_eq_false, not_false_eq_true, and_self, ne_eq, hM, ho1, ei, kk]
      (repeat' (first | apply And.intro | split)) <;> first | omega | skip
      refine keep_ok hX hW (fun g' j1 j2 j3 => ?_)
      have hM' := j1.1
      have hUi := hW.1.2 I (by omega) c2
      have hs : LR (-1) (vwM (fun j => g' (ad M 1) (318 + 318 * I + j))) (X.1.2.2 I) := by
        rcases (by omega : I = 0 ∨ I = 1) with rfl | rfl
        · exact j1.2.1.2.2.2.1 c2
        · exact j1.2.1.2.2.2.2 c2
      have f1 := fun Q => bring_ok (zt := zt) (g := g') (ρ := ρ) (b := ad M 1) (c := ad M 1) (sp := 318 + 318 * I) (dp := 0) (n := 317) (sp' := 317 + 318 * (I : Int) + 1) (dp' := 0) (n' := 317) (qmd_k1 hM) (qmd_k1 hM) (qmd_l1 hM) (qmd_l1 hM) (by omega) (by omega) (by omega) (by omega) (Or.inr (Or.inl (by omega))) (by omega) rfl rfl Q
      have hl : LR (-1) (vwM (cpR (g' (ad M 1)) (g' (ad M 1)) (318 + 318 * I) 0 317)) (X.1.2.2 I) := lrm_eq hs hUi (fun j hj => by
        rw [cpR_in (by omega) (by omega), show j - 0 = j by omega])
      have q := hQ (setRow g' (ad M 1) (cpR (g' (ad M 1)) (g' (ad M 1)) (318 + 318 * I) 0 317)) (j1.pg hW hl (fun y z1 z2 => cpR_out (by omega))) (pg_fr j2)
      have hfr := frames_ok (zt := zt) (g := setRow g' (ad M 1) (cpR (g' (ad M 1)) (g' (ad M 1)) (318 + 318 * I) 0 317)) hM' (by rw [row_s]; exact hl) hUi
      simp only [m_M_restore, b_M_restore_0, P_M_restore_11, b_M_restore_11, P_M_restore_33, b_M_restore_33, wp_abs, wp_aln0, wp_bipush, wp_copy, wp_cs1, wp_cs2, wp_cs3, wp_cs4, wp_cs5, wp_cs6, wp_cs7, wp_cv1, wp_cv2, wp_cv3, wp_cv4, wp_cv5, wp_cv6, wp_cv7, wp_iadd, wp_iald, wp_iconst, wp_iln1, wp_iln2, wp_imul, wp_iret, wp_isn2, wp_izne, wp_max, wp_min, wp_sipush, wp_zret, qmd_kd, qmd_k1, qmd_l1, qmd_gf0, qmd_k2, qmd_l2, qmd_gf1, qmd_k3, qmd_l3, qmd_gf2, qmd_k4, qmd_l4, qmd_gf4, qmd_k5, qmd_l5, qmd_gf6, qmd_k6, qmd_l6, qmd_gf7, qmd_k7, qmd_l7, qmd_gf10, qmd_k8, qmd_l8, qmd_gf11, qmd_k9, qmd_l9, qmd_gf12, qmd_gf3, qmd_pf3, qmd_gf5, qmd_pf5, qmd_gf8, qmd_pf8, qmd_gf9, qmd_pf9, wrI_row, cpI_row, row_s, row_n, row_ss, row_sw, upd_s, upd_n, ad_inj, ad_z, ad_z2, Nat.reduceEqDiff, reduceCtorEq, List.cons_append, List.nil_append, Option.toList_some, Option.toList_none, Int.toNat_natCast, List.length_cons, List.length_nil, Int.cast_ofNat_Int, Nat.reduceAdd, Nat.reduceLeDiff, Nat.reduceLT, Nat.reduceMul, Int.reduceAdd, Int.reduceSub, Int.reduceMul, Int.reduceNeg, Int.reduceLT, Int.reduceLE, Int.reduceEq, Int.reduceToNat, eq_self, true_and, and_true, true_or, or_true, false_or, or_false, if_true, if_false, not_true_eq_false, not_false_eq_true, and_self, ne_eq, hM', ei, f1, hfr]
      (repeat' (first | apply And.intro | split)) <;> first | omega | exact q
    · rw [if_neg c2] at hQ kk
      have q := hQ.ro hX
      simp only [m_M_restore, b_M_restore_0, P_M_restore_11, b_M_restore_11, P_M_restore_33, b_M_restore_33, wp_abs, wp_aln0, wp_bipush, wp_copy, wp_cs1, wp_cs2, wp_cs3, wp_cs4, wp_cs5, wp_cs6, wp_cs7, wp_cv1, wp_cv2, wp_cv3, wp_cv4, wp_cv5, wp_cv6, wp_cv7, wp_iadd, wp_iald, wp_iconst, wp_iln1, wp_iln2, wp_imul, wp_iret, wp_isn2, wp_izne, wp_max, wp_min, wp_sipush, wp_zret, qmd_kd, qmd_k1, qmd_l1, qmd_gf0, qmd_k2, qmd_l2, qmd_gf1, qmd_k3, qmd_l3, qmd_gf2, qmd_k4, qmd_l4, qmd_gf4, qmd_k5, qmd_l5, qmd_gf6, qmd_k6, qmd_l6, qmd_gf7, qmd_k7, qmd_l7, qmd_gf10, qmd_k8, qmd_l8, qmd_gf11, qmd_k9, qmd_l9, qmd_gf12, qmd_gf3, qmd_pf3, qmd_gf5, qmd_pf5, qmd_gf8, qmd_pf8, qmd_gf9, qmd_pf9, wrI_row, cpI_row, row_s, row_n, row_ss, row_sw, upd_s, upd_n, ad_inj, ad_z, ad_z2, Nat.reduceEqDiff, reduceCtorEq, List.cons_append, List.nil_append, Option.toList_some, Option.toList_none, Int.toNat_natCast, List.length_cons, List.length_nil, Int.cast_ofNat_Int, Nat.reduceAdd, Nat.reduceLeDiff, Nat.reduceLT, Nat.reduceMul, Int.reduceAdd, Int.reduceSub, Int.reduceMul, Int.reduceNeg, Int.reduceLT, Int.reduceLE, Int.reduceEq, Int.reduceToNat, eq_self, true_and, and_true, true_or, or_true, false_or, or_false, if_true, if_false, not_true_eq_false, not_false_eq_true, and_self, ne_eq, hM, ho1, ei, kk]
      (repeat' (first | apply And.intro | split)) <;> first | omega | exact q
  · have ho1 := fun Q => in_f (zt := zt) (g := g) (ρ := ρ) (lo := 0) (hi := 1) hi (by omega) (by omega) c1 Q
    rw [if_neg c1] at hQ
    have q := hQ.ro hX
    simp only [m_M_restore, b_M_restore_0, P_M_restore_11, b_M_restore_11, P_M_restore_33, b_M_restore_33, wp_abs, wp_aln0, wp_bipush, wp_copy, wp_cs1, wp_cs2, wp_cs3, wp_cs4, wp_cs5, wp_cs6, wp_cs7, wp_cv1, wp_cv2, wp_cv3, wp_cv4, wp_cv5, wp_cv6, wp_cv7, wp_iadd, wp_iald, wp_iconst, wp_iln1, wp_iln2, wp_imul, wp_iret, wp_isn2, wp_izne, wp_max, wp_min, wp_sipush, wp_zret, qmd_kd, qmd_k1, qmd_l1, qmd_gf0, qmd_k2, qmd_l2, qmd_gf1, qmd_k3, qmd_l3, qmd_gf2, qmd_k4, qmd_l4, qmd_gf4, qmd_k5, qmd_l5, qmd_gf6, qmd_k6, qmd_l6, qmd_gf7, qmd_k7, qmd_l7, qmd_gf10, qmd_k8, qmd_l8, qmd_gf11, qmd_k9, qmd_l9, qmd_gf12, qmd_gf3, qmd_pf3, qmd_gf5, qmd_pf5, qmd_gf8, qmd_pf8, qmd_gf9, qmd_pf9, wrI_row, cpI_row, row_s, row_n, row_ss, row_sw, upd_s, upd_n, ad_inj, ad_z, ad_z2, Nat.reduceEqDiff, reduceCtorEq, List.cons_append, List.nil_append, Option.toList_some, Option.toList_none, Int.toNat_natCast, List.length_cons, List.length_nil, Int.cast_ofNat_Int, Nat.reduceAdd, Nat.reduceLeDiff, Nat.reduceLT, Nat.reduceMul, Int.reduceAdd, Int.reduceSub, Int.reduceMul, Int.reduceNeg, Int.reduceLT, Int.reduceLE, Int.reduceEq, Int.reduceToNat, eq_self, true_and, and_true, true_or, or_true, false_or, or_false, if_true, if_false, not_true_eq_false, not_false_eq_true, and_self, ne_eq, hM, ho1]
    (repeat' (first | apply And.intro | split)) <;> first | omega | exact q
end MAC
