/-! THE PLANNER FROM THE END -/
theorem plI_row4 {g : Nat → Nat → Int} {w F M h : Nat} {c : Nat → Nat → Int} {cl : Nat → Nat → Bool} (hP : plI g w F M h c cl) (R : Nat → Int) : plI (setRow g (ad w 4) R) w F M h c cl := by
  obtain ⟨p1, p2, p3, p4, p5⟩ := hP
  have e0 : setRow g (ad w 4) R w = g w := row_n (by rw [ad_z2]; decide)
  have e2 : setRow g (ad w 4) R (ad w 2) = g (ad w 2) := row_n (by rw [ad_inj]; decide)
  have e3 : setRow g (ad w 4) R (ad w 3) = g (ad w 3) := row_n (by rw [ad_inj]; decide)
  unfold plI
  rw [e0, e2, e3]
  exact ⟨p1, p2, p3, p4, p5⟩
section PLE
variable {zt : Nat → Nat} {g : Nat → Nat → Int} {ρ : Ri} {w F M h : Nat} {c : Nat → Nat → Int} {cl : Nat → Nat → Bool}
theorem fillRest_loop (hA : isPl ρ w) (hP : plI g w F M h c cl) (hM8 : M ≤ 8) (h1 : 1 ≤ h) (h3 : h ≤ 3) (hF : F ≤ 99) (hc : ∀ f m, 0 ≤ c f m ∧ c f m ≤ 1000000) {f m : Nat} (hf : f < F) (hm : m < M) (hR : rsI (g (ad w 4)) F M h c cl (f + 1)) {Q : Option AV → Sto → Prop} (hQ : Q none (setRow g (ad w 4) (blkR (g (ad w 4)) ((f * 8 + m) * 3) (fun r => Rv F M h c cl (F - f) m r) h), ρ)) :
    ∀ (d n : Nat) (o6 : Option AV), n + d = h → Wp zt 9 (P 9 29) [some (AR w), some (AI f), some (AI m), some (AI (((f : Int) * 8 + m) * 3)), some (AI (if f + 1 = F then 1 else 0)), some (AI n), o6] [] (setRow g (ad w 4) (blkR (g (ad w 4)) ((f * 8 + m) * 3) (fun r => Rv F M h c cl (F - f) m r) n), ρ) Q := by
  obtain ⟨p1, p2, p3, p4, p5⟩ := id hP
  obtain ⟨k, hk⟩ : ∃ k, F - f = k + 1 := ⟨F - f - 1, by omega⟩
  have hc0 : ∀ f m, 0 ≤ c f m := fun f m => (hc f m).1
  intro d
  induction d with
  | zero =>
    intro n o6 hn
    have e : n = h := by omega
    subst e
    rw [P_P_fillRest_29]
    simp only [m_P_fillRest, b_P_fillRest_0, P_P_fillRest_23, b_P_fillRest_23, P_P_fillRest_24, b_P_fillRest_24, P_P_fillRest_47, b_P_fillRest_47, P_P_fillRest_63, b_P_fillRest_63, P_P_fillRest_96, b_P_fillRest_96, P_P_fillRest_130, b_P_fillRest_130, wp_abs, wp_aln0, wp_bipush, wp_copy, wp_cs1, wp_cs2, wp_cs3, wp_cs4, wp_cs5, wp_cs6, wp_cs7, wp_cv1, wp_cv2, wp_cv3, wp_cv4, wp_cv5, wp_cv6, wp_cv7, wp_goto, wp_iadd, wp_iald, wp_iast, wp_icge, wp_icne, wp_iconst, wp_il4, wp_il5, wp_il6, wp_iln1, wp_iln2, wp_iln3, wp_imul, wp_inc5, wp_is4, wp_is5, wp_is6, wp_isn3, wp_isub, wp_izeq, wp_izne, wp_ldc, wp_max, wp_min, wp_nop, wp_ret, qpl_kd, qpl_k1, qpl_l1, qpl_gf0, qpl_k2, qpl_l2, qpl_gf1, qpl_k3, qpl_l3, qpl_gf2, qpl_k4, qpl_l4, qpl_gf3, qpl_k5, qpl_l5, qpl_gf4, qpl_k6, qpl_l6, qpl_gf5, qpl_gf6, qpl_pf6, qpl_gf7, qpl_pf7, qpl_gf8, qpl_pf8, wrI_row, cpI_row, row_s, row_n, row_ss, row_sw, upd_s, upd_n, ad_inj, ad_z, ad_z2, Nat.reduceEqDiff, reduceCtorEq, List.cons_append, List.nil_append, Option.toList_some, Option.toList_none, Int.toNat_natCast, List.length_cons, List.length_nil, Int.cast_ofNat_Int, Nat.reduceAdd, Nat.reduceLeDiff, Nat.reduceLT, Nat.reduceMul, Int.reduceAdd, Int.reduceSub, Int.reduceMul, Int.reduceNeg, Int.reduceLT, Int.reduceLE, Int.reduceEq, Int.reduceToNat, eq_self, true_and, and_true, true_or, or_true, false_or, or_false, if_true, if_false, not_true_eq_false, not_false_eq_true, and_self, ne_eq, b_P_fillRest_29, hA, p3]
    (repeat' (first | apply And.intro | split)) <;> first | omega | exact hQ | (rw [b2_t (by omega)] at hQ; exact hQ) | (rw [b2_f (by omega)] at hQ; exact hQ)
  | succ d ih =>
    intro n o6 hn
    have e2 : ((f : Int) * 8 + (m : Int)).toNat = f * 8 + m := by omega
    have e3 : (((f : Int) * 8 + (m : Int)) * 3 + (n : Int)).toNat = (f * 8 + m) * 3 + n := by omega
    have e5 : (((f : Int) * 8 + (m : Int)) * 3 + 24 + ((min (n + 1) (h - 1) : Nat) : Int)).toNat = ((f + 1) * 8 + m) * 3 + min (n + 1) (h - 1) := by omega
    have q4 := p4 f m hf hm
    have hcf := hc f m
    have hRv : Rv F M h c cl (F - f) m n = min 1000000 (c f m + (if k = 0 then 0 else if n = h - 1 then min (Rv F M h c cl k m (min (n + 1) (h - 1))) (minB (fun o => !(o == m) && cl m o) (fun o => Rv F M h c cl k o 0) M) else Rv F M h c cl k m (min (n + 1) (h - 1)))) := by
      rw [hk]
      simp only [Rv]
      rw [show F - (k + 1) = f by omega]
    by_cases hl : f + 1 = F
    · have i1 := ih (n + 1) (some (AI 0)) (by omega)
      rw [← blkR_st rfl] at i1
      rw [hRv, if_pos (show k = 0 by omega)] at i1
      rw [if_pos hl] at i1 ⊢
      rw [P_P_fillRest_29]
      simp only [m_P_fillRest, b_P_fillRest_0, P_P_fillRest_23, b_P_fillRest_23, P_P_fillRest_24, b_P_fillRest_24, P_P_fillRest_47, b_P_fillRest_47, P_P_fillRest_63, b_P_fillRest_63, P_P_fillRest_96, b_P_fillRest_96, P_P_fillRest_130, b_P_fillRest_130, wp_abs, wp_aln0, wp_bipush, wp_copy, wp_cs1, wp_cs2, wp_cs3, wp_cs4, wp_cs5, wp_cs6, wp_cs7, wp_cv1, wp_cv2, wp_cv3, wp_cv4, wp_cv5, wp_cv6, wp_cv7, wp_goto, wp_iadd, wp_iald, wp_iast, wp_icge, wp_icne, wp_iconst, wp_il4, wp_il5, wp_il6, wp_iln1, wp_iln2, wp_iln3, wp_imul, wp_inc5, wp_is4, wp_is5, wp_is6, wp_isn3, wp_isub, wp_izeq, wp_izne, wp_ldc, wp_max, wp_min, wp_nop, wp_ret, qpl_kd, qpl_k1, qpl_l1, qpl_gf0, qpl_k2, qpl_l2, qpl_gf1, qpl_k3, qpl_l3, qpl_gf2, qpl_k4, qpl_l4, qpl_gf3, qpl_k5, qpl_l5, qpl_gf4, qpl_k6, qpl_l6, qpl_gf5, qpl_gf6, qpl_pf6, qpl_gf7, qpl_pf7, qpl_gf8, qpl_pf8, wrI_row, cpI_row, row_s, row_n, row_ss, row_sw, upd_s, upd_n, ad_inj, ad_z, ad_z2, Nat.reduceEqDiff, reduceCtorEq, List.cons_append, List.nil_append, Option.toList_some, Option.toList_none, Int.toNat_natCast, List.length_cons, List.length_nil, Int.cast_ofNat_Int, Nat.reduceAdd, Nat.reduceLeDiff, Nat.reduceLT, Nat.reduceMul, Int.reduceAdd, Int.reduceSub, Int.reduceMul, Int.reduceNeg, Int.reduceLT, Int.reduceLE, Int.reduceEq, Int.reduceToNat, eq_self, true_and, and_true, true_or, or_true, false_or, or_false, if_true, if_false, not_true_eq_false, not_false_eq_true, and_self, ne_eq, b_P_fillRest_29, hA, p3, e2, e3, q4]
      (repeat' (first | apply And.intro | split)) <;> first | omega | exact i1 | (rw [b2_t (by omega)] at i1; exact i1) | (rw [b2_f (by omega)] at i1; exact i1)
    · have hlg := longer_ok (zt := zt) (ρ := ρ) (w := w) (h := h) (g := setRow g (ad w 4) (blkR (g (ad w 4)) ((f * 8 + m) * 3) (fun r => Rv F M h c cl (F - f) m r) n)) hA ((congrFun (row_n (by rw [ad_z2]; decide)) 8).trans p3) h1 h3 (r := n) (by omega)
      have hb1 := Rv_b (F := F) (M := M) (h := h) (cl := cl) hc0 k m (min (n + 1) (h - 1))
      have r1 : blkR (g (ad w 4)) ((f * 8 + m) * 3) (fun r => Rv F M h c cl (F - f) m r) n (((f + 1) * 8 + m) * 3 + min (n + 1) (h - 1)) = Rv F M h c cl k m (min (n + 1) (h - 1)) := by
        rw [blkR_out (by omega), hR (f + 1) m (min (n + 1) (h - 1)) (Nat.le_refl _) (by omega) hm (by omega), show F - (f + 1) = k by omega]
      by_cases hh : n + 1 = h
      · have hlv := leastOfLeaving_ok (zt := zt) hA (plI_row4 hP (blkR (g (ad w 4)) ((f * 8 + m) * 3) (fun r => Rv F M h c cl (F - f) m r) n)) hM8 hm (f := f + 1) (by omega) (v := fun o => Rv F M h c cl k o 0) (fun j => Rv_b hc0 k j 0) (fun o ho => by
          rw [row_s, blkR_out (by omega)]
          have := hR (f + 1) o 0 (Nat.le_refl _) (by omega) ho (by omega)
          rw [show F - (f + 1) = k by omega] at this
          exact this)
        rw [show ((f + 1 : Nat) : Int) = (f : Int) + 1 by omega] at hlv
        have hb2 := minB_b (p := fun o => !(o == m) && cl m o) (v := fun o => Rv F M h c cl k o 0) (fun o => (Rv_b hc0 k o 0).1) M
        have i1 := ih (n + 1) (some (AI (min (Rv F M h c cl k m (min (n + 1) (h - 1))) (minB (fun o => !(o == m) && cl m o) (fun o => Rv F M h c cl k o 0) M)))) (by omega)
        rw [← blkR_st rfl] at i1
        rw [hRv, if_neg (show ¬ k = 0 by omega), if_pos (show n = h - 1 by omega)] at i1
        rw [if_neg hl] at i1 ⊢
        have hh2 : (n : Int) = (h : Int) - 1 := by omega
        rw [P_P_fillRest_29]
        simp only [m_P_fillRest, b_P_fillRest_0, P_P_fillRest_23, b_P_fillRest_23, P_P_fillRest_24, b_P_fillRest_24, P_P_fillRest_47, b_P_fillRest_47, P_P_fillRest_63, b_P_fillRest_63, P_P_fillRest_96, b_P_fillRest_96, P_P_fillRest_130, b_P_fillRest_130, wp_abs, wp_aln0, wp_bipush, wp_copy, wp_cs1, wp_cs2, wp_cs3, wp_cs4, wp_cs5, wp_cs6, wp_cs7, wp_cv1, wp_cv2, wp_cv3, wp_cv4, wp_cv5, wp_cv6, wp_cv7, wp_goto, wp_iadd, wp_iald, wp_iast, wp_icge, wp_icne, wp_iconst, wp_il4, wp_il5, wp_il6, wp_iln1, wp_iln2, wp_iln3, wp_imul, wp_inc5, wp_is4, wp_is5, wp_is6, wp_isn3, wp_isub, wp_izeq, wp_izne, wp_ldc, wp_max, wp_min, wp_nop, wp_ret, qpl_kd, qpl_k1, qpl_l1, qpl_gf0, qpl_k2, qpl_l2, qpl_gf1, qpl_k3, qpl_l3, qpl_gf2, qpl_k4, qpl_l4, qpl_gf3, qpl_k5, qpl_l5, qpl_gf4, qpl_k6, qpl_l6, qpl_gf5, qpl_gf6, qpl_pf6, qpl_gf7, qpl_pf7, qpl_gf8, qpl_pf8, wrI_row, cpI_row, row_s, row_n, row_ss, row_sw, upd_s, upd_n, ad_inj, ad_z, ad_z2, Nat.reduceEqDiff, reduceCtorEq, List.cons_append, List.nil_append, Option.toList_some, Option.toList_none, Int.toNat_natCast, List.length_cons, List.length_nil, Int.cast_ofNat_Int, Nat.reduceAdd, Nat.reduceLeDiff, Nat.reduceLT, Nat.reduceMul, Int.reduceAdd, Int.reduceSub, Int.reduceMul, Int.reduceNeg, Int.reduceLT, Int.reduceLE, Int.reduceEq, Int.reduceToNat, eq_self, true_and, and_true, true_or, or_true, false_or, or_false, if_true, if_false, not_true_eq_false, not_false_eq_true, and_self, ne_eq, b_P_fillRest_29, hA, p3, e2, e3, e5, q4, hlg, r1, hlv]
        (repeat' (first | apply And.intro | split)) <;> first | omega | exact i1
      · have i1 := ih (n + 1) (some (AI (Rv F M h c cl k m (min (n + 1) (h - 1))))) (by omega)
        rw [← blkR_st rfl] at i1
        rw [hRv, if_neg (show ¬ k = 0 by omega), if_neg (show ¬ n = h - 1 by omega)] at i1
        rw [if_neg hl] at i1 ⊢
        have hh2 : ¬ (n : Int) = (h : Int) - 1 := by omega
        rw [P_P_fillRest_29]
        simp only [m_P_fillRest, b_P_fillRest_0, P_P_fillRest_23, b_P_fillRest_23, P_P_fillRest_24, b_P_fillRest_24, P_P_fillRest_47, b_P_fillRest_47, P_P_fillRest_63, b_P_fillRest_63, P_P_fillRest_96, b_P_fillRest_96, P_P_fillRest_130, b_P_fillRest_130, wp_abs, wp_aln0, wp_bipush, wp_copy, wp_cs1, wp_cs2, wp_cs3, wp_cs4, wp_cs5, wp_cs6, wp_cs7, wp_cv1, wp_cv2, wp_cv3, wp_cv4, wp_cv5, wp_cv6, wp_cv7, wp_goto, wp_iadd, wp_iald, wp_iast, wp_icge, wp_icne, wp_iconst, wp_il4, wp_il5, wp_il6, wp_iln1, wp_iln2, wp_iln3, wp_imul, wp_inc5, wp_is4, wp_is5, wp_is6, wp_isn3, wp_isub, wp_izeq, wp_izne, wp_ldc, wp_max, wp_min, wp_nop, wp_ret, qpl_kd, qpl_k1, qpl_l1, qpl_gf0, qpl_k2, qpl_l2, qpl_gf1, qpl_k3, qpl_l3, qpl_gf2, qpl_k4, qpl_l4, qpl_gf3, qpl_k5, qpl_l5, qpl_gf4, qpl_k6, qpl_l6, qpl_gf5, qpl_gf6, qpl_pf6, qpl_gf7, qpl_pf7, qpl_gf8, qpl_pf8, wrI_row, cpI_row, row_s, row_n, row_ss, row_sw, upd_s, upd_n, ad_inj, ad_z, ad_z2, Nat.reduceEqDiff, reduceCtorEq, List.cons_append, List.nil_append, Option.toList_some, Option.toList_none, Int.toNat_natCast, List.length_cons, List.length_nil, Int.cast_ofNat_Int, Nat.reduceAdd, Nat.reduceLeDiff, Nat.reduceLT, Nat.reduceMul, Int.reduceAdd, Int.reduceSub, Int.reduceMul, Int.reduceNeg, Int.reduceLT, Int.reduceLE, Int.reduceEq, Int.reduceToNat, eq_self, true_and, and_true, true_or, or_true, false_or, or_false, if_true, if_false, not_true_eq_false, not_false_eq_true, and_self, ne_eq, b_P_fillRest_29, hA, p3, e2, e3, e5, q4, hlg, r1, hh2]
        (repeat' (first | apply And.intro | split)) <;> first | omega | exact i1
theorem fillRest_ok (hA : isPl ρ w) (hP : plI g w F M h c cl) (hM8 : M ≤ 8) (h1 : 1 ≤ h) (h3 : h ≤ 3) (hF : F ≤ 99) (hc : ∀ f m, 0 ≤ c f m ∧ c f m ≤ 1000000) {f m : Nat} (hf : f < F) (hm : m < M) (hR : rsI (g (ad w 4)) F M h c cl (f + 1)) (Q : Option AV → Sto → Prop) : WpM zt 9 [AR w, AI f, AI m] (g, ρ) Q ↔ Q none (setRow g (ad w 4) (blkR (g (ad w 4)) ((f * 8 + m) * 3) (fun r => Rv F M h c cl (F - f) m r) h), ρ) := by
  refine wpm_iff (fun Q hQ => ?_) Q
  obtain ⟨p1, p2, p3, p4, p5⟩ := id hP
  have k1 := fillRest_loop (zt := zt) hA hP hM8 h1 h3 hF hc hf hm hR hQ h 0 none (by omega)
  rw [blkR_0, row_id] at k1
  by_cases hl : f + 1 = F
  · have hl2 : (f : Int) = (F : Int) - 1 := by omega
    rw [if_pos hl] at k1
    simp only [m_P_fillRest, b_P_fillRest_0, P_P_fillRest_23, b_P_fillRest_23, P_P_fillRest_24, b_P_fillRest_24, P_P_fillRest_47, b_P_fillRest_47, P_P_fillRest_63, b_P_fillRest_63, P_P_fillRest_96, b_P_fillRest_96, P_P_fillRest_130, b_P_fillRest_130, wp_abs, wp_aln0, wp_bipush, wp_copy, wp_cs1, wp_cs2, wp_cs3, wp_cs4, wp_cs5, wp_cs6, wp_cs7, wp_cv1, wp_cv2, wp_cv3, wp_cv4, wp_cv5, wp_cv6, wp_cv7, wp_goto, wp_iadd, wp_iald, wp_iast, wp_icge, wp_icne, wp_iconst, wp_il4, wp_il5, wp_il6, wp_iln1, wp_iln2, wp_iln3, wp_imul, wp_inc5, wp_is4, wp_is5, wp_is6, wp_isn3, wp_isub, wp_izeq, wp_izne, wp_ldc, wp_max, wp_min, wp_nop, wp_ret, qpl_kd, qpl_k1, qpl_l1, qpl_gf0, qpl_k2, qpl_l2, qpl_gf1, qpl_k3, qpl_l3, qpl_gf2, qpl_k4, qpl_l4, qpl_gf3, qpl_k5, qpl_l5, qpl_gf4, qpl_k6, qpl_l6, qpl_gf5, qpl_gf6, qpl_pf6, qpl_gf7, qpl_pf7, qpl_gf8, qpl_pf8, wrI_row, cpI_row, row_s, row_n, row_ss, row_sw, upd_s, upd_n, ad_inj, ad_z, ad_z2, Nat.reduceEqDiff, reduceCtorEq, List.cons_append, List.nil_append, Option.toList_some, Option.toList_none, Int.toNat_natCast, List.length_cons, List.length_nil, Int.cast_ofNat_Int, Nat.reduceAdd, Nat.reduceLeDiff, Nat.reduceLT, Nat.reduceMul, Int.reduceAdd, Int.reduceSub, Int.reduceMul, Int.reduceNeg, Int.reduceLT, Int.reduceLE, Int.reduceEq, Int.reduceToNat, eq_self, true_and, and_true, true_or, or_true, false_or, or_false, if_true, if_false, not_true_eq_false, not_false_eq_true, and_self, ne_eq, hA, p1]
    (repeat' (first | apply And.intro | split)) <;> first | omega | exact k1
  · have hl2 : ¬ (f : Int) = (F : Int) - 1 := by omega
    rw [if_neg hl] at k1
    simp only [m_P_fillRest, b_P_fillRest_0, P_P_fillRest_23, b_P_fillRest_23, P_P_fillRest_24, b_P_fillRest_24, P_P_fillRest_47, b_P_fillRest_47, P_P_fillRest_63, b_P_fillRest_63, P_P_fillRest_96, b_P_fillRest_96, P_P_fillRest_130, b_P_fillRest_130, wp_abs, wp_aln0, wp_bipush, wp_copy, wp_cs1, wp_cs2, wp_cs3, wp_cs4, wp_cs5, wp_cs6, wp_cs7, wp_cv1, wp_cv2, wp_cv3, wp_cv4, wp_cv5, wp_cv6, wp_cv7, wp_goto, wp_iadd, wp_iald, wp_iast, wp_icge, wp_icne, wp_iconst, wp_il4, wp_il5, wp_il6, wp_iln1, wp_iln2, wp_iln3, wp_imul, wp_inc5, wp_is4, wp_is5, wp_is6, wp_isn3, wp_isub, wp_izeq, wp_izne, wp_ldc, wp_max, wp_min, wp_nop, wp_ret, qpl_kd, qpl_k1, qpl_l1, qpl_gf0, qpl_k2, qpl_l2, qpl_gf1, qpl_k3, qpl_l3, qpl_gf2, qpl_k4, qpl_l4, qpl_gf3, qpl_k5, qpl_l5, qpl_gf4, qpl_k6, qpl_l6, qpl_gf5, qpl_gf6, qpl_pf6, qpl_gf7, qpl_pf7, qpl_gf8, qpl_pf8, wrI_row, cpI_row, row_s, row_n, row_ss, row_sw, upd_s, upd_n, ad_inj, ad_z, ad_z2, Nat.reduceEqDiff, reduceCtorEq, List.cons_append, List.nil_append, Option.toList_some, Option.toList_none, Int.toNat_natCast, List.length_cons, List.length_nil, Int.cast_ofNat_Int, Nat.reduceAdd, Nat.reduceLeDiff, Nat.reduceLT, Nat.reduceMul, Int.reduceAdd, Int.reduceSub, Int.reduceMul, Int.reduceNeg, Int.reduceLT, Int.reduceLE, Int.reduceEq, Int.reduceToNat, eq_self, true_and, and_true, true_or, or_true, false_or, or_false, if_true, if_false, not_true_eq_false, not_false_eq_true, and_self, ne_eq, hA, p1]
    (repeat' (first | apply And.intro | split)) <;> first | omega | exact k1
theorem leastFromEnd_inner (hA : isPl ρ w) (hP : plI g w F M h c cl) (hM8 : M ≤ 8) (h1 : 1 ≤ h) (h3 : h ≤ 3) (hF : F ≤ 99) (hc : ∀ f m, 0 ≤ c f m ∧ c f m ≤ 1000000) {f : Nat} (hf : f < F) {Q : Option AV → Sto → Prop}
    (kk : ∀ (R : Nat → Int) (o2 : Option AV), rsI R F M h c cl f → Wp zt 8 (P 8 16) [some (AR w), some (AI ((f : Int) - 1)), o2] [] (setRow g (ad w 4) R, ρ) Q) :
    ∀ (d n : Nat) (R : Nat → Int), n + d = M → rsI R F M h c cl (f + 1) → (∀ m r, m < n → r < h → R ((f * 8 + m) * 3 + r) = Rv F M h c cl (F - f) m r) → Wp zt 8 (P 8 22) [some (AR w), some (AI f), some (AI n)] [] (setRow g (ad w 4) R, ρ) Q := by
  obtain ⟨p1, p2, p3, p4, p5⟩ := id hP
  intro d
  induction d with
  | zero =>
    intro n R hn hR hr
    have e : n = M := by omega
    subst e
    have k1 := kk R (some (AI n)) (fun f' m r q1 q2 q3 q4 => by
      by_cases e : f' = f
      · subst e; exact hr m r q3 q4
      · exact hR f' m r (by omega) q2 q3 q4)
    rw [show (f : Int) - 1 = (f : Int) + -1 by omega] at k1
    rw [P_P_leastFromEnd_22]
    simp only [m_P_leastFromEnd, b_P_leastFromEnd_0, P_P_leastFromEnd_9, b_P_leastFromEnd_9, P_P_leastFromEnd_42, b_P_leastFromEnd_42, P_P_leastFromEnd_48, b_P_leastFromEnd_48, P_P_leastFromEnd_53, b_P_leastFromEnd_53, P_P_leastFromEnd_80, b_P_leastFromEnd_80, P_P_leastFromEnd_90, b_P_leastFromEnd_90, P_P_leastFromEnd_92, b_P_leastFromEnd_92, wp_abs, wp_aln0, wp_bipush, wp_copy, wp_cs1, wp_cs2, wp_cs3, wp_cs4, wp_cs5, wp_cs6, wp_cs7, wp_cv1, wp_cv2, wp_cv3, wp_cv4, wp_cv5, wp_cv6, wp_cv7, wp_goto, wp_iald, wp_icge, wp_iconst, wp_iln1, wp_iln2, wp_imul, wp_inc1, wp_inc2, wp_iret, wp_isn1, wp_isn2, wp_isub, wp_izlt, wp_izne, wp_ldc, wp_max, wp_min, wp_nop, wp_zret, qpl_kd, qpl_k1, qpl_l1, qpl_gf0, qpl_k2, qpl_l2, qpl_gf1, qpl_k3, qpl_l3, qpl_gf2, qpl_k4, qpl_l4, qpl_gf3, qpl_k5, qpl_l5, qpl_gf4, qpl_k6, qpl_l6, qpl_gf5, qpl_gf6, qpl_pf6, qpl_gf7, qpl_pf7, qpl_gf8, qpl_pf8, wrI_row, cpI_row, row_s, row_n, row_ss, row_sw, upd_s, upd_n, ad_inj, ad_z, ad_z2, Nat.reduceEqDiff, reduceCtorEq, List.cons_append, List.nil_append, Option.toList_some, Option.toList_none, Int.toNat_natCast, List.length_cons, List.length_nil, Int.cast_ofNat_Int, Nat.reduceAdd, Nat.reduceLeDiff, Nat.reduceLT, Nat.reduceMul, Int.reduceAdd, Int.reduceSub, Int.reduceMul, Int.reduceNeg, Int.reduceLT, Int.reduceLE, Int.reduceEq, Int.reduceToNat, eq_self, true_and, and_true, true_or, or_true, false_or, or_false, if_true, if_false, not_true_eq_false, not_false_eq_true, and_self, ne_eq, b_P_leastFromEnd_22, hA, p2]
    (repeat' (first | apply And.intro | split)) <;> first | omega | exact k1
  | succ d ih =>
    intro n R hn hR hr
    have hfr := fillRest_ok (zt := zt) (ρ := ρ) hA (plI_row4 hP R) hM8 h1 h3 hF hc hf (m := n) (by omega) (by rw [row_s]; exact hR)
    rw [row_s, row_ss] at hfr
    have i1 := ih (n + 1) (blkR R ((f * 8 + n) * 3) (fun r => Rv F M h c cl (F - f) n r) h) (by omega) (fun f' m r q1 q2 q3 q4 => by
        rw [blkR_out (by omega)]
        exact hR f' m r q1 q2 q3 q4) (fun m r q1 q2 => by
        by_cases e : m = n
        · subst e; exact blkR_in q2
        · rw [blkR_out (by omega)]
          exact hr m r (by omega) q2)
    rw [P_P_leastFromEnd_22]
    simp only [m_P_leastFromEnd, b_P_leastFromEnd_0, P_P_leastFromEnd_9, b_P_leastFromEnd_9, P_P_leastFromEnd_42, b_P_leastFromEnd_42, P_P_leastFromEnd_48, b_P_leastFromEnd_48, P_P_leastFromEnd_53, b_P_leastFromEnd_53, P_P_leastFromEnd_80, b_P_leastFromEnd_80, P_P_leastFromEnd_90, b_P_leastFromEnd_90, P_P_leastFromEnd_92, b_P_leastFromEnd_92, wp_abs, wp_aln0, wp_bipush, wp_copy, wp_cs1, wp_cs2, wp_cs3, wp_cs4, wp_cs5, wp_cs6, wp_cs7, wp_cv1, wp_cv2, wp_cv3, wp_cv4, wp_cv5, wp_cv6, wp_cv7, wp_goto, wp_iald, wp_icge, wp_iconst, wp_iln1, wp_iln2, wp_imul, wp_inc1, wp_inc2, wp_iret, wp_isn1, wp_isn2, wp_isub, wp_izlt, wp_izne, wp_ldc, wp_max, wp_min, wp_nop, wp_zret, qpl_kd, qpl_k1, qpl_l1, qpl_gf0, qpl_k2, qpl_l2, qpl_gf1, qpl_k3, qpl_l3, qpl_gf2, qpl_k4, qpl_l4, qpl_gf3, qpl_k5, qpl_l5, qpl_gf4, qpl_k6, qpl_l6, qpl_gf5, qpl_gf6, qpl_pf6, qpl_gf7, qpl_pf7, qpl_gf8, qpl_pf8, wrI_row, cpI_row, row_s, row_n, row_ss, row_sw, upd_s, upd_n, ad_inj, ad_z, ad_z2, Nat.reduceEqDiff, reduceCtorEq, List.cons_append, List.nil_append, Option.toList_some, Option.toList_none, Int.toNat_natCast, List.length_cons, List.length_nil, Int.cast_ofNat_Int, Nat.reduceAdd, Nat.reduceLeDiff, Nat.reduceLT, Nat.reduceMul, Int.reduceAdd, Int.reduceSub, Int.reduceMul, Int.reduceNeg, Int.reduceLT, Int.reduceLE, Int.reduceEq, Int.reduceToNat, eq_self, true_and, and_true, true_or, or_true, false_or, or_false, if_true, if_false, not_true_eq_false, not_false_eq_true, and_self, ne_eq, b_P_leastFromEnd_22, hA, p2, hfr]
    (repeat' (first | apply And.intro | split)) <;> first | omega | exact i1
theorem leastFromEnd_min (hA : isPl ρ w) (hM : g w 7 = M) (hM8 : M ≤ 8) {v : Nat → Int} (hv : ∀ j, 0 ≤ v j ∧ v j ≤ 1000000) (hR : ∀ m, m < M → g (ad w 4) (m * 3) = v m) {Q : Option AV → Sto → Prop} (hQ : Q (some (AI (if minB (fun _ => true) v M < 1000000 then minB (fun _ => true) v M else -99))) (g, ρ)) :
    ∀ (d n : Nat), n + d = M → Wp zt 8 (P 8 53) [some (AR w), some (AI (minB (fun _ => true) v n)), some (AI n)] [] (g, ρ) Q := by
  intro d
  induction d with
  | zero =>
    intro n hn
    have e : n = M := by omega
    subst e
    have hb := minB_b (p := fun _ => true) (v := v) (fun j => (hv j).1) n
    rw [P_P_leastFromEnd_53]
    by_cases hc : minB (fun _ => true) v n < 1000000
    · rw [if_pos hc] at hQ
      simp only [m_P_leastFromEnd, b_P_leastFromEnd_0, P_P_leastFromEnd_9, b_P_leastFromEnd_9, P_P_leastFromEnd_42, b_P_leastFromEnd_42, P_P_leastFromEnd_48, b_P_leastFromEnd_48, P_P_leastFromEnd_80, b_P_leastFromEnd_80, P_P_leastFromEnd_90, b_P_leastFromEnd_90, P_P_leastFromEnd_92, b_P_leastFromEnd_92, wp_abs, wp_aln0, wp_bipush, wp_copy, wp_cs1, wp_cs2, wp_cs3, wp_cs4, wp_cs5, wp_cs6, wp_cs7, wp_cv1, wp_cv2, wp_cv3, wp_cv4, wp_cv5, wp_cv6, wp_cv7, wp_goto, wp_iald, wp_icge, wp_iconst, wp_iln1, wp_iln2, wp_imul, wp_inc1, wp_inc2, wp_iret, wp_isn1, wp_isn2, wp_isub, wp_izlt, wp_izne, wp_ldc, wp_max, wp_min, wp_nop, wp_zret, qpl_kd, qpl_k1, qpl_l1, qpl_gf0, qpl_k2, qpl_l2, qpl_gf1, qpl_k3, qpl_l3, qpl_gf2, qpl_k4, qpl_l4, qpl_gf3, qpl_k5, qpl_l5, qpl_gf4, qpl_k6, qpl_l6, qpl_gf5, qpl_gf6, qpl_pf6, qpl_gf7, qpl_pf7, qpl_gf8, qpl_pf8, wrI_row, cpI_row, row_s, row_n, row_ss, row_sw, upd_s, upd_n, ad_inj, ad_z, ad_z2, Nat.reduceEqDiff, reduceCtorEq, List.cons_append, List.nil_append, Option.toList_some, Option.toList_none, Int.toNat_natCast, List.length_cons, List.length_nil, Int.cast_ofNat_Int, Nat.reduceAdd, Nat.reduceLeDiff, Nat.reduceLT, Nat.reduceMul, Int.reduceAdd, Int.reduceSub, Int.reduceMul, Int.reduceNeg, Int.reduceLT, Int.reduceLE, Int.reduceEq, Int.reduceToNat, eq_self, true_and, and_true, true_or, or_true, false_or, or_false, if_true, if_false, not_true_eq_false, not_false_eq_true, and_self, ne_eq, b_P_leastFromEnd_53, hA, hM]
      (repeat' (first | apply And.intro | split)) <;> first | omega | exact hQ
    · rw [if_neg hc] at hQ
      simp only [m_P_leastFromEnd, b_P_leastFromEnd_0, P_P_leastFromEnd_9, b_P_leastFromEnd_9, P_P_leastFromEnd_42, b_P_leastFromEnd_42, P_P_leastFromEnd_48, b_P_leastFromEnd_48, P_P_leastFromEnd_80, b_P_leastFromEnd_80, P_P_leastFromEnd_90, b_P_leastFromEnd_90, P_P_leastFromEnd_92, b_P_leastFromEnd_92, wp_abs, wp_aln0, wp_bipush, wp_copy, wp_cs1, wp_cs2, wp_cs3, wp_cs4, wp_cs5, wp_cs6, wp_cs7, wp_cv1, wp_cv2, wp_cv3, wp_cv4, wp_cv5, wp_cv6, wp_cv7, wp_goto, wp_iald, wp_icge, wp_iconst, wp_iln1, wp_iln2, wp_imul, wp_inc1, wp_inc2, wp_iret, wp_isn1, wp_isn2, wp_isub, wp_izlt, wp_izne, wp_ldc, wp_max, wp_min, wp_nop, wp_zret, qpl_kd, qpl_k1, qpl_l1, qpl_gf0, qpl_k2, qpl_l2, qpl_gf1, qpl_k3, qpl_l3, qpl_gf2, qpl_k4, qpl_l4, qpl_gf3, qpl_k5, qpl_l5, qpl_gf4, qpl_k6, qpl_l6, qpl_gf5, qpl_gf6, qpl_pf6, qpl_gf7, qpl_pf7, qpl_gf8, qpl_pf8, wrI_row, cpI_row, row_s, row_n, row_ss, row_sw, upd_s, upd_n, ad_inj, ad_z, ad_z2, Nat.reduceEqDiff, reduceCtorEq, List.cons_append, List.nil_append, Option.toList_some, Option.toList_none, Int.toNat_natCast, List.length_cons, List.length_nil, Int.cast_ofNat_Int, Nat.reduceAdd, Nat.reduceLeDiff, Nat.reduceLT, Nat.reduceMul, Int.reduceAdd, Int.reduceSub, Int.reduceMul, Int.reduceNeg, Int.reduceLT, Int.reduceLE, Int.reduceEq, Int.reduceToNat, eq_self, true_and, and_true, true_or, or_true, false_or, or_false, if_true, if_false, not_true_eq_false, not_false_eq_true, and_self, ne_eq, b_P_leastFromEnd_53, hA, hM]
      (repeat' (first | apply And.intro | split)) <;> first | omega | exact hQ
  | succ d ih =>
    intro n hn
    have i1 := ih (n + 1) (by omega)
    have hb := minB_b (p := fun _ => true) (v := v) (fun j => (hv j).1) n
    have hvn := hv n
    have r1 := hR n (by omega)
    have e3 : ((n : Int) * 3).toNat = n * 3 := by omega
    simp only [minB, if_true] at i1
    rw [P_P_leastFromEnd_53]
    simp only [m_P_leastFromEnd, b_P_leastFromEnd_0, P_P_leastFromEnd_9, b_P_leastFromEnd_9, P_P_leastFromEnd_42, b_P_leastFromEnd_42, P_P_leastFromEnd_48, b_P_leastFromEnd_48, P_P_leastFromEnd_80, b_P_leastFromEnd_80, P_P_leastFromEnd_90, b_P_leastFromEnd_90, P_P_leastFromEnd_92, b_P_leastFromEnd_92, wp_abs, wp_aln0, wp_bipush, wp_copy, wp_cs1, wp_cs2, wp_cs3, wp_cs4, wp_cs5, wp_cs6, wp_cs7, wp_cv1, wp_cv2, wp_cv3, wp_cv4, wp_cv5, wp_cv6, wp_cv7, wp_goto, wp_iald, wp_icge, wp_iconst, wp_iln1, wp_iln2, wp_imul, wp_inc1, wp_inc2, wp_iret, wp_isn1, wp_isn2, wp_isub, wp_izlt, wp_izne, wp_ldc, wp_max, wp_min, wp_nop, wp_zret, qpl_kd, qpl_k1, qpl_l1, qpl_gf0, qpl_k2, qpl_l2, qpl_gf1, qpl_k3, qpl_l3, qpl_gf2, qpl_k4, qpl_l4, qpl_gf3, qpl_k5, qpl_l5, qpl_gf4, qpl_k6, qpl_l6, qpl_gf5, qpl_gf6, qpl_pf6, qpl_gf7, qpl_pf7, qpl_gf8, qpl_pf8, wrI_row, cpI_row, row_s, row_n, row_ss, row_sw, upd_s, upd_n, ad_inj, ad_z, ad_z2, Nat.reduceEqDiff, reduceCtorEq, List.cons_append, List.nil_append, Option.toList_some, Option.toList_none, Int.toNat_natCast, List.length_cons, List.length_nil, Int.cast_ofNat_Int, Nat.reduceAdd, Nat.reduceLeDiff, Nat.reduceLT, Nat.reduceMul, Int.reduceAdd, Int.reduceSub, Int.reduceMul, Int.reduceNeg, Int.reduceLT, Int.reduceLE, Int.reduceEq, Int.reduceToNat, eq_self, true_and, and_true, true_or, or_true, false_or, or_false, if_true, if_false, not_true_eq_false, not_false_eq_true, and_self, ne_eq, b_P_leastFromEnd_53, hA, hM, r1, e3]
    (repeat' (first | apply And.intro | split)) <;> first | omega | exact i1
theorem leastFromEnd_loop (hA : isPl ρ w) (hP : plI g w F M h c cl) (hM8 : M ≤ 8) (h1 : 1 ≤ h) (h3 : h ≤ 3) (hF : F ≤ 99) (hF0 : F ≠ 0) (hc : ∀ f m, 0 ≤ c f m ∧ c f m ≤ 1000000) {Q : Option AV → Sto → Prop} (hQ : ∀ R : Nat → Int, rsI R F M h c cl 0 → Q (some (AI (lstV F M h c cl))) (setRow g (ad w 4) R, ρ)) :
    ∀ (f1 : Nat) (R : Nat → Int) (o2 : Option AV), f1 ≤ F → rsI R F M h c cl f1 → Wp zt 8 (P 8 16) [some (AR w), some (AI ((f1 : Int) - 1)), o2] [] (setRow g (ad w 4) R, ρ) Q := by
  obtain ⟨p1, p2, p3, p4, p5⟩ := id hP
  intro f1
  induction f1 with
  | zero =>
    intro R o2 hf hR
    have hq := hQ R hR
    unfold lstV totV at hq
    rw [if_neg hF0] at hq
    have k1 := leastFromEnd_min (zt := zt) (g := setRow g (ad w 4) R) (ρ := ρ) hA (M := M) ((congrFun (row_n (by rw [ad_z2]; decide)) 7).trans p2) hM8 (v := fun m => Rv F M h c cl F m 0) (fun j => Rv_b (fun f m => (hc f m).1) F j 0) (fun m hm => by
      rw [row_s]
      have := hR 0 m 0 (Nat.le_refl _) (by omega) hm (by omega)
      simpa using this) hq M 0 (by omega)
    rw [P_P_leastFromEnd_16]
    simp only [m_P_leastFromEnd, b_P_leastFromEnd_0, P_P_leastFromEnd_9, b_P_leastFromEnd_9, P_P_leastFromEnd_42, b_P_leastFromEnd_42, P_P_leastFromEnd_48, b_P_leastFromEnd_48, P_P_leastFromEnd_80, b_P_leastFromEnd_80, P_P_leastFromEnd_90, b_P_leastFromEnd_90, P_P_leastFromEnd_92, b_P_leastFromEnd_92, wp_abs, wp_aln0, wp_bipush, wp_copy, wp_cs1, wp_cs2, wp_cs3, wp_cs4, wp_cs5, wp_cs6, wp_cs7, wp_cv1, wp_cv2, wp_cv3, wp_cv4, wp_cv5, wp_cv6, wp_cv7, wp_goto, wp_iald, wp_icge, wp_iconst, wp_iln1, wp_iln2, wp_imul, wp_inc1, wp_inc2, wp_iret, wp_isn1, wp_isn2, wp_isub, wp_izlt, wp_izne, wp_ldc, wp_max, wp_min, wp_nop, wp_zret, qpl_kd, qpl_k1, qpl_l1, qpl_gf0, qpl_k2, qpl_l2, qpl_gf1, qpl_k3, qpl_l3, qpl_gf2, qpl_k4, qpl_l4, qpl_gf3, qpl_k5, qpl_l5, qpl_gf4, qpl_k6, qpl_l6, qpl_gf5, qpl_gf6, qpl_pf6, qpl_gf7, qpl_pf7, qpl_gf8, qpl_pf8, wrI_row, cpI_row, row_s, row_n, row_ss, row_sw, upd_s, upd_n, ad_inj, ad_z, ad_z2, Nat.reduceEqDiff, reduceCtorEq, List.cons_append, List.nil_append, Option.toList_some, Option.toList_none, Int.toNat_natCast, List.length_cons, List.length_nil, Int.cast_ofNat_Int, Nat.reduceAdd, Nat.reduceLeDiff, Nat.reduceLT, Nat.reduceMul, Int.reduceAdd, Int.reduceSub, Int.reduceMul, Int.reduceNeg, Int.reduceLT, Int.reduceLE, Int.reduceEq, Int.reduceToNat, eq_self, true_and, and_true, true_or, or_true, false_or, or_false, if_true, if_false, not_true_eq_false, not_false_eq_true, and_self, ne_eq, b_P_leastFromEnd_16, hA]
    (repeat' (first | apply And.intro | split)) <;> first | omega | exact k1
  | succ f ih =>
    intro R o2 hf hR
    have e1 : ((f + 1 : Nat) : Int) - 1 = (f : Int) := by omega
    have k1 := leastFromEnd_inner (zt := zt) (Q := Q) hA hP hM8 h1 h3 hF hc (f := f) (by omega) (fun R' o q => ih R' o (by omega) q) M 0 R (by omega) hR (fun m r q1 q2 => by omega)
    rw [P_P_leastFromEnd_16, e1]
    simp only [m_P_leastFromEnd, b_P_leastFromEnd_0, P_P_leastFromEnd_9, b_P_leastFromEnd_9, P_P_leastFromEnd_42, b_P_leastFromEnd_42, P_P_leastFromEnd_48, b_P_leastFromEnd_48, P_P_leastFromEnd_80, b_P_leastFromEnd_80, P_P_leastFromEnd_90, b_P_leastFromEnd_90, P_P_leastFromEnd_92, b_P_leastFromEnd_92, wp_abs, wp_aln0, wp_bipush, wp_copy, wp_cs1, wp_cs2, wp_cs3, wp_cs4, wp_cs5, wp_cs6, wp_cs7, wp_cv1, wp_cv2, wp_cv3, wp_cv4, wp_cv5, wp_cv6, wp_cv7, wp_goto, wp_iald, wp_icge, wp_iconst, wp_iln1, wp_iln2, wp_imul, wp_inc1, wp_inc2, wp_iret, wp_isn1, wp_isn2, wp_isub, wp_izlt, wp_izne, wp_ldc, wp_max, wp_min, wp_nop, wp_zret, qpl_kd, qpl_k1, qpl_l1, qpl_gf0, qpl_k2, qpl_l2, qpl_gf1, qpl_k3, qpl_l3, qpl_gf2, qpl_k4, qpl_l4, qpl_gf3, qpl_k5, qpl_l5, qpl_gf4, qpl_k6, qpl_l6, qpl_gf5, qpl_gf6, qpl_pf6, qpl_gf7, qpl_pf7, qpl_gf8, qpl_pf8, wrI_row, cpI_row, row_s, row_n, row_ss, row_sw, upd_s, upd_n, ad_inj, ad_z, ad_z2, Nat.reduceEqDiff, reduceCtorEq, List.cons_append, List.nil_append, Option.toList_some, Option.toList_none, Int.toNat_natCast, List.length_cons, List.length_nil, Int.cast_ofNat_Int, Nat.reduceAdd, Nat.reduceLeDiff, Nat.reduceLT, Nat.reduceMul, Int.reduceAdd, Int.reduceSub, Int.reduceMul, Int.reduceNeg, Int.reduceLT, Int.reduceLE, Int.reduceEq, Int.reduceToNat, eq_self, true_and, and_true, true_or, or_true, false_or, or_false, if_true, if_false, not_true_eq_false, not_false_eq_true, and_self, ne_eq, b_P_leastFromEnd_16, hA]
    (repeat' (first | apply And.intro | split)) <;> first | omega | exact k1
theorem leastFromEnd_ok (hA : isPl ρ w) (hP : plI g w F M h c cl) (hM8 : M ≤ 8) (h1 : 1 ≤ h) (h3 : h ≤ 3) (hF : F ≤ 99) (hc : ∀ f m, 0 ≤ c f m ∧ c f m ≤ 1000000) {Q : Option AV → Sto → Prop} (hQ : ∀ R : Nat → Int, rsI R F M h c cl 0 → Q (some (AI (lstV F M h c cl))) (setRow g (ad w 4) R, ρ)) : WpM zt 8 [AR w] (g, ρ) Q := by
  obtain ⟨p1, p2, p3, p4, p5⟩ := id hP
  by_cases hF0 : F = 0
  · have hq := hQ (g (ad w 4)) (fun f' m r q1 q2 q3 q4 => by omega)
    rw [row_id] at hq
    unfold lstV at hq
    rw [if_pos hF0] at hq
    subst hF0
    simp only [m_P_leastFromEnd, b_P_leastFromEnd_0, P_P_leastFromEnd_9, b_P_leastFromEnd_9, P_P_leastFromEnd_42, b_P_leastFromEnd_42, P_P_leastFromEnd_48, b_P_leastFromEnd_48, P_P_leastFromEnd_80, b_P_leastFromEnd_80, P_P_leastFromEnd_90, b_P_leastFromEnd_90, P_P_leastFromEnd_92, b_P_leastFromEnd_92, wp_abs, wp_aln0, wp_bipush, wp_copy, wp_cs1, wp_cs2, wp_cs3, wp_cs4, wp_cs5, wp_cs6, wp_cs7, wp_cv1, wp_cv2, wp_cv3, wp_cv4, wp_cv5, wp_cv6, wp_cv7, wp_goto, wp_iald, wp_icge, wp_iconst, wp_iln1, wp_iln2, wp_imul, wp_inc1, wp_inc2, wp_iret, wp_isn1, wp_isn2, wp_isub, wp_izlt, wp_izne, wp_ldc, wp_max, wp_min, wp_nop, wp_zret, qpl_kd, qpl_k1, qpl_l1, qpl_gf0, qpl_k2, qpl_l2, qpl_gf1, qpl_k3, qpl_l3, qpl_gf2, qpl_k4, qpl_l4, qpl_gf3, qpl_k5, qpl_l5, qpl_gf4, qpl_k6, qpl_l6, qpl_gf5, qpl_gf6, qpl_pf6, qpl_gf7, qpl_pf7, qpl_gf8, qpl_pf8, wrI_row, cpI_row, row_s, row_n, row_ss, row_sw, upd_s, upd_n, ad_inj, ad_z, ad_z2, Nat.reduceEqDiff, reduceCtorEq, List.cons_append, List.nil_append, Option.toList_some, Option.toList_none, Int.toNat_natCast, List.length_cons, List.length_nil, Int.cast_ofNat_Int, Nat.reduceAdd, Nat.reduceLeDiff, Nat.reduceLT, Nat.reduceMul, Int.reduceAdd, Int.reduceSub, Int.reduceMul, Int.reduceNeg, Int.reduceLT, Int.reduceLE, Int.reduceEq, Int.reduceToNat, eq_self, true_and, and_true, true_or, or_true, false_or, or_false, if_true, if_false, not_true_eq_false, not_false_eq_true, and_self, ne_eq, hA, p1]
    exact hq
  · have k1 := leastFromEnd_loop (zt := zt) (Q := Q) hA hP hM8 h1 h3 hF hF0 hc hQ F (g (ad w 4)) none (Nat.le_refl _) (fun f' m r q1 q2 q3 q4 => by omega)
    rw [row_id] at k1
    have hF1 : ¬ (F : Int) = 0 := by omega
    simp only [m_P_leastFromEnd, b_P_leastFromEnd_0, P_P_leastFromEnd_9, b_P_leastFromEnd_9, P_P_leastFromEnd_42, b_P_leastFromEnd_42, P_P_leastFromEnd_48, b_P_leastFromEnd_48, P_P_leastFromEnd_80, b_P_leastFromEnd_80, P_P_leastFromEnd_90, b_P_leastFromEnd_90, P_P_leastFromEnd_92, b_P_leastFromEnd_92, wp_abs, wp_aln0, wp_bipush, wp_copy, wp_cs1, wp_cs2, wp_cs3, wp_cs4, wp_cs5, wp_cs6, wp_cs7, wp_cv1, wp_cv2, wp_cv3, wp_cv4, wp_cv5, wp_cv6, wp_cv7, wp_goto, wp_iald, wp_icge, wp_iconst, wp_iln1, wp_iln2, wp_imul, wp_inc1, wp_inc2, wp_iret, wp_isn1, wp_isn2, wp_isub, wp_izlt, wp_izne, wp_ldc, wp_max, wp_min, wp_nop, wp_zret, qpl_kd, qpl_k1, qpl_l1, qpl_gf0, qpl_k2, qpl_l2, qpl_gf1, qpl_k3, qpl_l3, qpl_gf2, qpl_k4, qpl_l4, qpl_gf3, qpl_k5, qpl_l5, qpl_gf4, qpl_k6, qpl_l6, qpl_gf5, qpl_gf6, qpl_pf6, qpl_gf7, qpl_pf7, qpl_gf8, qpl_pf8, wrI_row, cpI_row, row_s, row_n, row_ss, row_sw, upd_s, upd_n, ad_inj, ad_z, ad_z2, Nat.reduceEqDiff, reduceCtorEq, List.cons_append, List.nil_append, Option.toList_some, Option.toList_none, Int.toNat_natCast, List.length_cons, List.length_nil, Int.cast_ofNat_Int, Nat.reduceAdd, Nat.reduceLeDiff, Nat.reduceLT, Nat.reduceMul, Int.reduceAdd, Int.reduceSub, Int.reduceMul, Int.reduceNeg, Int.reduceLT, Int.reduceLE, Int.reduceEq, Int.reduceToNat, eq_self, true_and, and_true, true_or, or_true, false_or, or_false, if_true, if_false, not_true_eq_false, not_false_eq_true, and_self, ne_eq, hA, p1, hF1]
    (repeat' (first | apply And.intro | split)) <;> first | omega | exact k1
end PLE
