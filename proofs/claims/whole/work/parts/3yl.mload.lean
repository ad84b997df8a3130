/-! the reference's reading; load -/
/-- its number's value, which stays as it is beyond 999 -/
def nuM (T : Nat → Int) (L : Nat) : Nat → Nat → Int → Nat × Int
  | 0, p, v => (p, v)
  | d + 1, p, v => if p < L ∧ dgt (T p) = true then nuM T L d (p + 1) (if 999 < v then v else 10 * v + T p - 48) else (p, v)
theorem nuM_nuF {T : Nat → Int} {L : Nat} : ∀ (d p : Nat) (v : Int), 0 ≤ v → (nuM T L d p v).1 = (nuF T L d p (min 1000 v)).1 ∧ min 1000 (nuM T L d p v).2 = (nuF T L d p (min 1000 v)).2 ∧ 0 ≤ (nuM T L d p v).2
  | 0, p, v, h => ⟨rfl, rfl, h⟩
  | d + 1, p, v, h => by
    simp only [nuM, nuF]
    by_cases c : p < L ∧ dgt (T p) = true
    · have hd := dgt_i.1 c.2
      rw [if_pos c, if_pos c]
      by_cases c2 : 999 < v
      · have h1 := nuM_nuF (T := T) (L := L) d (p + 1) v h
        rw [if_pos c2, show min 1000 (min 1000 v * 10 + T p - 48) = min 1000 v by omega]
        exact h1
      · have h1 := nuM_nuF (T := T) (L := L) d (p + 1) (10 * v + T p - 48) (by omega)
        rw [if_neg c2, show min 1000 (min 1000 v * 10 + T p - 48) = min 1000 (10 * v + T p - 48) by omega]
        exact h1
    · rw [if_neg c, if_neg c]
      exact ⟨rfl, rfl, h⟩
theorem nuM_b {T : Nat → Int} {L : Nat} : ∀ (d p : Nat) (v : Int), (0 ≤ v ∧ v ≤ 9999) → 0 ≤ (nuM T L d p v).2 ∧ (nuM T L d p v).2 ≤ 9999
  | 0, p, v, h => h
  | d + 1, p, v, h => by
    simp only [nuM]
    split
    next c =>
      have hd := dgt_i.1 c.2
      exact nuM_b d (p + 1) _ (by split <;> omega)
    next c => exact h
theorem nuM_y {T : Nat → Int} {L p : Nat} {v : Int} (h : p < L) (h2 : dgt (T p) = true) : nuM T L (L - p) p v = nuM T L (L - (p + 1)) (p + 1) (if 999 < v then v else 10 * v + T p - 48) := by
  rw [show L - p = (L - (p + 1)) + 1 by omega]
  simp only [nuM]
  rw [if_pos ⟨h, h2⟩]
theorem nuM_n {T : Nat → Int} {L p : Nat} {v : Int} (h : ¬ (p < L ∧ dgt (T p) = true)) : nuM T L (L - p) p v = (p, v) := by
  by_cases e : p < L
  · rw [show L - p = (L - (p + 1)) + 1 by omega]
    simp only [nuM]
    rw [if_neg h]
  · rw [show L - p = 0 by omega]
    rfl
section MLD
variable {zt : Nat → Nat} {g : Nat → Nat → Int} {ρ : Ri} {M L : Nat} {Q : Option AV → Sto → Prop}
/-- the text as it is read -/
def txM (g : Nat → Nat → Int) (M L : Nat) : Prop := L ≤ 120 ∧ g M 5 = L ∧ ∀ j, j < L → 1 ≤ g (ad M 4) j ∧ g (ad M 4) j ≤ 255
theorem here_ok (hM : isMd ρ M) (hT : txM g M L) {p : Nat} (hp : p ≤ L) (h8 : g M 8 = p) (Q : Option AV → Sto → Prop) : WpM zt 132 [AR M] (g, ρ) Q ↔ Q (some (AI (if p < L then g (ad M 4) p else 0))) (g, ρ) := by
  refine wpm_iff (fun Q hQ => ?_) Q
  obtain ⟨t1, t2, t3⟩ := hT
  by_cases c : p < L
  · rw [if_pos c] at hQ
    simp only [m_M_here, b_M_here_0, P_M_here_23, b_M_here_23, P_M_here_24, b_M_here_24, wp_aln0, wp_goto, wp_iald, wp_icge, wp_iconst, wp_iret, wp_nop, wp_zret, qmd_kd, qmd_k1, qmd_l1, qmd_gf0, qmd_k2, qmd_l2, qmd_gf1, qmd_k3, qmd_l3, qmd_gf2, qmd_k4, qmd_l4, qmd_gf4, qmd_k5, qmd_l5, qmd_gf6, qmd_k6, qmd_l6, qmd_gf7, qmd_k7, qmd_l7, qmd_gf10, qmd_k8, qmd_l8, qmd_gf11, qmd_k9, qmd_l9, qmd_gf12, qmd_gf3, qmd_pf3, qmd_gf5, qmd_pf5, qmd_gf8, qmd_pf8, qmd_gf9, qmd_pf9, wrI_row, cpI_row, row_s, row_n, row_ss, row_sw, upd_s, upd_n, ad_inj, ad_z, ad_z2, Nat.reduceEqDiff, reduceCtorEq, List.cons_append, List.nil_append, Option.toList_some, Option.toList_none, Int.toNat_natCast, List.length_cons, List.length_nil, Int.cast_ofNat_Int, Nat.reduceAdd, Nat.reduceLeDiff, Nat.reduceLT, Nat.reduceMul, Int.reduceAdd, Int.reduceSub, Int.reduceMul, Int.reduceNeg, Int.reduceLT, Int.reduceLE, Int.reduceEq, Int.reduceToNat, eq_self, true_and, and_true, true_or, or_true, false_or, or_false, if_true, if_false, not_true_eq_false, not_false_eq_true, and_self, ne_eq, hM, t2, h8]
    (repeat' (first | apply And.intro | split)) <;> first | omega | exact hQ
  · rw [if_neg c] at hQ
    simp only [m_M_here, b_M_here_0, P_M_here_23, b_M_here_23, P_M_here_24, b_M_here_24, wp_aln0, wp_goto, wp_iald, wp_icge, wp_iconst, wp_iret, wp_nop, wp_zret, qmd_kd, qmd_k1, qmd_l1, qmd_gf0, qmd_k2, qmd_l2, qmd_gf1, qmd_k3, qmd_l3, qmd_gf2, qmd_k4, qmd_l4, qmd_gf4, qmd_k5, qmd_l5, qmd_gf6, qmd_k6, qmd_l6, qmd_gf7, qmd_k7, qmd_l7, qmd_gf10, qmd_k8, qmd_l8, qmd_gf11, qmd_k9, qmd_l9, qmd_gf12, qmd_gf3, qmd_pf3, qmd_gf5, qmd_pf5, qmd_gf8, qmd_pf8, qmd_gf9, qmd_pf9, wrI_row, cpI_row, row_s, row_n, row_ss, row_sw, upd_s, upd_n, ad_inj, ad_z, ad_z2, Nat.reduceEqDiff, reduceCtorEq, List.cons_append, List.nil_append, Option.toList_some, Option.toList_none, Int.toNat_natCast, List.length_cons, List.length_nil, Int.cast_ofNat_Int, Nat.reduceAdd, Nat.reduceLeDiff, Nat.reduceLT, Nat.reduceMul, Int.reduceAdd, Int.reduceSub, Int.reduceMul, Int.reduceNeg, Int.reduceLT, Int.reduceLE, Int.reduceEq, Int.reduceToNat, eq_self, true_and, and_true, true_or, or_true, false_or, or_false, if_true, if_false, not_true_eq_false, not_false_eq_true, and_self, ne_eq, hM, t2, h8]
    (repeat' (first | apply And.intro | split)) <;> first | omega | exact hQ
theorem txM_8 {v : Int} (hT : txM g M L) : txM (setRow g M (upd1 (g M) 8 v)) M L := by
  obtain ⟨t1, t2, t3⟩ := hT
  refine ⟨t1, by rw [row_s, upd_n (by omega)]; exact t2, fun j hj => ?_⟩
  rw [row_n (by unfold ad; omega)]
  exact t3 j hj
theorem overSpaces_loop (hM : isMd ρ M) (hT : txM g M L) :
    ∀ (d p : Nat), L - p = d → p ≤ L → Q none (setRow g M (upd1 (g M) 8 (skp (g (ad M 4)) L p : Nat)), ρ) → Wp zt 133 (P 133 0) [some (AR M)] [] (setRow g M (upd1 (g M) 8 p), ρ) Q := by
  have z4 : setRow g M (upd1 (g M) 8 0) (ad M 4) = g (ad M 4) := row_n (by unfold ad; omega)
  have hh := fun p hp => here_ok (zt := zt) (g := setRow g M (upd1 (g M) 8 (p : Nat))) (ρ := ρ) hM (txM_8 hT) (p := p) hp (by rw [row_s, upd_s])
  have er : ∀ v : Int, setRow g M (upd1 (g M) 8 v) (ad M 4) = g (ad M 4) := fun v => row_n (by unfold ad; omega)
  simp only [er] at hh
  intro d
  induction d with
  | zero =>
    intro p hd hp hQ
    rw [skp_n (by omega)] at hQ
    have h1 := hh p hp
    rw [if_neg (by omega)] at h1
    rw [P_M_overSpaces_0]
    simp only [m_M_overSpaces, b_M_overSpaces_0, P_M_overSpaces_22, b_M_overSpaces_22, wp_aln0, wp_bipush, wp_cv1, wp_cv2, wp_cv3, wp_cv4, wp_cv5, wp_cv6, wp_cv7, wp_dup, wp_goto, wp_iadd, wp_icne, wp_iconst, wp_ret, qmd_kd, qmd_k1, qmd_l1, qmd_gf0, qmd_k2, qmd_l2, qmd_gf1, qmd_k3, qmd_l3, qmd_gf2, qmd_k4, qmd_l4, qmd_gf4, qmd_k5, qmd_l5, qmd_gf6, qmd_k6, qmd_l6, qmd_gf7, qmd_k7, qmd_l7, qmd_gf10, qmd_k8, qmd_l8, qmd_gf11, qmd_k9, qmd_l9, qmd_gf12, qmd_gf3, qmd_pf3, qmd_gf5, qmd_pf5, qmd_gf8, qmd_pf8, qmd_gf9, qmd_pf9, wrI_row, cpI_row, row_s, row_n, row_ss, row_sw, upd_s, upd_n, ad_inj, ad_z, ad_z2, Nat.reduceEqDiff, reduceCtorEq, List.cons_append, List.nil_append, Option.toList_some, Option.toList_none, Int.toNat_natCast, List.length_cons, List.length_nil, Int.cast_ofNat_Int, Nat.reduceAdd, Nat.reduceLeDiff, Nat.reduceLT, Nat.reduceMul, Int.reduceAdd, Int.reduceSub, Int.reduceMul, Int.reduceNeg, Int.reduceLT, Int.reduceLE, Int.reduceEq, Int.reduceToNat, eq_self, true_and, and_true, true_or, or_true, false_or, or_false, if_true, if_false, not_true_eq_false, not_false_eq_true, and_self, ne_eq, hM, h1]
    (repeat' (first | apply And.intro | split)) <;> first | omega | exact hQ
  | succ d ih =>
    intro p hd hp hQ
    have h1 := hh p hp
    have bt := hT.2.2 p (by omega)
    rw [if_pos (by omega)] at h1
    by_cases e : g (ad M 4) p = 32
    · rw [skp_y (by omega) e] at hQ
      have i1 := ih (p + 1) (by omega) (by omega) hQ
      rw [e] at h1
      rw [P_M_overSpaces_0]
      simp only [m_M_overSpaces, b_M_overSpaces_0, P_M_overSpaces_22, b_M_overSpaces_22, wp_aln0, wp_bipush, wp_cv1, wp_cv2, wp_cv3, wp_cv4, wp_cv5, wp_cv6, wp_cv7, wp_dup, wp_goto, wp_iadd, wp_icne, wp_iconst, wp_ret, qmd_kd, qmd_k1, qmd_l1, qmd_gf0, qmd_k2, qmd_l2, qmd_gf1, qmd_k3, qmd_l3, qmd_gf2, qmd_k4, qmd_l4, qmd_gf4, qmd_k5, qmd_l5, qmd_gf6, qmd_k6, qmd_l6, qmd_gf7, qmd_k7, qmd_l7, qmd_gf10, qmd_k8, qmd_l8, qmd_gf11, qmd_k9, qmd_l9, qmd_gf12, qmd_gf3, qmd_pf3, qmd_gf5, qmd_pf5, qmd_gf8, qmd_pf8, qmd_gf9, qmd_pf9, wrI_row, cpI_row, row_s, row_n, row_ss, row_sw, upd_s, upd_n, ad_inj, ad_z, ad_z2, Nat.reduceEqDiff, reduceCtorEq, List.cons_append, List.nil_append, Option.toList_some, Option.toList_none, Int.toNat_natCast, List.length_cons, List.length_nil, Int.cast_ofNat_Int, Nat.reduceAdd, Nat.reduceLeDiff, Nat.reduceLT, Nat.reduceMul, Int.reduceAdd, Int.reduceSub, Int.reduceMul, Int.reduceNeg, Int.reduceLT, Int.reduceLE, Int.reduceEq, Int.reduceToNat, eq_self, true_and, and_true, true_or, or_true, false_or, or_false, if_true, if_false, not_true_eq_false, not_false_eq_true, and_self, ne_eq, hM, h1, upd_u]
      (repeat' (first | apply And.intro | split)) <;> first | omega | exact i1
    · rw [skp_n (fun q => e q.2)] at hQ
      rw [P_M_overSpaces_0]
      simp only [m_M_overSpaces, b_M_overSpaces_0, P_M_overSpaces_22, b_M_overSpaces_22, wp_aln0, wp_bipush, wp_cv1, wp_cv2, wp_cv3, wp_cv4, wp_cv5, wp_cv6, wp_cv7, wp_dup, wp_goto, wp_iadd, wp_icne, wp_iconst, wp_ret, qmd_kd, qmd_k1, qmd_l1, qmd_gf0, qmd_k2, qmd_l2, qmd_gf1, qmd_k3, qmd_l3, qmd_gf2, qmd_k4, qmd_l4, qmd_gf4, qmd_k5, qmd_l5, qmd_gf6, qmd_k6, qmd_l6, qmd_gf7, qmd_k7, qmd_l7, qmd_gf10, qmd_k8, qmd_l8, qmd_gf11, qmd_k9, qmd_l9, qmd_gf12, qmd_gf3, qmd_pf3, qmd_gf5, qmd_pf5, qmd_gf8, qmd_pf8, qmd_gf9, qmd_pf9, wrI_row, cpI_row, row_s, row_n, row_ss, row_sw, upd_s, upd_n, ad_inj, ad_z, ad_z2, Nat.reduceEqDiff, reduceCtorEq, List.cons_append, List.nil_append, Option.toList_some, Option.toList_none, Int.toNat_natCast, List.length_cons, List.length_nil, Int.cast_ofNat_Int, Nat.reduceAdd, Nat.reduceLeDiff, Nat.reduceLT, Nat.reduceMul, Int.reduceAdd, Int.reduceSub, Int.reduceMul, Int.reduceNeg, Int.reduceLT, Int.reduceLE, Int.reduceEq, Int.reduceToNat, eq_self, true_and, and_true, true_or, or_true, false_or, or_false, if_true, if_false, not_true_eq_false, not_false_eq_true, and_self, ne_eq, hM, h1, e]
      (repeat' (first | apply And.intro | split)) <;> first | omega | exact hQ
theorem overSpaces_ok (hM : isMd ρ M) (hT : txM g M L) {p : Nat} (hp : p ≤ L) (h8 : g M 8 = p) (Q : Option AV → Sto → Prop) : WpM zt 133 [AR M] (g, ρ) Q ↔ Q none (setRow g M (upd1 (g M) 8 (skp (g (ad M 4)) L p : Nat)), ρ) := by
  refine wpm_iff (fun Q hQ => ?_) Q
  have k1 := overSpaces_loop (zt := zt) hM hT (L - p) p rfl hp hQ
  have e : upd1 (g M) 8 p = g M := by
    funext y
    unfold upd1
    split
    next c => rw [c, h8]
    next c => rfl
  rw [e, row_id] at k1
  exact k1
theorem upd_c {R : Nat → Int} {v w : Int} : upd1 (upd1 R 8 w) 9 v = upd1 (upd1 R 9 v) 8 w := by
  funext y
  unfold upd1
  by_cases h9 : y = 9
  · subst h9
    simp
  · by_cases h8 : y = 8
    · subst h8
      simp
    · simp [h9, h8]
theorem digits_loop (hM : isMd ρ M) (hT : txM g M L) {lo hi : Int} {st : Nat} {o4 : Option AV}
    (hQ : Wp zt 134 (P 134 77) [some (AR M), some (AI lo), some (AI hi), some (AI st), o4] [] (setRow g M (upd1 (upd1 (g M) 9 (nuM (g (ad M 4)) L (L - st) st 0).2) 8 (nuM (g (ad M 4)) L (L - st) st 0).1), ρ) Q) :
    ∀ (d p : Nat) (v : Int), L - p = d → p ≤ L → 0 ≤ v ∧ v ≤ 9999 → nuM (g (ad M 4)) L (L - p) p v = nuM (g (ad M 4)) L (L - st) st 0 → Wp zt 134 (P 134 14) [some (AR M), some (AI lo), some (AI hi), some (AI st), o4] [] (setRow g M (upd1 (upd1 (g M) 9 v) 8 p), ρ) Q := by
  have er : ∀ R, setRow g M R (ad M 4) = g (ad M 4) := fun R => row_n (by unfold ad; omega)
  have hT2 : ∀ v w : Int, txM (setRow g M (upd1 (upd1 (g M) 9 v) 8 w)) M L := fun v w => by
    obtain ⟨t1, t2, t3⟩ := hT
    refine ⟨t1, by rw [row_s, upd_n (by omega), upd_n (by omega)]; exact t2, fun j hj => ?_⟩
    rw [er]
    exact t3 j hj
  have hh := fun (v : Int) p hp => here_ok (zt := zt) (g := setRow g M (upd1 (upd1 (g M) 9 v) 8 (p : Nat))) (ρ := ρ) hM (hT2 v p) (p := p) hp (by rw [row_s, upd_s])
  simp only [er] at hh
  intro d
  induction d with
  | zero =>
    intro p v hd hp hv he
    rw [nuM_n (by omega)] at he
    rw [← he] at hQ
    have h1 := hh v p hp
    rw [if_neg (by omega)] at h1
    have hin := fun Q => in_f (zt := zt) (g := setRow g M (upd1 (upd1 (g M) 9 v) 8 p)) (ρ := ρ) (v := 0) (lo := 48) (hi := 57) (by unfold i32; omega) (by omega) (by omega) (by omega) Q
    rw [P_M_readNumber_14]
    simp only [m_M_readNumber, b_M_readNumber_0, P_M_readNumber_46, b_M_readNumber_46, P_M_readNumber_61, b_M_readNumber_61, P_M_readNumber_118, b_M_readNumber_118, P_M_readNumber_122, b_M_readNumber_122, P_M_readNumber_123, b_M_readNumber_123, P_M_readNumber_138, b_M_readNumber_138, P_M_readNumber_139, b_M_readNumber_139, wp_abs, wp_aln0, wp_bipush, wp_copy, wp_cs1, wp_cs2, wp_cs3, wp_cs4, wp_cs5, wp_cs6, wp_cs7, wp_cv1, wp_cv2, wp_cv3, wp_cv4, wp_cv5, wp_cv6, wp_cv7, wp_dup, wp_goto, wp_iadd, wp_iald, wp_icle, wp_icne, wp_iconst, wp_il4, wp_iln1, wp_iln2, wp_iln3, wp_imul, wp_iret, wp_is4, wp_isn3, wp_isub, wp_izeq, wp_max, wp_min, wp_nop, wp_sipush, wp_zret, qmd_kd, qmd_k1, qmd_l1, qmd_gf0, qmd_k2, qmd_l2, qmd_gf1, qmd_k3, qmd_l3, qmd_gf2, qmd_k4, qmd_l4, qmd_gf4, qmd_k5, qmd_l5, qmd_gf6, qmd_k6, qmd_l6, qmd_gf7, qmd_k7, qmd_l7, qmd_gf10, qmd_k8, qmd_l8, qmd_gf11, qmd_k9, qmd_l9, qmd_gf12, qmd_gf3, qmd_pf3, qmd_gf5, qmd_pf5, qmd_gf8, qmd_pf8, qmd_gf9, qmd_pf9, wrI_row, cpI_row, row_s, row_n, row_ss, row_sw, upd_s, upd_n, ad_inj, ad_z, ad_z2, Nat.reduceEqDiff, reduceCtorEq, List.cons_append, List.nil_append, Option.toList_some, Option.toList_none, Int.toNat_natCast, List.length_cons, List.length_nil, Int.cast_ofNat_Int, Nat.reduceAdd, Nat.reduceLeDiff, Nat.reduceLT, Nat.reduceMul, Int.reduceAdd, Int.reduceSub, Int.reduceMul, Int.reduceNeg, Int.reduceLT, Int.reduceLE, Int.reduceEq, Int.reduceToNat, eq_self, true_and, and_true, true_or, or_true, false_or, or_false, if_true, if_false, not_true_eq_false, not_false_eq_true, and_self, ne_eq, b_M_readNumber_14, hM, h1, hin]
    (repeat' (first | apply And.intro | split)) <;> first | omega | exact hQ
  | succ d ih =>
    intro p v hd hp hv he
    have h1 := hh v p hp
    have bt := hT.2.2 p (by omega)
    rw [if_pos (by omega)] at h1
    by_cases e : dgt (g (ad M 4) p) = true
    · have hd2 := dgt_i.1 e
      have hin := fun Q => in_t (zt := zt) (g := setRow g M (upd1 (upd1 (g M) 9 v) 8 p)) (ρ := ρ) (v := g (ad M 4) p) (lo := 48) (hi := 57) (by omega) (by omega) hd2 Q
      rw [nuM_y (by omega) e] at he
      by_cases c : 999 < v
      · rw [if_pos c] at he
        have i1 := ih (p + 1) v (by omega) (by omega) hv he
        have c' : ¬ v ≤ 999 := by omega
        rw [P_M_readNumber_14]
        simp only [m_M_readNumber, b_M_readNumber_0, P_M_readNumber_46, b_M_readNumber_46, P_M_readNumber_61, b_M_readNumber_61, P_M_readNumber_118, b_M_readNumber_118, P_M_readNumber_122, b_M_readNumber_122, P_M_readNumber_123, b_M_readNumber_123, P_M_readNumber_138, b_M_readNumber_138, P_M_readNumber_139, b_M_readNumber_139, wp_abs, wp_aln0, wp_bipush, wp_copy, wp_cs1, wp_cs2, wp_cs3, wp_cs4, wp_cs5, wp_cs6, wp_cs7, wp_cv1, wp_cv2, wp_cv3, wp_cv4, wp_cv5, wp_cv6, wp_cv7, wp_dup, wp_goto, wp_iadd, wp_iald, wp_icle, wp_icne, wp_iconst, wp_il4, wp_iln1, wp_iln2, wp_iln3, wp_imul, wp_iret, wp_is4, wp_isn3, wp_isub, wp_izeq, wp_max, wp_min, wp_nop, wp_sipush, wp_zret, qmd_kd, qmd_k1, qmd_l1, qmd_gf0, qmd_k2, qmd_l2, qmd_gf1, qmd_k3, qmd_l3, qmd_gf2, qmd_k4, qmd_l4, qmd_gf4, qmd_k5, qmd_l5, qmd_gf6, qmd_k6, qmd_l6, qmd_gf7, qmd_k7, qmd_l7, qmd_gf10, qmd_k8, qmd_l8, qmd_gf11, qmd_k9, qmd_l9, qmd_gf12, qmd_gf3, qmd_pf3, qmd_gf5, qmd_pf5, qmd_gf8, qmd_pf8, qmd_gf9, qmd_pf9, wrI_row, cpI_row, row_s, row_n, row_ss, row_sw, upd_s, upd_n, ad_inj, ad_z, ad_z2, Nat.reduceEqDiff, reduceCtorEq, List.cons_append, List.nil_append, Option.toList_some, Option.toList_none, Int.toNat_natCast, List.length_cons, List.length_nil, Int.cast_ofNat_Int, Nat.reduceAdd, Nat.reduceLeDiff, Nat.reduceLT, Nat.reduceMul, Int.reduceAdd, Int.reduceSub, Int.reduceMul, Int.reduceNeg, Int.reduceLT, Int.reduceLE, Int.reduceEq, Int.reduceToNat, eq_self, true_and, and_true, true_or, or_true, false_or, or_false, if_true, if_false, not_true_eq_false, not_false_eq_true, and_self, ne_eq, b_M_readNumber_14, hM, h1, hin, upd_c, upd_u, c']
        (repeat' (first | apply And.intro | split)) <;> first | omega | exact i1
      · rw [if_neg c] at he
        have i1 := ih (p + 1) (10 * v + g (ad M 4) p - 48) (by omega) (by omega) (by omega) he
        have c' : v ≤ 999 := by omega
        rw [P_M_readNumber_14]
        simp only [m_M_readNumber, b_M_readNumber_0, P_M_readNumber_46, b_M_readNumber_46, P_M_readNumber_61, b_M_readNumber_61, P_M_readNumber_118, b_M_readNumber_118, P_M_readNumber_122, b_M_readNumber_122, P_M_readNumber_123, b_M_readNumber_123, P_M_readNumber_138, b_M_readNumber_138, P_M_readNumber_139, b_M_readNumber_139, wp_abs, wp_aln0, wp_bipush, wp_copy, wp_cs1, wp_cs2, wp_cs3, wp_cs4, wp_cs5, wp_cs6, wp_cs7, wp_cv1, wp_cv2, wp_cv3, wp_cv4, wp_cv5, wp_cv6, wp_cv7, wp_dup, wp_goto, wp_iadd, wp_iald, wp_icle, wp_icne, wp_iconst, wp_il4, wp_iln1, wp_iln2, wp_iln3, wp_imul, wp_iret, wp_is4, wp_isn3, wp_isub, wp_izeq, wp_max, wp_min, wp_nop, wp_sipush, wp_zret, qmd_kd, qmd_k1, qmd_l1, qmd_gf0, qmd_k2, qmd_l2, qmd_gf1, qmd_k3, qmd_l3, qmd_gf2, qmd_k4, qmd_l4, qmd_gf4, qmd_k5, qmd_l5, qmd_gf6, qmd_k6, qmd_l6, qmd_gf7, qmd_k7, qmd_l7, qmd_gf10, qmd_k8, qmd_l8, qmd_gf11, qmd_k9, qmd_l9, qmd_gf12, qmd_gf3, qmd_pf3, qmd_gf5, qmd_pf5, qmd_gf8, qmd_pf8, qmd_gf9, qmd_pf9, wrI_row, cpI_row, row_s, row_n, row_ss, row_sw, upd_s, upd_n, ad_inj, ad_z, ad_z2, Nat.reduceEqDiff, reduceCtorEq, List.cons_append, List.nil_append, Option.toList_some, Option.toList_none, Int.toNat_natCast, List.length_cons, List.length_nil, Int.cast_ofNat_Int, Nat.reduceAdd, Nat.reduceLeDiff, Nat.reduceLT, Nat.reduceMul, Int.reduceAdd, Int.reduceSub, Int.reduceMul, Int.reduceNeg, Int.reduceLT, Int.reduceLE, Int.reduceEq, Int.reduceToNat, eq_self, true_and, and_true, true_or, or_true, false_or, or_false, if_true, if_false, not_true_eq_false, not_false_eq_true, and_self, ne_eq, b_M_readNumber_14, hM, h1, hin, upd_c, upd_u, c']
        (repeat' (first | apply And.intro | split)) <;> first | omega | exact i1
    · have hd2 : ¬ (48 ≤ g (ad M 4) p ∧ g (ad M 4) p ≤ 57) := fun z => e (dgt_i.2 z)
      have hin := fun Q => in_f (zt := zt) (g := setRow g M (upd1 (upd1 (g M) 9 v) 8 p)) (ρ := ρ) (v := g (ad M 4) p) (lo := 48) (hi := 57) (by unfold i32; omega) (by omega) (by omega) hd2 Q
      rw [nuM_n (fun z => e z.2)] at he
      rw [← he] at hQ
      rw [P_M_readNumber_14]
      simp only [m_M_readNumber, b_M_readNumber_0, P_M_readNumber_46, b_M_readNumber_46, P_M_readNumber_61, b_M_readNumber_61, P_M_readNumber_118, b_M_readNumber_118, P_M_readNumber_122, b_M_readNumber_122, P_M_readNumber_123, b_M_readNumber_123, P_M_readNumber_138, b_M_readNumber_138, P_M_readNumber_139, b_M_readNumber_139, wp_abs, wp_aln0, wp_bipush, wp_copy, wp_cs1, wp_cs2, wp_cs3, wp_cs4, wp_cs5, wp_cs6, wp_cs7, wp_cv1, wp_cv2, wp_cv3, wp_cv4, wp_cv5, wp_cv6, wp_cv7, wp_dup, wp_goto, wp_iadd, wp_iald, wp_icle, wp_icne, wp_iconst, wp_il4, wp_iln1, wp_iln2, wp_iln3, wp_imul, wp_iret, wp_is4, wp_isn3, wp_isub, wp_izeq, wp_max, wp_min, wp_nop, wp_sipush, wp_zret, qmd_kd, qmd_k1, qmd_l1, qmd_gf0, qmd_k2, qmd_l2, qmd_gf1, qmd_k3, qmd_l3, qmd_gf2, qmd_k4, qmd_l4, qmd_gf4, qmd_k5, qmd_l5, qmd_gf6, qmd_k6, qmd_l6, qmd_gf7, qmd_k7, qmd_l7, qmd_gf10, qmd_k8, qmd_l8, qmd_gf11, qmd_k9, qmd_l9, qmd_gf12, qmd_gf3, qmd_pf3, qmd_gf5, qmd_pf5, qmd_gf8, qmd_pf8, qmd_gf9, qmd_pf9, wrI_row, cpI_row, row_s, row_n, row_ss, row_sw, upd_s, upd_n, ad_inj, ad_z, ad_z2, Nat.reduceEqDiff, reduceCtorEq, List.cons_append, List.nil_append, Option.toList_some, Option.toList_none, Int.toNat_natCast, List.length_cons, List.length_nil, Int.cast_ofNat_Int, Nat.reduceAdd, Nat.reduceLeDiff, Nat.reduceLT, Nat.reduceMul, Int.reduceAdd, Int.reduceSub, Int.reduceMul, Int.reduceNeg, Int.reduceLT, Int.reduceLE, Int.reduceEq, Int.reduceToNat, eq_self, true_and, and_true, true_or, or_true, false_or, or_false, if_true, if_false, not_true_eq_false, not_false_eq_true, and_self, ne_eq, b_M_readNumber_14, hM, h1, hin]
      (repeat' (first | apply And.intro | split)) <;> first | omega | exact hQ
/-- where only the reading's place and number may differ -/
def rdE (g : Nat → Nat → Int) (M : Nat) (g' : Nat → Nat → Int) : Prop := (∀ x, x ≠ M → g' x = g x) ∧ ∀ k, k ≠ 8 → k ≠ 9 → g' M k = g M k
theorem rdE_up {x v : Int} : rdE g M (setRow g M (upd1 (upd1 (g M) 9 v) 8 x)) := ⟨fun y z => row_n z, fun k z1 z2 => by rw [row_s, upd_n z1, upd_n z2]⟩
theorem readNumber_okM (hM : isMd ρ M) (hT : txM g M L) {p : Nat} (hp : p ≤ L) (h8 : g M 8 = p) {lo hi : Int} (hlo : 0 ≤ lo ∧ lo ≤ 1) (hhi : -1000 ≤ hi ∧ hi ≤ 99)
    (hB : bad (g (ad M 4)) L lo hi (skp (g (ad M 4)) L p) = true → ∀ g' : Nat → Nat → Int, rdE g M g' → g' M 8 = (skp (g (ad M 4)) L p : Nat) → Q (some (AI 0)) (g', ρ))
    (hG : bad (g (ad M 4)) L lo hi (skp (g (ad M 4)) L p) = false → ∀ g' : Nat → Nat → Int, rdE g M g' → g' M 8 = (num (g (ad M 4)) L (skp (g (ad M 4)) L p)).1 → g' M 9 = (num (g (ad M 4)) L (skp (g (ad M 4)) L p)).2 → Q (some (AI 1)) (g', ρ)) : WpM zt 134 [AR M, AI lo, AI hi] (g, ρ) Q := by
  have os := overSpaces_ok (zt := zt) hM hT hp h8
  have sb := skp_b (T := g (ad M 4)) hp
  obtain ⟨T, hTe⟩ : ∃ T, T = g (ad M 4) := ⟨_, rfl⟩
  obtain ⟨st, hst⟩ : ∃ st, st = skp T L p := ⟨_, rfl⟩
  rw [← hTe] at os sb hB hG
  rw [← hst] at os sb hB hG
  have hL := hT.1
  have er : ∀ R, setRow g M R (ad M 4) = T := fun R => by rw [row_n (by unfold ad; omega), hTe]
  have nf := nuM_nuF (T := T) (L := L) (L - st) st 0 (by omega)
  have nb := num_b (T := T) (L := L) (p := st) sb.2
  have nv := nuM_b (T := T) (L := L) (L - st) st 0 (by omega)
  rw [show min 1000 (0 : Int) = 0 by omega] at nf
  change (nuM T L (L - st) st 0).1 = (num T L st).1 ∧ min 1000 (nuM T L (L - st) st 0).2 = (num T L st).2 ∧ _ at nf
  have bi := bad_i (T := T) (L := L) (lo := lo) (hi := hi) (st := st)
  have hb2 : bad T L lo hi st = false ↔ ¬ (bad T L lo hi st = true) := by
    cases bad T L lo hi st <;> simp
  rw [hb2] at hG
  rw [bi] at hB hG
  have k77 : Wp zt 134 (P 134 77) [some (AR M), some (AI lo), some (AI hi), some (AI st), none] [] (setRow g M (upd1 (upd1 (g M) 9 (nuM T L (L - st) st 0).2) 8 (nuM T L (L - st) st 0).1), ρ) Q := by
    rw [nf.1]
    obtain ⟨V, hV⟩ : ∃ V, V = (nuM T L (L - st) st 0).2 := ⟨_, rfl⟩
    obtain ⟨E, hE⟩ : ∃ E, E = (num T L st).1 := ⟨_, rfl⟩
    obtain ⟨N, hN⟩ : ∃ N, N = (num T L st).2 := ⟨_, rfl⟩
    rw [← hV, ← hN] at nf
    rw [← hV] at nv ⊢
    rw [← hE, ← hN] at nb hB hG
    rw [← hE]
    have nf2 := nf.2.1
    clear nf hV hE hN bi hb2
    have fB : (E = st ∨ (st + 1 < E ∧ T st = 48) ∨ N < lo ∨ hi < N) → Q (some (AI 0)) (setRow g M (upd1 (upd1 (g M) 9 V) 8 st), ρ) := fun z => hB z _ rdE_up (by rw [row_s, upd_s])
    have fG : ¬ (E = st ∨ (st + 1 < E ∧ T st = 48) ∨ N < lo ∨ hi < N) → Q (some (AI 1)) (setRow g M (upd1 (upd1 (g M) 9 V) 8 E), ρ) := fun z => hG z _ rdE_up (by rw [row_s, upd_s]) (by rw [row_s, upd_n (by omega), upd_s]; omega)
    by_cases c1 : E = st
    · have q := fB (Or.inl c1)
      have c1' : (E : Int) ≤ (st : Int) := by omega
      rw [P_M_readNumber_77]
      simp only [m_M_readNumber, b_M_readNumber_0, P_M_readNumber_46, b_M_readNumber_46, P_M_readNumber_61, b_M_readNumber_61, P_M_readNumber_118, b_M_readNumber_118, P_M_readNumber_122, b_M_readNumber_122, P_M_readNumber_123, b_M_readNumber_123, P_M_readNumber_138, b_M_readNumber_138, P_M_readNumber_139, b_M_readNumber_139, wp_abs, wp_aln0, wp_bipush, wp_copy, wp_cs1, wp_cs2, wp_cs3, wp_cs4, wp_cs5, wp_cs6, wp_cs7, wp_cv1, wp_cv2, wp_cv3, wp_cv4, wp_cv5, wp_cv6, wp_cv7, wp_dup, wp_goto, wp_iadd, wp_iald, wp_icle, wp_icne, wp_iconst, wp_il4, wp_iln1, wp_iln2, wp_iln3, wp_imul, wp_iret, wp_is4, wp_isn3, wp_isub, wp_izeq, wp_max, wp_min, wp_nop, wp_sipush, wp_zret, qmd_kd, qmd_k1, qmd_l1, qmd_gf0, qmd_k2, qmd_l2, qmd_gf1, qmd_k3, qmd_l3, qmd_gf2, qmd_k4, qmd_l4, qmd_gf4, qmd_k5, qmd_l5, qmd_gf6, qmd_k6, qmd_l6, qmd_gf7, qmd_k7, qmd_l7, qmd_gf10, qmd_k8, qmd_l8, qmd_gf11, qmd_k9, qmd_l9, qmd_gf12, qmd_gf3, qmd_pf3, qmd_gf5, qmd_pf5, qmd_gf8, qmd_pf8, qmd_gf9, qmd_pf9, wrI_row, cpI_row, row_s, row_n, row_ss, row_sw, upd_s, upd_n, ad_inj, ad_z, ad_z2, Nat.reduceEqDiff, reduceCtorEq, List.cons_append, List.nil_append, Option.toList_some, Option.toList_none, Int.toNat_natCast, List.length_cons, List.length_nil, Int.cast_ofNat_Int, Nat.reduceAdd, Nat.reduceLeDiff, Nat.reduceLT, Nat.reduceMul, Int.reduceAdd, Int.reduceSub, Int.reduceMul, Int.reduceNeg, Int.reduceLT, Int.reduceLE, Int.reduceEq, Int.reduceToNat, eq_self, true_and, and_true, true_or, or_true, false_or, or_false, if_true, if_false, not_true_eq_false, not_false_eq_true, and_self, ne_eq, b_M_readNumber_77, hM, upd_u, c1']
      (repeat' (first | apply And.intro | split)) <;> first | omega | exact q
    · have c1' : ¬ (E : Int) ≤ (st : Int) := by omega
      by_cases c2 : lo ≤ V ∧ V ≤ hi
      · have hin := fun Q => in_t (zt := zt) (g := setRow g M (upd1 (upd1 (g M) 9 V) 8 E)) (ρ := ρ) (v := V) (lo := lo) (hi := hi) (by omega) (by omega) c2 Q
        have bt := hT.2.2 st (by omega)
        rw [← hTe] at bt
        by_cases c3 : T st = 48
        · by_cases c4 : E = st + 1
          · have q := fG (by omega)
            have c4' : (E : Int) = (st : Int) + 1 := by omega
            rw [P_M_readNumber_77]
            simp only [m_M_readNumber, b_M_readNumber_0, P_M_readNumber_46, b_M_readNumber_46, P_M_readNumber_61, b_M_readNumber_61, P_M_readNumber_118, b_M_readNumber_118, P_M_readNumber_122, b_M_readNumber_122, P_M_readNumber_123, b_M_readNumber_123, P_M_readNumber_138, b_M_readNumber_138, P_M_readNumber_139, b_M_readNumber_139, wp_abs, wp_aln0, wp_bipush, wp_copy, wp_cs1, wp_cs2, wp_cs3, wp_cs4, wp_cs5, wp_cs6, wp_cs7, wp_cv1, wp_cv2, wp_cv3, wp_cv4, wp_cv5, wp_cv6, wp_cv7, wp_dup, wp_goto, wp_iadd, wp_iald, wp_icle, wp_icne, wp_iconst, wp_il4, wp_iln1, wp_iln2, wp_iln3, wp_imul, wp_iret, wp_is4, wp_isn3, wp_isub, wp_izeq, wp_max, wp_min, wp_nop, wp_sipush, wp_zret, qmd_kd, qmd_k1, qmd_l1, qmd_gf0, qmd_k2, qmd_l2, qmd_gf1, qmd_k3, qmd_l3, qmd_gf2, qmd_k4, qmd_l4, qmd_gf4, qmd_k5, qmd_l5, qmd_gf6, qmd_k6, qmd_l6, qmd_gf7, qmd_k7, qmd_l7, qmd_gf10, qmd_k8, qmd_l8, qmd_gf11, qmd_k9, qmd_l9, qmd_gf12, qmd_gf3, qmd_pf3, qmd_gf5, qmd_pf5, qmd_gf8, qmd_pf8, qmd_gf9, qmd_pf9, wrI_row, cpI_row, row_s, row_n, row_ss, row_sw, upd_s, upd_n, ad_inj, ad_z, ad_z2, Nat.reduceEqDiff, reduceCtorEq, List.cons_append, List.nil_append, Option.toList_some, Option.toList_none, Int.toNat_natCast, List.length_cons, List.length_nil, Int.cast_ofNat_Int, Nat.reduceAdd, Nat.reduceLeDiff, Nat.reduceLT, Nat.reduceMul, Int.reduceAdd, Int.reduceSub, Int.reduceMul, Int.reduceNeg, Int.reduceLT, Int.reduceLE, Int.reduceEq, Int.reduceToNat, eq_self, true_and, and_true, true_or, or_true, false_or, or_false, if_true, if_false, not_true_eq_false, not_false_eq_true, and_self, ne_eq, b_M_readNumber_77, hM, upd_u, c1', hin, er, ← hTe, c3]
            (repeat' (first | apply And.intro | split)) <;> first | omega | exact q
          · have q := fB (Or.inr (Or.inl ⟨by omega, c3⟩))
            have c4' : ¬ (E : Int) = (st : Int) + 1 := by omega
            rw [P_M_readNumber_77]
            simp only [m_M_readNumber, b_M_readNumber_0, P_M_readNumber_46, b_M_readNumber_46, P_M_readNumber_61, b_M_readNumber_61, P_M_readNumber_118, b_M_readNumber_118, P_M_readNumber_122, b_M_readNumber_122, P_M_readNumber_123, b_M_readNumber_123, P_M_readNumber_138, b_M_readNumber_138, P_M_readNumber_139, b_M_readNumber_139, wp_abs, wp_aln0, wp_bipush, wp_copy, wp_cs1, wp_cs2, wp_cs3, wp_cs4, wp_cs5, wp_cs6, wp_cs7, wp_cv1, wp_cv2, wp_cv3, wp_cv4, wp_cv5, wp_cv6, wp_cv7, wp_dup, wp_goto, wp_iadd, wp_iald, wp_icle, wp_icne, wp_iconst, wp_il4, wp_iln1, wp_iln2, wp_iln3, wp_imul, wp_iret, wp_is4, wp_isn3, wp_isub, wp_izeq, wp_max, wp_min, wp_nop, wp_sipush, wp_zret, qmd_kd, qmd_k1, qmd_l1, qmd_gf0, qmd_k2, qmd_l2, qmd_gf1, qmd_k3, qmd_l3, qmd_gf2, qmd_k4, qmd_l4, qmd_gf4, qmd_k5, qmd_l5, qmd_gf6, qmd_k6, qmd_l6, qmd_gf7, qmd_k7, qmd_l7, qmd_gf10, qmd_k8, qmd_l8, qmd_gf11, qmd_k9, qmd_l9, qmd_gf12, qmd_gf3, qmd_pf3, qmd_gf5, qmd_pf5, qmd_gf8, qmd_pf8, qmd_gf9, qmd_pf9, wrI_row, cpI_row, row_s, row_n, row_ss, row_sw, upd_s, upd_n, ad_inj, ad_z, ad_z2, Nat.reduceEqDiff, reduceCtorEq, List.cons_append, List.nil_append, Option.toList_some, Option.toList_none, Int.toNat_natCast, List.length_cons, List.length_nil, Int.cast_ofNat_Int, Nat.reduceAdd, Nat.reduceLeDiff, Nat.reduceLT, Nat.reduceMul, Int.reduceAdd, Int.reduceSub, Int.reduceMul, Int.reduceNeg, Int.reduceLT, Int.reduceLE, Int.reduceEq, Int.reduceToNat, eq_self, true_and, and_true, true_or, or_true, false_or, or_false, if_true, if_false, not_true_eq_false, not_false_eq_true, and_self, ne_eq, b_M_readNumber_77, hM, upd_u, c1', hin, er, ← hTe, c3, c4']
            (repeat' (first | apply And.intro | split)) <;> first | omega | exact q
        · have q := fG (by omega)
          rw [P_M_readNumber_77]
          simp only [m_M_readNumber, b_M_readNumber_0, P_M_readNumber_46, b_M_readNumber_46, P_M_readNumber_61, b_M_readNumber_61, P_M_readNumber_118, b_M_readNumber_118, P_M_readNumber_122, b_M_readNumber_122, P_M_readNumber_123, b_M_readNumber_123, P_M_readNumber_138, b_M_readNumber_138, P_M_readNumber_139, b_M_readNumber_139, wp_abs, wp_aln0, wp_bipush, wp_copy, wp_cs1, wp_cs2, wp_cs3, wp_cs4, wp_cs5, wp_cs6, wp_cs7, wp_cv1, wp_cv2, wp_cv3, wp_cv4, wp_cv5, wp_cv6, wp_cv7, wp_dup, wp_goto, wp_iadd, wp_iald, wp_icle, wp_icne, wp_iconst, wp_il4, wp_iln1, wp_iln2, wp_iln3, wp_imul, wp_iret, wp_is4, wp_isn3, wp_isub, wp_izeq, wp_max, wp_min, wp_nop, wp_sipush, wp_zret, qmd_kd, qmd_k1, qmd_l1, qmd_gf0, qmd_k2, qmd_l2, qmd_gf1, qmd_k3, qmd_l3, qmd_gf2, qmd_k4, qmd_l4, qmd_gf4, qmd_k5, qmd_l5, qmd_gf6, qmd_k6, qmd_l6, qmd_gf7, qmd_k7, qmd_l7, qmd_gf10, qmd_k8, qmd_l8, qmd_gf11, qmd_k9, qmd_l9, qmd_gf12, qmd_gf3, qmd_pf3, qmd_gf5, qmd_pf5, qmd_gf8, qmd_pf8, qmd_gf9, qmd_pf9, wrI_row, cpI_row, row_s, row_n, row_ss, row_sw, upd_s, upd_n, ad_inj, ad_z, ad_z2, Nat.reduceEqDiff, reduceCtorEq, List.cons_append, List.nil_append, Option.toList_some, Option.toList_none, Int.toNat_natCast, List.length_cons, List.length_nil, Int.cast_ofNat_Int, Nat.reduceAdd, Nat.reduceLeDiff, Nat.reduceLT, Nat.reduceMul, Int.reduceAdd, Int.reduceSub, Int.reduceMul, Int.reduceNeg, Int.reduceLT, Int.reduceLE, Int.reduceEq, Int.reduceToNat, eq_self, true_and, and_true, true_or, or_true, false_or, or_false, if_true, if_false, not_true_eq_false, not_false_eq_true, and_self, ne_eq, b_M_readNumber_77, hM, upd_u, c1', hin, er, ← hTe, c3]
          (repeat' (first | apply And.intro | split)) <;> first | omega | exact q
      · have hin := fun Q => in_f (zt := zt) (g := setRow g M (upd1 (upd1 (g M) 9 V) 8 E)) (ρ := ρ) (v := V) (lo := lo) (hi := hi) (by unfold i32; omega) (by omega) (by omega) c2 Q
        have q := fB (by omega)
        rw [P_M_readNumber_77]
        simp only [m_M_readNumber, b_M_readNumber_0, P_M_readNumber_46, b_M_readNumber_46, P_M_readNumber_61, b_M_readNumber_61, P_M_readNumber_118, b_M_readNumber_118, P_M_readNumber_122, b_M_readNumber_122, P_M_readNumber_123, b_M_readNumber_123, P_M_readNumber_138, b_M_readNumber_138, P_M_readNumber_139, b_M_readNumber_139, wp_abs, wp_aln0, wp_bipush, wp_copy, wp_cs1, wp_cs2, wp_cs3, wp_cs4, wp_cs5, wp_cs6, wp_cs7, wp_cv1, wp_cv2, wp_cv3, wp_cv4, wp_cv5, wp_cv6, wp_cv7, wp_dup, wp_goto, wp_iadd, wp_iald, wp_icle, wp_icne, wp_iconst, wp_il4, wp_iln1, wp_iln2, wp_iln3, wp_imul, wp_iret, wp_is4, wp_isn3, wp_isub, wp_izeq, wp_max, wp_min, wp_nop, wp_sipush, wp_zret, qmd_kd, qmd_k1, qmd_l1, qmd_gf0, qmd_k2, qmd_l2, qmd_gf1, qmd_k3, qmd_l3, qmd_gf2, qmd_k4, qmd_l4, qmd_gf4, qmd_k5, qmd_l5, qmd_gf6, qmd_k6, qmd_l6, qmd_gf7, qmd_k7, qmd_l7, qmd_gf10, qmd_k8, qmd_l8, qmd_gf11, qmd_k9, qmd_l9, qmd_gf12, qmd_gf3, qmd_pf3, qmd_gf5, qmd_pf5, qmd_gf8, qmd_pf8, qmd_gf9, qmd_pf9, wrI_row, cpI_row, row_s, row_n, row_ss, row_sw, upd_s, upd_n, ad_inj, ad_z, ad_z2, Nat.reduceEqDiff, reduceCtorEq, List.cons_append, List.nil_append, Option.toList_some, Option.toList_none, Int.toNat_natCast, List.length_cons, List.length_nil, Int.cast_ofNat_Int, Nat.reduceAdd, Nat.reduceLeDiff, Nat.reduceLT, Nat.reduceMul, Int.reduceAdd, Int.reduceSub, Int.reduceMul, Int.reduceNeg, Int.reduceLT, Int.reduceLE, Int.reduceEq, Int.reduceToNat, eq_self, true_and, and_true, true_or, or_true, false_or, or_false, if_true, if_false, not_true_eq_false, not_false_eq_true, and_self, ne_eq, b_M_readNumber_77, hM, upd_u, c1', hin]
        (repeat' (first | apply And.intro | split)) <;> first | omega | exact q
  have k14 := digits_loop (zt := zt) (g := g) (ρ := ρ) (lo := lo) (hi := hi) (st := st) (o4 := none) (Q := Q) hM hT (by rw [← hTe]; exact k77) (L - st) st 0 rfl sb.2 (by omega) (by rw [← hTe])
  simp only [m_M_readNumber, b_M_readNumber_0, P_M_readNumber_46, b_M_readNumber_46, P_M_readNumber_61, b_M_readNumber_61, P_M_readNumber_77, b_M_readNumber_77, P_M_readNumber_118, b_M_readNumber_118, P_M_readNumber_122, b_M_readNumber_122, P_M_readNumber_123, b_M_readNumber_123, P_M_readNumber_138, b_M_readNumber_138, P_M_readNumber_139, b_M_readNumber_139, wp_abs, wp_aln0, wp_bipush, wp_copy, wp_cs1, wp_cs2, wp_cs3, wp_cs4, wp_cs5, wp_cs6, wp_cs7, wp_cv1, wp_cv2, wp_cv3, wp_cv4, wp_cv5, wp_cv6, wp_cv7, wp_dup, wp_goto, wp_iadd, wp_iald, wp_icle, wp_icne, wp_iconst, wp_il4, wp_iln1, wp_iln2, wp_iln3, wp_imul, wp_iret, wp_is4, wp_isn3, wp_isub, wp_izeq, wp_max, wp_min, wp_nop, wp_sipush, wp_zret, qmd_kd, qmd_k1, qmd_l1, qmd_gf0, qmd_k2, qmd_l2, qmd_gf1, qmd_k3, qmd_l3, qmd_gf2, qmd_k4, qmd_l4, qmd_gf4, qmd_k5, qmd_l5, qmd_gf6, qmd_k6, qmd_l6, qmd_gf7, qmd_k7, qmd_l7, qmd_gf10, qmd_k8, qmd_l8, qmd_gf11, qmd_k9, qmd_l9, qmd_gf12, qmd_gf3, qmd_pf3, qmd_gf5, qmd_pf5, qmd_gf8, qmd_pf8, qmd_gf9, qmd_pf9, wrI_row, cpI_row, row_s, row_n, row_ss, row_sw, upd_s, upd_n, ad_inj, ad_z, ad_z2, Nat.reduceEqDiff, reduceCtorEq, List.cons_append, List.nil_append, Option.toList_some, Option.toList_none, Int.toNat_natCast, List.length_cons, List.length_nil, Int.cast_ofNat_Int, Nat.reduceAdd, Nat.reduceLeDiff, Nat.reduceLT, Nat.reduceMul, Int.reduceAdd, Int.reduceSub, Int.reduceMul, Int.reduceNeg, Int.reduceLT, Int.reduceLE, Int.reduceEq, Int.reduceToNat, eq_self, true_and, and_true, true_or, or_true, false_or, or_false, if_true, if_false, not_true_eq_false, not_false_eq_true, and_self, ne_eq, hM, os, upd_c]
  exact k14
end MLD
