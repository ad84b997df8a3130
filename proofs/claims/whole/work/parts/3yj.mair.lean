/-! air of the reference; count, breathe -/
noncomputable def fgV (U : Vw) : Nat → Int
  | 0 => 99
  | f + 1 => if airV U f + chgV U (kndV U f) < 0 ∧ fgV U f = 99 then (f : Int) else fgV U f
theorem fg_inv {U : Vw} (hU : WFV (-1) U) : ∀ f : Nat, (f : Int) ≤ U 8 0 → (fgV U f = 99 ∧ gcnV U f = 0 ∧ gsgV U f = -1) ∨ (0 ≤ fgV U f ∧ fgV U f < f ∧ 0 < gcnV U f ∧ gcnV U (fgV U f).toNat = 0 ∧ gsgV U f = segV U (fgV U f))
  | 0, _ => Or.inl ⟨rfl, rfl, rfl⟩
  | f + 1, hf => by
    have b8 := hU.2.2.2.2.2.2.1
    have h1 := fg_inv hU f (by omega)
    have h2 := gcnV_b U f
    simp only [fgV, gcnV, gsgV]
    by_cases c : airV U f + chgV U (kndV U f) < 0
    · rcases h1 with ⟨a1, a2, a3⟩ | ⟨a1, a2, a3, a4, a5⟩
      · right
        rw [if_pos ⟨c, a1⟩, if_pos c, if_pos ⟨c, a2⟩, Int.toNat_natCast, a2]
        exact ⟨by omega, by omega, by omega, rfl, rfl⟩
      · right
        rw [if_neg (fun z => by omega), if_pos c, if_neg (fun z => by omega)]
        exact ⟨a1, by omega, by omega, a4, a5⟩
    · rw [if_neg (fun z => c z.1), if_neg c, if_neg (fun z => c z.1)]
      rcases h1 with h1 | ⟨a1, a2, a3, a4, a5⟩
      · exact Or.inl h1
      · exact Or.inr ⟨a1, by omega, a3, a4, a5⟩
theorem fg_le {U : Vw} : ∀ (f j : Nat), j < f → f ≤ 99 → airV U j + chgV U (kndV U j) < 0 → fgV U f ≤ j
  | 0, j, h, _, _ => by omega
  | f + 1, j, h, h9, hc => by
    simp only [fgV]
    by_cases e : j = f
    · subst e
      by_cases c : fgV U j = 99
      · rw [if_pos ⟨hc, c⟩]
        omega
      · rw [if_neg (fun z => c z.2)]
        have : ∀ n : Nat, fgV U n = 99 ∨ fgV U n < n := by
          intro n
          induction n with
          | zero => exact Or.inl rfl
          | succ n ih =>
            simp only [fgV]
            split <;> omega
        have := this j
        omega
    · have h1 := fg_le f j (by omega) (by omega) hc
      split
      next c => omega
      next c => exact h1
theorem gsU_1 {U : Vw} {f : Nat} (h : airV U f + chgV U (kndV U f) < 0) : gsU U f = 1 := if_pos h
theorem gsU_0 {U : Vw} {f : Nat} (h : ¬ airV U f + chgV U (kndV U f) < 0) : gsU U f = 0 := if_neg h
/-- the air rows as far as frame f -/
def brI (g : Nat → Nat → Int) (a : Nat) (U : Vw) (f : Nat) (g1 : Nat → Nat → Int) : Prop := (∀ j, j < f → g1 (ad a 5) j = airV U (j + 1)) ∧ (∀ j, j < f → g1 (ad a 6) j = gsU U j) ∧ ∀ x, x ≠ ad a 5 → x ≠ ad a 6 → g1 x = g x
section MAR
variable {zt : Nat → Nat} {g : Nat → Nat → Int} {ρ : Ri} {a b : Nat} {U : Vw}
theorem brI_st {f : Nat} {g1 : Nat → Nat → Int} (h : brI g a U f g1) {v w : Int} (hv : v = gsU U f) (hw : w = airV U (f + 1)) : brI g a U (f + 1) (setRow (setRow g1 (ad a 6) (upd1 (g1 (ad a 6)) f v)) (ad a 5) (upd1 (g1 (ad a 5)) f w)) := by
  obtain ⟨h1, h2, h3⟩ := h
  refine ⟨fun j hj => ?_, fun j hj => ?_, fun x z1 z2 => ?_⟩
  · rw [row_s]
    by_cases e : j = f
    · subst e
      rw [upd_s, hw]
    · rw [upd_n e]
      exact h1 j (by omega)
  · rw [row_n (by unfold ad; omega), row_s]
    by_cases e : j = f
    · subst e
      rw [upd_s, hv]
    · rw [upd_n e]
      exact h2 j (by omega)
  · rw [row_n z1, row_n z2]
    exact h3 x z1 z2
theorem breathes_body (hM : isMd ρ a) (hb : kdI ρ b 0) (hl : lnA ρ b = 953) (hb5 : b ≠ ad a 5) (hb6 : b ≠ ad a 6) (hR : LR (-1) (vwM (g b)) U) (hU : WFV (-1) U) {s k f : Nat} (hs : (s : Int) < U 5 0) (hk : (k : Int) < U 7 s) (hf : (f : Int) = sumL U s + k) {o8 : Option AV} {g1 : Nat → Nat → Int} (hI : brI g a U f g1) {Q : Option AV → Sto → Prop}
    (kk : ∀ (g2 : Nat → Nat → Int) (o : Option AV), brI g a U (f + 1) g2 → Wp zt 124 (P 124 37) [some (AR a), some (AR b), some (AI (airV U (f + 1))), some (AI ((f : Int) + 1)), some (AI (fgV U (f + 1))), some (AI s), some (AI (U 6 s)), some (AI ((k : Int) + 1)), o] [] (g2, ρ) Q) :
    Wp zt 124 (P 124 37) [some (AR a), some (AR b), some (AI (airV U f)), some (AI f), some (AI (fgV U f)), some (AI s), some (AI (U 6 s)), some (AI k), o8] [] (g1, ρ) Q := by
  have b4 := hU.2.2.2.1
  have b5 := hU.2.2.2.2.1
  have b8 := hU.2.2.2.2.2.2.1
  have bs := hU.2.2.2.2.2.1 s hs
  have sb := sumL_at2 hU (s := s) hs
  have hsg : segV U (f : Int) = s := segF_at (V := U) (m := U 5 0) (fun j hj => (hU.2.2.2.2.2.1 j hj).2) hs (f := (f : Int)) (by omega) (by simp only [sumL]; omega) (U 5 0).toNat 0 (Nat.zero_le _) (by omega)
  have hkn : kndV U (f : Int) = U 6 s := by unfold kndV; rw [hsg]; rfl
  have eb : g1 b = g b := hI.2.2 b hb5 hb6
  have zb6 : (b = ad a 6) ↔ False := iff_false_intro hb6
  have r56 : g b 56 = U 4 3 := m_nm hR (j := 3) (by omega)
  have r57 : g b 57 = U 4 4 := m_nm hR (j := 4) (by omega)
  have rl := m_ln hR hU (s := (s : Int)) (by omega) hs
  rw [Int.toNat_natCast] at rl
  have av := airV_b (V := U) b4.2.2.2.1 f
  have fi := fg_inv hU f (by omega)
  have hk2 : ¬ U 7 s ≤ (k : Int) := by omega
  have hair : airV U (f + 1) = min (max (airV U f + chgV U (U 6 s)) 0) (U 4 3) := by
    simp only [airV, hkn]
  have hfg : fgV U (f + 1) = if airV U f + chgV U (U 6 s) < 0 ∧ fgV U f = 99 then (f : Int) else fgV U f := by
    simp only [fgV, hkn]
  have hg1 : airV U f + chgV U (U 6 s) < 0 → gsU U f = 1 := fun z => gsU_1 (by rw [hkn]; exact z)
  have hg0 : ¬ airV U f + chgV U (U 6 s) < 0 → gsU U f = 0 := fun z => gsU_0 (by rw [hkn]; exact z)
  have fgb : 0 ≤ fgV U f ∧ fgV U f ≤ 99 := by omega
  clear fi
  by_cases c9 : U 6 s = 9
  · have hch : chgV U (U 6 s) = U 4 4 := if_pos c9
    rw [hch] at hair hfg hg1 hg0
    have hng : ¬ airV U f + U 4 4 < 0 := by omega
    rw [if_neg (fun z => hng z.1)] at hfg
    have hle : 0 ≤ airV U f := av.1
    by_cases cc : U 4 3 < airV U f - 0 + U 4 4
    · have ha : airV U (f + 1) = U 4 3 := by rw [hair]; omega
      have k1 := kk _ (some (AI 0)) (brI_st hI (v := 0) (w := U 4 3) (hg0 hng).symm ha.symm)
      rw [ha, hfg, c9] at k1
      rw [P_M_breathes_37]
      simp only [m_M_breathes, b_M_breathes_0, P_M_breathes_64, b_M_breathes_64, P_M_breathes_75, b_M_breathes_75, P_M_breathes_92, b_M_breathes_92, P_M_breathes_93, b_M_breathes_93, P_M_breathes_114, b_M_breathes_114, P_M_breathes_116, b_M_breathes_116, P_M_breathes_131, b_M_breathes_131, P_M_breathes_135, b_M_breathes_135, P_M_breathes_151, b_M_breathes_151, P_M_breathes_152, b_M_breathes_152, P_M_breathes_169, b_M_breathes_169, P_M_breathes_170, b_M_breathes_170, P_M_breathes_193, b_M_breathes_193, wp_aln0, wp_aln1, wp_bald, wp_bast, wp_bipush, wp_goto, wp_iadd, wp_iald, wp_iast, wp_icge, wp_icle, wp_icne, wp_iconst, wp_il4, wp_il5, wp_il6, wp_il7, wp_il8, wp_iln2, wp_iln3, wp_imul, wp_inc3, wp_inc5, wp_inc7, wp_iret, wp_is4, wp_is5, wp_is6, wp_is7, wp_is8, wp_isn2, wp_isn3, wp_isub, wp_izeq, wp_nop, wp_zret, qmd_kd, qmd_k1, qmd_l1, qmd_gf0, qmd_k2, qmd_l2, qmd_gf1, qmd_k3, qmd_l3, qmd_gf2, qmd_k4, qmd_l4, qmd_gf4, qmd_k5, qmd_l5, qmd_gf6, qmd_k6, qmd_l6, qmd_gf7, qmd_k7, qmd_l7, qmd_gf10, qmd_k8, qmd_l8, qmd_gf11, qmd_k9, qmd_l9, qmd_gf12, qmd_gf3, qmd_pf3, qmd_gf5, qmd_pf5, qmd_gf8, qmd_pf8, qmd_gf9, qmd_pf9, wrI_row, cpI_row, row_s, row_n, row_ss, row_sw, upd_s, upd_n, ad_inj, ad_z, ad_z2, Nat.reduceEqDiff, reduceCtorEq, List.cons_append, List.nil_append, Option.toList_some, Option.toList_none, Int.toNat_natCast, List.length_cons, List.length_nil, Int.cast_ofNat_Int, Nat.reduceAdd, Nat.reduceLeDiff, Nat.reduceLT, Nat.reduceMul, Int.reduceAdd, Int.reduceSub, Int.reduceMul, Int.reduceNeg, Int.reduceLT, Int.reduceLE, Int.reduceEq, Int.reduceToNat, eq_self, true_and, and_true, true_or, or_true, false_or, or_false, if_true, if_false, not_true_eq_false, not_false_eq_true, and_self, ne_eq, b_M_breathes_37, hM, hb, hl, eb, rl, hk2, c9, r56, r57, hle, cc, zb6]
      (repeat' (first | apply And.intro | split)) <;> first | omega | exact k1
    · have ha : airV U (f + 1) = airV U f - 0 + U 4 4 := by rw [hair]; omega
      have k1 := kk _ (some (AI 0)) (brI_st hI (v := 0) (w := airV U f - 0 + U 4 4) (hg0 hng).symm ha.symm)
      rw [ha, hfg, c9] at k1
      rw [P_M_breathes_37]
      simp only [m_M_breathes, b_M_breathes_0, P_M_breathes_64, b_M_breathes_64, P_M_breathes_75, b_M_breathes_75, P_M_breathes_92, b_M_breathes_92, P_M_breathes_93, b_M_breathes_93, P_M_breathes_114, b_M_breathes_114, P_M_breathes_116, b_M_breathes_116, P_M_breathes_131, b_M_breathes_131, P_M_breathes_135, b_M_breathes_135, P_M_breathes_151, b_M_breathes_151, P_M_breathes_152, b_M_breathes_152, P_M_breathes_169, b_M_breathes_169, P_M_breathes_170, b_M_breathes_170, P_M_breathes_193, b_M_breathes_193, wp_aln0, wp_aln1, wp_bald, wp_bast, wp_bipush, wp_goto, wp_iadd, wp_iald, wp_iast, wp_icge, wp_icle, wp_icne, wp_iconst, wp_il4, wp_il5, wp_il6, wp_il7, wp_il8, wp_iln2, wp_iln3, wp_imul, wp_inc3, wp_inc5, wp_inc7, wp_iret, wp_is4, wp_is5, wp_is6, wp_is7, wp_is8, wp_isn2, wp_isn3, wp_isub, wp_izeq, wp_nop, wp_zret, qmd_kd, qmd_k1, qmd_l1, qmd_gf0, qmd_k2, qmd_l2, qmd_gf1, qmd_k3, qmd_l3, qmd_gf2, qmd_k4, qmd_l4, qmd_gf4, qmd_k5, qmd_l5, qmd_gf6, qmd_k6, qmd_l6, qmd_gf7, qmd_k7, qmd_l7, qmd_gf10, qmd_k8, qmd_l8, qmd_gf11, qmd_k9, qmd_l9, qmd_gf12, qmd_gf3, qmd_pf3, qmd_gf5, qmd_pf5, qmd_gf8, qmd_pf8, qmd_gf9, qmd_pf9, wrI_row, cpI_row, row_s, row_n, row_ss, row_sw, upd_s, upd_n, ad_inj, ad_z, ad_z2, Nat.reduceEqDiff, reduceCtorEq, List.cons_append, List.nil_append, Option.toList_some, Option.toList_none, Int.toNat_natCast, List.length_cons, List.length_nil, Int.cast_ofNat_Int, Nat.reduceAdd, Nat.reduceLeDiff, Nat.reduceLT, Nat.reduceMul, Int.reduceAdd, Int.reduceSub, Int.reduceMul, Int.reduceNeg, Int.reduceLT, Int.reduceLE, Int.reduceEq, Int.reduceToNat, eq_self, true_and, and_true, true_or, or_true, false_or, or_false, if_true, if_false, not_true_eq_false, not_false_eq_true, and_self, ne_eq, b_M_breathes_37, hM, hb, hl, eb, rl, hk2, c9, r56, r57, hle, cc, zb6]
      (repeat' (first | apply And.intro | split)) <;> first | omega | exact k1
  · have hch : chgV U (U 6 s) = -U 3 (U 6 s * 4 + 3).toNat := if_neg c9
    rw [hch] at hair hfg hg1 hg0
    have bu := hU.2.2.1 (U 6 s * 4 + 3).toNat (by omega)
    have ru := m_sn hR (j := (U 6 s * 4 + 3).toNat) (by omega)
    rw [show 17 + (U 6 s * 4 + 3).toNat = (17 + 4 * U 6 s + 3).toNat by omega] at ru
    generalize U 3 (U 6 s * 4 + 3).toNat = u at *
    by_cases cg : airV U f + -u < 0
    · have ha : airV U (f + 1) = 0 := by rw [hair]; omega
      have hng : ¬ u ≤ airV U f := by omega
      have hcap : ¬ U 4 3 < 0 := by omega
      by_cases c0 : fgV U f = 99
      · rw [if_pos ⟨cg, c0⟩] at hfg
        have k1 := kk _ (some (AI u)) (brI_st hI (v := 1) (w := 0) (hg1 cg).symm ha.symm)
        rw [ha, hfg] at k1
        rw [P_M_breathes_37]
        simp only [m_M_breathes, b_M_breathes_0, P_M_breathes_64, b_M_breathes_64, P_M_breathes_75, b_M_breathes_75, P_M_breathes_92, b_M_breathes_92, P_M_breathes_93, b_M_breathes_93, P_M_breathes_114, b_M_breathes_114, P_M_breathes_116, b_M_breathes_116, P_M_breathes_131, b_M_breathes_131, P_M_breathes_135, b_M_breathes_135, P_M_breathes_151, b_M_breathes_151, P_M_breathes_152, b_M_breathes_152, P_M_breathes_169, b_M_breathes_169, P_M_breathes_170, b_M_breathes_170, P_M_breathes_193, b_M_breathes_193, wp_aln0, wp_aln1, wp_bald, wp_bast, wp_bipush, wp_goto, wp_iadd, wp_iald, wp_iast, wp_icge, wp_icle, wp_icne, wp_iconst, wp_il4, wp_il5, wp_il6, wp_il7, wp_il8, wp_iln2, wp_iln3, wp_imul, wp_inc3, wp_inc5, wp_inc7, wp_iret, wp_is4, wp_is5, wp_is6, wp_is7, wp_is8, wp_isn2, wp_isn3, wp_isub, wp_izeq, wp_nop, wp_zret, qmd_kd, qmd_k1, qmd_l1, qmd_gf0, qmd_k2, qmd_l2, qmd_gf1, qmd_k3, qmd_l3, qmd_gf2, qmd_k4, qmd_l4, qmd_gf4, qmd_k5, qmd_l5, qmd_gf6, qmd_k6, qmd_l6, qmd_gf7, qmd_k7, qmd_l7, qmd_gf10, qmd_k8, qmd_l8, qmd_gf11, qmd_k9, qmd_l9, qmd_gf12, qmd_gf3, qmd_pf3, qmd_gf5, qmd_pf5, qmd_gf8, qmd_pf8, qmd_gf9, qmd_pf9, wrI_row, cpI_row, row_s, row_n, row_ss, row_sw, upd_s, upd_n, ad_inj, ad_z, ad_z2, Nat.reduceEqDiff, reduceCtorEq, List.cons_append, List.nil_append, Option.toList_some, Option.toList_none, Int.toNat_natCast, List.length_cons, List.length_nil, Int.cast_ofNat_Int, Nat.reduceAdd, Nat.reduceLeDiff, Nat.reduceLT, Nat.reduceMul, Int.reduceAdd, Int.reduceSub, Int.reduceMul, Int.reduceNeg, Int.reduceLT, Int.reduceLE, Int.reduceEq, Int.reduceToNat, eq_self, true_and, and_true, true_or, or_true, false_or, or_false, if_true, if_false, not_true_eq_false, not_false_eq_true, and_self, ne_eq, b_M_breathes_37, hM, hb, hl, eb, rl, hk2, c9, r56, r57, ru, hng, c0, hcap, zb6]
        (repeat' (first | apply And.intro | split)) <;> first | omega | exact k1
      · rw [if_neg (fun z => c0 z.2)] at hfg
        have k1 := kk _ (some (AI u)) (brI_st hI (v := 1) (w := 0) (hg1 cg).symm ha.symm)
        rw [ha, hfg] at k1
        rw [P_M_breathes_37]
        simp only [m_M_breathes, b_M_breathes_0, P_M_breathes_64, b_M_breathes_64, P_M_breathes_75, b_M_breathes_75, P_M_breathes_92, b_M_breathes_92, P_M_breathes_93, b_M_breathes_93, P_M_breathes_114, b_M_breathes_114, P_M_breathes_116, b_M_breathes_116, P_M_breathes_131, b_M_breathes_131, P_M_breathes_135, b_M_breathes_135, P_M_breathes_151, b_M_breathes_151, P_M_breathes_152, b_M_breathes_152, P_M_breathes_169, b_M_breathes_169, P_M_breathes_170, b_M_breathes_170, P_M_breathes_193, b_M_breathes_193, wp_aln0, wp_aln1, wp_bald, wp_bast, wp_bipush, wp_goto, wp_iadd, wp_iald, wp_iast, wp_icge, wp_icle, wp_icne, wp_iconst, wp_il4, wp_il5, wp_il6, wp_il7, wp_il8, wp_iln2, wp_iln3, wp_imul, wp_inc3, wp_inc5, wp_inc7, wp_iret, wp_is4, wp_is5, wp_is6, wp_is7, wp_is8, wp_isn2, wp_isn3, wp_isub, wp_izeq, wp_nop, wp_zret, qmd_kd, qmd_k1, qmd_l1, qmd_gf0, qmd_k2, qmd_l2, qmd_gf1, qmd_k3, qmd_l3, qmd_gf2, qmd_k4, qmd_l4, qmd_gf4, qmd_k5, qmd_l5, qmd_gf6, qmd_k6, qmd_l6, qmd_gf7, qmd_k7, qmd_l7, qmd_gf10, qmd_k8, qmd_l8, qmd_gf11, qmd_k9, qmd_l9, qmd_gf12, qmd_gf3, qmd_pf3, qmd_gf5, qmd_pf5, qmd_gf8, qmd_pf8, qmd_gf9, qmd_pf9, wrI_row, cpI_row, row_s, row_n, row_ss, row_sw, upd_s, upd_n, ad_inj, ad_z, ad_z2, Nat.reduceEqDiff, reduceCtorEq, List.cons_append, List.nil_append, Option.toList_some, Option.toList_none, Int.toNat_natCast, List.length_cons, List.length_nil, Int.cast_ofNat_Int, Nat.reduceAdd, Nat.reduceLeDiff, Nat.reduceLT, Nat.reduceMul, Int.reduceAdd, Int.reduceSub, Int.reduceMul, Int.reduceNeg, Int.reduceLT, Int.reduceLE, Int.reduceEq, Int.reduceToNat, eq_self, true_and, and_true, true_or, or_true, false_or, or_false, if_true, if_false, not_true_eq_false, not_false_eq_true, and_self, ne_eq, b_M_breathes_37, hM, hb, hl, eb, rl, hk2, c9, r56, r57, ru, hng, c0, hcap, zb6]
        (repeat' (first | apply And.intro | split)) <;> first | omega | exact k1
    · rw [if_neg (fun z => cg z.1)] at hfg
      have ha : airV U (f + 1) = airV U f - u + 0 := by rw [hair]; omega
      have hng : u ≤ airV U f := by omega
      have hcap : ¬ U 4 3 < airV U f - u + 0 := by omega
      have k1 := kk _ (some (AI u)) (brI_st hI (v := 0) (w := airV U f - u + 0) (hg0 cg).symm ha.symm)
      rw [ha, hfg] at k1
      rw [P_M_breathes_37]
      simp only [m_M_breathes, b_M_breathes_0, P_M_breathes_64, b_M_breathes_64, P_M_breathes_75, b_M_breathes_75, P_M_breathes_92, b_M_breathes_92, P_M_breathes_93, b_M_breathes_93, P_M_breathes_114, b_M_breathes_114, P_M_breathes_116, b_M_breathes_116, P_M_breathes_131, b_M_breathes_131, P_M_breathes_135, b_M_breathes_135, P_M_breathes_151, b_M_breathes_151, P_M_breathes_152, b_M_breathes_152, P_M_breathes_169, b_M_breathes_169, P_M_breathes_170, b_M_breathes_170, P_M_breathes_193, b_M_breathes_193, wp_aln0, wp_aln1, wp_bald, wp_bast, wp_bipush, wp_goto, wp_iadd, wp_iald, wp_iast, wp_icge, wp_icle, wp_icne, wp_iconst, wp_il4, wp_il5, wp_il6, wp_il7, wp_il8, wp_iln2, wp_iln3, wp_imul, wp_inc3, wp_inc5, wp_inc7, wp_iret, wp_is4, wp_is5, wp_is6, wp_is7, wp_is8, wp_isn2, wp_isn3, wp_isub, wp_izeq, wp_nop, wp_zret, qmd_kd, qmd_k1, qmd_l1, qmd_gf0, qmd_k2, qmd_l2, qmd_gf1, qmd_k3, qmd_l3, qmd_gf2, qmd_k4, qmd_l4, qmd_gf4, qmd_k5, qmd_l5, qmd_gf6, qmd_k6, qmd_l6, qmd_gf7, qmd_k7, qmd_l7, qmd_gf10, qmd_k8, qmd_l8, qmd_gf11, qmd_k9, qmd_l9, qmd_gf12, qmd_gf3, qmd_pf3, qmd_gf5, qmd_pf5, qmd_gf8, qmd_pf8, qmd_gf9, qmd_pf9, wrI_row, cpI_row, row_s, row_n, row_ss, row_sw, upd_s, upd_n, ad_inj, ad_z, ad_z2, Nat.reduceEqDiff, reduceCtorEq, List.cons_append, List.nil_append, Option.toList_some, Option.toList_none, Int.toNat_natCast, List.length_cons, List.length_nil, Int.cast_ofNat_Int, Nat.reduceAdd, Nat.reduceLeDiff, Nat.reduceLT, Nat.reduceMul, Int.reduceAdd, Int.reduceSub, Int.reduceMul, Int.reduceNeg, Int.reduceLT, Int.reduceLE, Int.reduceEq, Int.reduceToNat, eq_self, true_and, and_true, true_or, or_true, false_or, or_false, if_true, if_false, not_true_eq_false, not_false_eq_true, and_self, ne_eq, b_M_breathes_37, hM, hb, hl, eb, rl, hk2, c9, r56, r57, ru, hng, hcap, zb6]
      (repeat' (first | apply And.intro | split)) <;> first | omega | exact k1
theorem breathes_inner (hM : isMd ρ a) (hb : kdI ρ b 0) (hl : lnA ρ b = 953) (hb5 : b ≠ ad a 5) (hb6 : b ≠ ad a 6) (hR : LR (-1) (vwM (g b)) U) (hU : WFV (-1) U) {s : Nat} (hs : (s : Int) < U 5 0) {Q : Option AV → Sto → Prop}
    (kk : ∀ (g2 : Nat → Nat → Int) (f : Nat) (o6 o7 o8 : Option AV), (f : Int) = sumL U (s + 1) → brI g a U f g2 → Wp zt 124 (P 124 14) [some (AR a), some (AR b), some (AI (airV U f)), some (AI f), some (AI (fgV U f)), some (AI ((s : Int) + 1)), o6, o7, o8] [] (g2, ρ) Q) :
    ∀ (d k f : Nat) (g1 : Nat → Nat → Int) (o8 : Option AV), (k : Int) + d = U 7 s → (f : Int) = sumL U s + k → brI g a U f g1 → Wp zt 124 (P 124 37) [some (AR a), some (AR b), some (AI (airV U f)), some (AI f), some (AI (fgV U f)), some (AI s), some (AI (U 6 s)), some (AI k), o8] [] (g1, ρ) Q := by
  have b5 := hU.2.2.2.2.1
  intro d
  induction d with
  | zero =>
    intro k f g1 o8 hk hf hI
    have eb : g1 b = g b := hI.2.2 b hb5 hb6
    have rl := m_ln hR hU (s := (s : Int)) (by omega) hs
    rw [Int.toNat_natCast] at rl
    have bs := hU.2.2.2.2.2.1 s hs
    have i1 := kk g1 f (some (AI (U 6 s))) (some (AI k)) o8 (by simp only [sumL]; omega) hI
    rw [P_M_breathes_37]
    simp only [m_M_breathes, b_M_breathes_0, P_M_breathes_64, b_M_breathes_64, P_M_breathes_75, b_M_breathes_75, P_M_breathes_92, b_M_breathes_92, P_M_breathes_93, b_M_breathes_93, P_M_breathes_114, b_M_breathes_114, P_M_breathes_116, b_M_breathes_116, P_M_breathes_131, b_M_breathes_131, P_M_breathes_135, b_M_breathes_135, P_M_breathes_151, b_M_breathes_151, P_M_breathes_152, b_M_breathes_152, P_M_breathes_169, b_M_breathes_169, P_M_breathes_170, b_M_breathes_170, P_M_breathes_187, b_M_breathes_187, P_M_breathes_193, b_M_breathes_193, wp_aln0, wp_aln1, wp_bald, wp_bast, wp_bipush, wp_goto, wp_iadd, wp_iald, wp_iast, wp_icge, wp_icle, wp_icne, wp_iconst, wp_il4, wp_il5, wp_il6, wp_il7, wp_il8, wp_iln2, wp_iln3, wp_imul, wp_inc3, wp_inc5, wp_inc7, wp_iret, wp_is4, wp_is5, wp_is6, wp_is7, wp_is8, wp_isn2, wp_isn3, wp_isub, wp_izeq, wp_nop, wp_zret, qmd_kd, qmd_k1, qmd_l1, qmd_gf0, qmd_k2, qmd_l2, qmd_gf1, qmd_k3, qmd_l3, qmd_gf2, qmd_k4, qmd_l4, qmd_gf4, qmd_k5, qmd_l5, qmd_gf6, qmd_k6, qmd_l6, qmd_gf7, qmd_k7, qmd_l7, qmd_gf10, qmd_k8, qmd_l8, qmd_gf11, qmd_k9, qmd_l9, qmd_gf12, qmd_gf3, qmd_pf3, qmd_gf5, qmd_pf5, qmd_gf8, qmd_pf8, qmd_gf9, qmd_pf9, wrI_row, cpI_row, row_s, row_n, row_ss, row_sw, upd_s, upd_n, ad_inj, ad_z, ad_z2, Nat.reduceEqDiff, reduceCtorEq, List.cons_append, List.nil_append, Option.toList_some, Option.toList_none, Int.toNat_natCast, List.length_cons, List.length_nil, Int.cast_ofNat_Int, Nat.reduceAdd, Nat.reduceLeDiff, Nat.reduceLT, Nat.reduceMul, Int.reduceAdd, Int.reduceSub, Int.reduceMul, Int.reduceNeg, Int.reduceLT, Int.reduceLE, Int.reduceEq, Int.reduceToNat, eq_self, true_and, and_true, true_or, or_true, false_or, or_false, if_true, if_false, not_true_eq_false, not_false_eq_true, and_self, ne_eq, b_M_breathes_37, hM, hb, hl, eb, rl]
    (repeat' (first | apply And.intro | split)) <;> first | omega | exact i1
  | succ d ih =>
    intro k f g1 o8 hk hf hI
    refine breathes_body hM hb hl hb5 hb6 hR hU hs (by omega) hf hI (fun g2 o hI2 => ?_)
    exact ih (k + 1) (f + 1) g2 o (by omega) (by omega) hI2
theorem breathes_loop (hM : isMd ρ a) (hb : kdI ρ b 0) (hl : lnA ρ b = 953) (hb5 : b ≠ ad a 5) (hb6 : b ≠ ad a 6) (hR : LR (-1) (vwM (g b)) U) (hU : WFV (-1) U) {Q : Option AV → Sto → Prop} (hQ : ∀ g1 : Nat → Nat → Int, brI g a U (U 8 0).toNat g1 → Q (some (AI (fgV U (U 8 0).toNat))) (g1, ρ)) :
    ∀ (d s f : Nat) (g1 : Nat → Nat → Int) (o6 o7 o8 : Option AV), (s : Int) + d = U 5 0 → (f : Int) = sumL U s → brI g a U f g1 → Wp zt 124 (P 124 14) [some (AR a), some (AR b), some (AI (airV U f)), some (AI f), some (AI (fgV U f)), some (AI s), o6, o7, o8] [] (g1, ρ) Q := by
  have b5 := hU.2.2.2.2.1
  have e5 := m_5 hR
  intro d
  induction d with
  | zero =>
    intro s f g1 o6 o7 o8 hs hf hI
    have eb : g1 b = g b := hI.2.2 b hb5 hb6
    have hsu := hU.2.2.2.2.2.2.2.1
    rw [show (U 5 0).toNat = s by omega] at hsu
    have ef : (U 8 0).toNat = f := by omega
    rw [ef] at hQ
    have q := hQ g1 hI
    rw [P_M_breathes_14]
    simp only [m_M_breathes, b_M_breathes_0, P_M_breathes_64, b_M_breathes_64, P_M_breathes_75, b_M_breathes_75, P_M_breathes_92, b_M_breathes_92, P_M_breathes_93, b_M_breathes_93, P_M_breathes_114, b_M_breathes_114, P_M_breathes_116, b_M_breathes_116, P_M_breathes_131, b_M_breathes_131, P_M_breathes_135, b_M_breathes_135, P_M_breathes_151, b_M_breathes_151, P_M_breathes_152, b_M_breathes_152, P_M_breathes_169, b_M_breathes_169, P_M_breathes_170, b_M_breathes_170, P_M_breathes_187, b_M_breathes_187, P_M_breathes_193, b_M_breathes_193, wp_aln0, wp_aln1, wp_bald, wp_bast, wp_bipush, wp_goto, wp_iadd, wp_iald, wp_iast, wp_icge, wp_icle, wp_icne, wp_iconst, wp_il4, wp_il5, wp_il6, wp_il7, wp_il8, wp_iln2, wp_iln3, wp_imul, wp_inc3, wp_inc5, wp_inc7, wp_iret, wp_is4, wp_is5, wp_is6, wp_is7, wp_is8, wp_isn2, wp_isn3, wp_isub, wp_izeq, wp_nop, wp_zret, qmd_kd, qmd_k1, qmd_l1, qmd_gf0, qmd_k2, qmd_l2, qmd_gf1, qmd_k3, qmd_l3, qmd_gf2, qmd_k4, qmd_l4, qmd_gf4, qmd_k5, qmd_l5, qmd_gf6, qmd_k6, qmd_l6, qmd_gf7, qmd_k7, qmd_l7, qmd_gf10, qmd_k8, qmd_l8, qmd_gf11, qmd_k9, qmd_l9, qmd_gf12, qmd_gf3, qmd_pf3, qmd_gf5, qmd_pf5, qmd_gf8, qmd_pf8, qmd_gf9, qmd_pf9, wrI_row, cpI_row, row_s, row_n, row_ss, row_sw, upd_s, upd_n, ad_inj, ad_z, ad_z2, Nat.reduceEqDiff, reduceCtorEq, List.cons_append, List.nil_append, Option.toList_some, Option.toList_none, Int.toNat_natCast, List.length_cons, List.length_nil, Int.cast_ofNat_Int, Nat.reduceAdd, Nat.reduceLeDiff, Nat.reduceLT, Nat.reduceMul, Int.reduceAdd, Int.reduceSub, Int.reduceMul, Int.reduceNeg, Int.reduceLT, Int.reduceLE, Int.reduceEq, Int.reduceToNat, eq_self, true_and, and_true, true_or, or_true, false_or, or_false, if_true, if_false, not_true_eq_false, not_false_eq_true, and_self, ne_eq, b_M_breathes_14, hM, hb, hl, eb, e5]
    (repeat' (first | apply And.intro | split)) <;> first | omega | exact q
  | succ d ih =>
    intro s f g1 o6 o7 o8 hs hf hI
    have eb : g1 b = g b := hI.2.2 b hb5 hb6
    have hs2 : (s : Int) < U 5 0 := by omega
    have rk := m_kd hR hU (s := (s : Int)) (by omega) hs2
    rw [Int.toNat_natCast] at rk
    have bs := hU.2.2.2.2.2.1 s hs2
    have k1 := breathes_inner (zt := zt) hM hb hl hb5 hb6 hR hU hs2 (Q := Q) (fun g2 f2 p6 p7 p8 q1 q2 => ih (s + 1) f2 g2 p6 p7 p8 (by omega) q1 q2) (U 7 s).toNat 0 f g1 o8 (by omega) (by omega) hI
    rw [P_M_breathes_14]
    simp only [m_M_breathes, b_M_breathes_0, P_M_breathes_64, b_M_breathes_64, P_M_breathes_75, b_M_breathes_75, P_M_breathes_92, b_M_breathes_92, P_M_breathes_93, b_M_breathes_93, P_M_breathes_114, b_M_breathes_114, P_M_breathes_116, b_M_breathes_116, P_M_breathes_131, b_M_breathes_131, P_M_breathes_135, b_M_breathes_135, P_M_breathes_151, b_M_breathes_151, P_M_breathes_152, b_M_breathes_152, P_M_breathes_169, b_M_breathes_169, P_M_breathes_170, b_M_breathes_170, P_M_breathes_187, b_M_breathes_187, P_M_breathes_193, b_M_breathes_193, wp_aln0, wp_aln1, wp_bald, wp_bast, wp_bipush, wp_goto, wp_iadd, wp_iald, wp_iast, wp_icge, wp_icle, wp_icne, wp_iconst, wp_il4, wp_il5, wp_il6, wp_il7, wp_il8, wp_iln2, wp_iln3, wp_imul, wp_inc3, wp_inc5, wp_inc7, wp_iret, wp_is4, wp_is5, wp_is6, wp_is7, wp_is8, wp_isn2, wp_isn3, wp_isub, wp_izeq, wp_nop, wp_zret, qmd_kd, qmd_k1, qmd_l1, qmd_gf0, qmd_k2, qmd_l2, qmd_gf1, qmd_k3, qmd_l3, qmd_gf2, qmd_k4, qmd_l4, qmd_gf4, qmd_k5, qmd_l5, qmd_gf6, qmd_k6, qmd_l6, qmd_gf7, qmd_k7, qmd_l7, qmd_gf10, qmd_k8, qmd_l8, qmd_gf11, qmd_k9, qmd_l9, qmd_gf12, qmd_gf3, qmd_pf3, qmd_gf5, qmd_pf5, qmd_gf8, qmd_pf8, qmd_gf9, qmd_pf9, wrI_row, cpI_row, row_s, row_n, row_ss, row_sw, upd_s, upd_n, ad_inj, ad_z, ad_z2, Nat.reduceEqDiff, reduceCtorEq, List.cons_append, List.nil_append, Option.toList_some, Option.toList_none, Int.toNat_natCast, List.length_cons, List.length_nil, Int.cast_ofNat_Int, Nat.reduceAdd, Nat.reduceLeDiff, Nat.reduceLT, Nat.reduceMul, Int.reduceAdd, Int.reduceSub, Int.reduceMul, Int.reduceNeg, Int.reduceLT, Int.reduceLE, Int.reduceEq, Int.reduceToNat, eq_self, true_and, and_true, true_or, or_true, false_or, or_false, if_true, if_false, not_true_eq_false, not_false_eq_true, and_self, ne_eq, b_M_breathes_14, hM, hb, hl, eb, e5, rk]
    (repeat' (first | apply And.intro | split)) <;> first | omega | exact k1
theorem breathes_ok (hM : isMd ρ a) (hb : kdI ρ b 0) (hl : lnA ρ b = 953) (hb5 : b ≠ ad a 5) (hb6 : b ≠ ad a 6) (hR : LR (-1) (vwM (g b)) U) (hU : WFV (-1) U) {Q : Option AV → Sto → Prop} (hQ : ∀ g1 : Nat → Nat → Int, brI g a U (U 8 0).toNat g1 → Q (some (AI (fgV U (U 8 0).toNat))) (g1, ρ)) : WpM zt 124 [AR a, AR b] (g, ρ) Q := by
  have b5 := hU.2.2.2.2.1
  have r56 : g b 56 = U 4 3 := m_nm hR (j := 3) (by omega)
  have k1 := breathes_loop (zt := zt) hM hb hl hb5 hb6 hR hU hQ (U 5 0).toNat 0 0 g none none none (by omega) rfl ⟨fun j hj => by omega, fun j hj => by omega, fun _ _ _ => rfl⟩
  simp only [m_M_breathes, b_M_breathes_0, P_M_breathes_64, b_M_breathes_64, P_M_breathes_75, b_M_breathes_75, P_M_breathes_92, b_M_breathes_92, P_M_breathes_93, b_M_breathes_93, P_M_breathes_114, b_M_breathes_114, P_M_breathes_116, b_M_breathes_116, P_M_breathes_131, b_M_breathes_131, P_M_breathes_135, b_M_breathes_135, P_M_breathes_151, b_M_breathes_151, P_M_breathes_152, b_M_breathes_152, P_M_breathes_169, b_M_breathes_169, P_M_breathes_170, b_M_breathes_170, P_M_breathes_187, b_M_breathes_187, P_M_breathes_193, b_M_breathes_193, wp_aln0, wp_aln1, wp_bald, wp_bast, wp_bipush, wp_goto, wp_iadd, wp_iald, wp_iast, wp_icge, wp_icle, wp_icne, wp_iconst, wp_il4, wp_il5, wp_il6, wp_il7, wp_il8, wp_iln2, wp_iln3, wp_imul, wp_inc3, wp_inc5, wp_inc7, wp_iret, wp_is4, wp_is5, wp_is6, wp_is7, wp_is8, wp_isn2, wp_isn3, wp_isub, wp_izeq, wp_nop, wp_zret, qmd_kd, qmd_k1, qmd_l1, qmd_gf0, qmd_k2, qmd_l2, qmd_gf1, qmd_k3, qmd_l3, qmd_gf2, qmd_k4, qmd_l4, qmd_gf4, qmd_k5, qmd_l5, qmd_gf6, qmd_k6, qmd_l6, qmd_gf7, qmd_k7, qmd_l7, qmd_gf10, qmd_k8, qmd_l8, qmd_gf11, qmd_k9, qmd_l9, qmd_gf12, qmd_gf3, qmd_pf3, qmd_gf5, qmd_pf5, qmd_gf8, qmd_pf8, qmd_gf9, qmd_pf9, wrI_row, cpI_row, row_s, row_n, row_ss, row_sw, upd_s, upd_n, ad_inj, ad_z, ad_z2, Nat.reduceEqDiff, reduceCtorEq, List.cons_append, List.nil_append, Option.toList_some, Option.toList_none, Int.toNat_natCast, List.length_cons, List.length_nil, Int.cast_ofNat_Int, Nat.reduceAdd, Nat.reduceLeDiff, Nat.reduceLT, Nat.reduceMul, Int.reduceAdd, Int.reduceSub, Int.reduceMul, Int.reduceNeg, Int.reduceLT, Int.reduceLE, Int.reduceEq, Int.reduceToNat, eq_self, true_and, and_true, true_or, or_true, false_or, or_false, if_true, if_false, not_true_eq_false, not_false_eq_true, and_self, ne_eq, hM, hb, hl, r56]
  exact k1
end MAR
section MCT
variable {zt : Nat → Nat} {g : Nat → Nat → Int} {ρ : Ri} {M : Nat} {X : XV} {Q : Option AV → Sto → Prop}
theorem brI.rep {U : Vw} {f : Nat} {g1 : Nat → Nat → Int} (hI : brI g M U f g1) (hX : RepM g ρ M X) : RepM g1 ρ M X := hX.kept (hI.2.2 _ (by unfold ad; omega) (by unfold ad; omega)) (hI.2.2 _ (by unfold ad; omega) (by unfold ad; omega)) (hI.2.2 _ (by unfold ad; omega) (by unfold ad; omega)) (by rw [hI.2.2 M (by unfold ad; omega) (by unfold ad; omega)]) (by rw [hI.2.2 M (by unfold ad; omega) (by unfold ad; omega)])
theorem manyGasps_loop {g1 : Nat → Nat → Int} {U : Vw} (hM : isMd ρ M) (hR : LR (-1) (vwM (g1 (ad M 1))) U) (hU : WFV (-1) U) (hG : ∀ j : Nat, (j : Int) < U 8 0 → g1 (ad M 6) j = gsU U j) {t : Int} (ht : 0 ≤ t ∧ t ≤ 99) (hQ : Q (some (AI (gcnV U (U 8 0).toNat))) (g1, ρ)) :
    ∀ (d f : Nat), (f : Int) + d = U 8 0 → Wp zt 144 (P 144 13) [some (AR M), some (AI t), some (AI (gcnV U f)), some (AI f)] [] (g1, ρ) Q := by
  have b8 := hU.2.2.2.2.2.2.1
  have fr := frames_ok (zt := zt) hM hR hU
  intro d
  induction d with
  | zero =>
    intro f hf
    rw [show (U 8 0).toNat = f by omega] at hQ
    rw [P_M_manyGasps_13]
    simp only [m_M_manyGasps, b_M_manyGasps_0, P_M_manyGasps_35, b_M_manyGasps_35, P_M_manyGasps_36, b_M_manyGasps_36, P_M_manyGasps_44, b_M_manyGasps_44, wp_aln0, wp_bald, wp_cv1, wp_cv2, wp_cv3, wp_cv4, wp_cv5, wp_cv6, wp_cv7, wp_goto, wp_iadd, wp_icge, wp_iconst, wp_iln1, wp_iln2, wp_iln3, wp_inc3, wp_iret, wp_isn1, wp_isn2, wp_isn3, wp_izeq, wp_nop, wp_zret, qmd_kd, qmd_k1, qmd_l1, qmd_gf0, qmd_k2, qmd_l2, qmd_gf1, qmd_k3, qmd_l3, qmd_gf2, qmd_k4, qmd_l4, qmd_gf4, qmd_k5, qmd_l5, qmd_gf6, qmd_k6, qmd_l6, qmd_gf7, qmd_k7, qmd_l7, qmd_gf10, qmd_k8, qmd_l8, qmd_gf11, qmd_k9, qmd_l9, qmd_gf12, qmd_gf3, qmd_pf3, qmd_gf5, qmd_pf5, qmd_gf8, qmd_pf8, qmd_gf9, qmd_pf9, wrI_row, cpI_row, row_s, row_n, row_ss, row_sw, upd_s, upd_n, ad_inj, ad_z, ad_z2, Nat.reduceEqDiff, reduceCtorEq, List.cons_append, List.nil_append, Option.toList_some, Option.toList_none, Int.toNat_natCast, List.length_cons, List.length_nil, Int.cast_ofNat_Int, Nat.reduceAdd, Nat.reduceLeDiff, Nat.reduceLT, Nat.reduceMul, Int.reduceAdd, Int.reduceSub, Int.reduceMul, Int.reduceNeg, Int.reduceLT, Int.reduceLE, Int.reduceEq, Int.reduceToNat, eq_self, true_and, and_true, true_or, or_true, false_or, or_false, if_true, if_false, not_true_eq_false, not_false_eq_true, and_self, ne_eq, b_M_manyGasps_13, hM, fr]
    (repeat' (first | apply And.intro | split)) <;> first | omega | exact hQ
  | succ d ih =>
    intro f hf
    have i1 := ih (f + 1) (by omega)
    have hg := hG f (by omega)
    simp only [gcnV] at i1
    by_cases c : airV U f + chgV U (kndV U f) < 0
    · rw [if_pos c] at i1
      rw [gsU_1 c] at hg
      rw [P_M_manyGasps_13]
      simp only [m_M_manyGasps, b_M_manyGasps_0, P_M_manyGasps_35, b_M_manyGasps_35, P_M_manyGasps_36, b_M_manyGasps_36, P_M_manyGasps_44, b_M_manyGasps_44, wp_aln0, wp_bald, wp_cv1, wp_cv2, wp_cv3, wp_cv4, wp_cv5, wp_cv6, wp_cv7, wp_goto, wp_iadd, wp_icge, wp_iconst, wp_iln1, wp_iln2, wp_iln3, wp_inc3, wp_iret, wp_isn1, wp_isn2, wp_isn3, wp_izeq, wp_nop, wp_zret, qmd_kd, qmd_k1, qmd_l1, qmd_gf0, qmd_k2, qmd_l2, qmd_gf1, qmd_k3, qmd_l3, qmd_gf2, qmd_k4, qmd_l4, qmd_gf4, qmd_k5, qmd_l5, qmd_gf6, qmd_k6, qmd_l6, qmd_gf7, qmd_k7, qmd_l7, qmd_gf10, qmd_k8, qmd_l8, qmd_gf11, qmd_k9, qmd_l9, qmd_gf12, qmd_gf3, qmd_pf3, qmd_gf5, qmd_pf5, qmd_gf8, qmd_pf8, qmd_gf9, qmd_pf9, wrI_row, cpI_row, row_s, row_n, row_ss, row_sw, upd_s, upd_n, ad_inj, ad_z, ad_z2, Nat.reduceEqDiff, reduceCtorEq, List.cons_append, List.nil_append, Option.toList_some, Option.toList_none, Int.toNat_natCast, List.length_cons, List.length_nil, Int.cast_ofNat_Int, Nat.reduceAdd, Nat.reduceLeDiff, Nat.reduceLT, Nat.reduceMul, Int.reduceAdd, Int.reduceSub, Int.reduceMul, Int.reduceNeg, Int.reduceLT, Int.reduceLE, Int.reduceEq, Int.reduceToNat, eq_self, true_and, and_true, true_or, or_true, false_or, or_false, if_true, if_false, not_true_eq_false, not_false_eq_true, and_self, ne_eq, b_M_manyGasps_13, hM, fr, hg]
      (repeat' (first | apply And.intro | split)) <;> first | omega | exact i1
    · rw [if_neg c] at i1
      rw [gsU_0 c] at hg
      have z0 : ∀ t : Int, t + 0 = t := fun t => by omega
      rw [P_M_manyGasps_13]
      simp only [m_M_manyGasps, b_M_manyGasps_0, P_M_manyGasps_35, b_M_manyGasps_35, P_M_manyGasps_36, b_M_manyGasps_36, P_M_manyGasps_44, b_M_manyGasps_44, wp_aln0, wp_bald, wp_cv1, wp_cv2, wp_cv3, wp_cv4, wp_cv5, wp_cv6, wp_cv7, wp_goto, wp_iadd, wp_icge, wp_iconst, wp_iln1, wp_iln2, wp_iln3, wp_inc3, wp_iret, wp_isn1, wp_isn2, wp_isn3, wp_izeq, wp_nop, wp_zret, qmd_kd, qmd_k1, qmd_l1, qmd_gf0, qmd_k2, qmd_l2, qmd_gf1, qmd_k3, qmd_l3, qmd_gf2, qmd_k4, qmd_l4, qmd_gf4, qmd_k5, qmd_l5, qmd_gf6, qmd_k6, qmd_l6, qmd_gf7, qmd_k7, qmd_l7, qmd_gf10, qmd_k8, qmd_l8, qmd_gf11, qmd_k9, qmd_l9, qmd_gf12, qmd_gf3, qmd_pf3, qmd_gf5, qmd_pf5, qmd_gf8, qmd_pf8, qmd_gf9, qmd_pf9, wrI_row, cpI_row, row_s, row_n, row_ss, row_sw, upd_s, upd_n, ad_inj, ad_z, ad_z2, Nat.reduceEqDiff, reduceCtorEq, List.cons_append, List.nil_append, Option.toList_some, Option.toList_none, Int.toNat_natCast, List.length_cons, List.length_nil, Int.cast_ofNat_Int, Nat.reduceAdd, Nat.reduceLeDiff, Nat.reduceLT, Nat.reduceMul, Int.reduceAdd, Int.reduceSub, Int.reduceMul, Int.reduceNeg, Int.reduceLT, Int.reduceLE, Int.reduceEq, Int.reduceToNat, eq_self, true_and, and_true, true_or, or_true, false_or, or_false, if_true, if_false, not_true_eq_false, not_false_eq_true, and_self, ne_eq, b_M_manyGasps_13, hM, fr, hg, z0]
      (repeat' (first | apply And.intro | split)) <;> first | omega | exact i1
theorem manyGasps_ok {U : Vw} (hM : isMd ρ M) (hR : LR (-1) (vwM (g (ad M 1))) U) (hU : WFV (-1) U) (hQ : ∀ g1 : Nat → Nat → Int, brI g M U (U 8 0).toNat g1 → Q (some (AI (gcnV U (U 8 0).toNat))) (g1, ρ)) : WpM zt 144 [AR M] (g, ρ) Q := by
  have b8 := hU.2.2.2.2.2.2.1
  simp only [m_M_manyGasps, b_M_manyGasps_0, P_M_manyGasps_35, b_M_manyGasps_35, P_M_manyGasps_36, b_M_manyGasps_36, P_M_manyGasps_44, b_M_manyGasps_44, wp_aln0, wp_bald, wp_cv1, wp_cv2, wp_cv3, wp_cv4, wp_cv5, wp_cv6, wp_cv7, wp_goto, wp_iadd, wp_icge, wp_iconst, wp_iln1, wp_iln2, wp_iln3, wp_inc3, wp_iret, wp_isn1, wp_isn2, wp_isn3, wp_izeq, wp_nop, wp_zret, qmd_kd, qmd_k1, qmd_l1, qmd_gf0, qmd_k2, qmd_l2, qmd_gf1, qmd_k3, qmd_l3, qmd_gf2, qmd_k4, qmd_l4, qmd_gf4, qmd_k5, qmd_l5, qmd_gf6, qmd_k6, qmd_l6, qmd_gf7, qmd_k7, qmd_l7, qmd_gf10, qmd_k8, qmd_l8, qmd_gf11, qmd_k9, qmd_l9, qmd_gf12, qmd_gf3, qmd_pf3, qmd_gf5, qmd_pf5, qmd_gf8, qmd_pf8, qmd_gf9, qmd_pf9, wrI_row, cpI_row, row_s, row_n, row_ss, row_sw, upd_s, upd_n, ad_inj, ad_z, ad_z2, Nat.reduceEqDiff, reduceCtorEq, List.cons_append, List.nil_append, Option.toList_some, Option.toList_none, Int.toNat_natCast, List.length_cons, List.length_nil, Int.cast_ofNat_Int, Nat.reduceAdd, Nat.reduceLeDiff, Nat.reduceLT, Nat.reduceMul, Int.reduceAdd, Int.reduceSub, Int.reduceMul, Int.reduceNeg, Int.reduceLT, Int.reduceLE, Int.reduceEq, Int.reduceToNat, eq_self, true_and, and_true, true_or, or_true, false_or, or_false, if_true, if_false, not_true_eq_false, not_false_eq_true, and_self, ne_eq, hM]
  refine breathes_ok hM (qmd_k1 hM) (qmd_l1 hM) (by unfold ad; omega) (by unfold ad; omega) hR hU (fun g1 hI => ?_)
  have hR1 : LR (-1) (vwM (g1 (ad M 1))) U := by
    rw [hI.2.2 _ (by unfold ad; omega) (by unfold ad; omega)]
    exact hR
  have q := hQ g1 hI
  have fi := fg_inv hU (U 8 0).toNat (by omega)
  have fr := frames_ok (zt := zt) hM hR1 hU
  rcases fi with ⟨a1, a2, a3⟩ | ⟨a1, a2, a3, a4, a5⟩
  · rw [a2] at q
    rw [a1]
    have k1 : Wp zt 144 (P 144 13) [some (AR M), some (AI 99), some (AI 0), some (AI 99)] [] (g1, ρ) Q := by
      rw [P_M_manyGasps_13]
      simp only [m_M_manyGasps, b_M_manyGasps_0, P_M_manyGasps_35, b_M_manyGasps_35, P_M_manyGasps_36, b_M_manyGasps_36, P_M_manyGasps_44, b_M_manyGasps_44, wp_aln0, wp_bald, wp_cv1, wp_cv2, wp_cv3, wp_cv4, wp_cv5, wp_cv6, wp_cv7, wp_goto, wp_iadd, wp_icge, wp_iconst, wp_iln1, wp_iln2, wp_iln3, wp_inc3, wp_iret, wp_isn1, wp_isn2, wp_isn3, wp_izeq, wp_nop, wp_zret, qmd_kd, qmd_k1, qmd_l1, qmd_gf0, qmd_k2, qmd_l2, qmd_gf1, qmd_k3, qmd_l3, qmd_gf2, qmd_k4, qmd_l4, qmd_gf4, qmd_k5, qmd_l5, qmd_gf6, qmd_k6, qmd_l6, qmd_gf7, qmd_k7, qmd_l7, qmd_gf10, qmd_k8, qmd_l8, qmd_gf11, qmd_k9, qmd_l9, qmd_gf12, qmd_gf3, qmd_pf3, qmd_gf5, qmd_pf5, qmd_gf8, qmd_pf8, qmd_gf9, qmd_pf9, wrI_row, cpI_row, row_s, row_n, row_ss, row_sw, upd_s, upd_n, ad_inj, ad_z, ad_z2, Nat.reduceEqDiff, reduceCtorEq, List.cons_append, List.nil_append, Option.toList_some, Option.toList_none, Int.toNat_natCast, List.length_cons, List.length_nil, Int.cast_ofNat_Int, Nat.reduceAdd, Nat.reduceLeDiff, Nat.reduceLT, Nat.reduceMul, Int.reduceAdd, Int.reduceSub, Int.reduceMul, Int.reduceNeg, Int.reduceLT, Int.reduceLE, Int.reduceEq, Int.reduceToNat, eq_self, true_and, and_true, true_or, or_true, false_or, or_false, if_true, if_false, not_true_eq_false, not_false_eq_true, and_self, ne_eq, b_M_manyGasps_13, hM, fr]
      (repeat' (first | apply And.intro | split)) <;> first | omega | exact q
    simp only [m_M_manyGasps, b_M_manyGasps_0, P_M_manyGasps_35, b_M_manyGasps_35, P_M_manyGasps_36, b_M_manyGasps_36, P_M_manyGasps_44, b_M_manyGasps_44, wp_aln0, wp_bald, wp_cv1, wp_cv2, wp_cv3, wp_cv4, wp_cv5, wp_cv6, wp_cv7, wp_goto, wp_iadd, wp_icge, wp_iconst, wp_iln1, wp_iln2, wp_iln3, wp_inc3, wp_iret, wp_isn1, wp_isn2, wp_isn3, wp_izeq, wp_nop, wp_zret, qmd_kd, qmd_k1, qmd_l1, qmd_gf0, qmd_k2, qmd_l2, qmd_gf1, qmd_k3, qmd_l3, qmd_gf2, qmd_k4, qmd_l4, qmd_gf4, qmd_k5, qmd_l5, qmd_gf6, qmd_k6, qmd_l6, qmd_gf7, qmd_k7, qmd_l7, qmd_gf10, qmd_k8, qmd_l8, qmd_gf11, qmd_k9, qmd_l9, qmd_gf12, qmd_gf3, qmd_pf3, qmd_gf5, qmd_pf5, qmd_gf8, qmd_pf8, qmd_gf9, qmd_pf9, wrI_row, cpI_row, row_s, row_n, row_ss, row_sw, upd_s, upd_n, ad_inj, ad_z, ad_z2, Nat.reduceEqDiff, reduceCtorEq, List.cons_append, List.nil_append, Option.toList_some, Option.toList_none, Int.toNat_natCast, List.length_cons, List.length_nil, Int.cast_ofNat_Int, Nat.reduceAdd, Nat.reduceLeDiff, Nat.reduceLT, Nat.reduceMul, Int.reduceAdd, Int.reduceSub, Int.reduceMul, Int.reduceNeg, Int.reduceLT, Int.reduceLE, Int.reduceEq, Int.reduceToNat, eq_self, true_and, and_true, true_or, or_true, false_or, or_false, if_true, if_false, not_true_eq_false, not_false_eq_true, and_self, ne_eq]
    exact k1
  · have k1 := manyGasps_loop (zt := zt) (t := fgV U (U 8 0).toNat) hM hR1 hU (fun j hj => hI.2.1 j (by omega)) (by omega) q ((U 8 0).toNat - (fgV U (U 8 0).toNat).toNat) (fgV U (U 8 0).toNat).toNat (by omega)
    rw [a4, show (((fgV U (U 8 0).toNat).toNat : Nat) : Int) = fgV U (U 8 0).toNat by omega] at k1
    simp only [m_M_manyGasps, b_M_manyGasps_0, P_M_manyGasps_35, b_M_manyGasps_35, P_M_manyGasps_36, b_M_manyGasps_36, P_M_manyGasps_44, b_M_manyGasps_44, wp_aln0, wp_bald, wp_cv1, wp_cv2, wp_cv3, wp_cv4, wp_cv5, wp_cv6, wp_cv7, wp_goto, wp_iadd, wp_icge, wp_iconst, wp_iln1, wp_iln2, wp_iln3, wp_inc3, wp_iret, wp_isn1, wp_isn2, wp_isn3, wp_izeq, wp_nop, wp_zret, qmd_kd, qmd_k1, qmd_l1, qmd_gf0, qmd_k2, qmd_l2, qmd_gf1, qmd_k3, qmd_l3, qmd_gf2, qmd_k4, qmd_l4, qmd_gf4, qmd_k5, qmd_l5, qmd_gf6, qmd_k6, qmd_l6, qmd_gf7, qmd_k7, qmd_l7, qmd_gf10, qmd_k8, qmd_l8, qmd_gf11, qmd_k9, qmd_l9, qmd_gf12, qmd_gf3, qmd_pf3, qmd_gf5, qmd_pf5, qmd_gf8, qmd_pf8, qmd_gf9, qmd_pf9, wrI_row, cpI_row, row_s, row_n, row_ss, row_sw, upd_s, upd_n, ad_inj, ad_z, ad_z2, Nat.reduceEqDiff, reduceCtorEq, List.cons_append, List.nil_append, Option.toList_some, Option.toList_none, Int.toNat_natCast, List.length_cons, List.length_nil, Int.cast_ofNat_Int, Nat.reduceAdd, Nat.reduceLeDiff, Nat.reduceLT, Nat.reduceMul, Int.reduceAdd, Int.reduceSub, Int.reduceMul, Int.reduceNeg, Int.reduceLT, Int.reduceLE, Int.reduceEq, Int.reduceToNat, eq_self, true_and, and_true, true_or, or_true, false_or, or_false, if_true, if_false, not_true_eq_false, not_false_eq_true, and_self, ne_eq]
    exact k1
theorem tellAir_ok {U : Vw} (hM : isMd ρ M) (hR : LR (-1) (vwM (g (ad M 1))) U) (hU : WFV (-1) U) {f : Nat} (hf : (f : Int) < U 8 0) {w : Int} (hw : w = 4 ∨ w = 5) (hQ : ∀ g1 : Nat → Nat → Int, brI g M U (U 8 0).toNat g1 → Q (some (AI (if w = 4 then airV U (f + 1) else gsU U f))) (g1, ρ)) : WpM zt 152 [AR M, AI f, AI w] (g, ρ) Q := by
  have b8 := hU.2.2.2.2.2.2.1
  simp only [m_M_tellAir, b_M_tellAir_0, P_M_tellAir_41, b_M_tellAir_41, P_M_tellAir_42, b_M_tellAir_42, wp_aln0, wp_bald, wp_cv1, wp_cv2, wp_cv3, wp_cv4, wp_cv5, wp_cv6, wp_cv7, wp_goto, wp_iald, wp_iclt, wp_icne, wp_iconst, wp_iln1, wp_iln2, wp_iln3, wp_iret, wp_isn3, wp_izeq, wp_nop, wp_zret, qmd_kd, qmd_k1, qmd_l1, qmd_gf0, qmd_k2, qmd_l2, qmd_gf1, qmd_k3, qmd_l3, qmd_gf2, qmd_k4, qmd_l4, qmd_gf4, qmd_k5, qmd_l5, qmd_gf6, qmd_k6, qmd_l6, qmd_gf7, qmd_k7, qmd_l7, qmd_gf10, qmd_k8, qmd_l8, qmd_gf11, qmd_k9, qmd_l9, qmd_gf12, qmd_gf3, qmd_pf3, qmd_gf5, qmd_pf5, qmd_gf8, qmd_pf8, qmd_gf9, qmd_pf9, wrI_row, cpI_row, row_s, row_n, row_ss, row_sw, upd_s, upd_n, ad_inj, ad_z, ad_z2, Nat.reduceEqDiff, reduceCtorEq, List.cons_append, List.nil_append, Option.toList_some, Option.toList_none, Int.toNat_natCast, List.length_cons, List.length_nil, Int.cast_ofNat_Int, Nat.reduceAdd, Nat.reduceLeDiff, Nat.reduceLT, Nat.reduceMul, Int.reduceAdd, Int.reduceSub, Int.reduceMul, Int.reduceNeg, Int.reduceLT, Int.reduceLE, Int.reduceEq, Int.reduceToNat, eq_self, true_and, and_true, true_or, or_true, false_or, or_false, if_true, if_false, not_true_eq_false, not_false_eq_true, and_self, ne_eq, hM]
  refine breathes_ok hM (qmd_k1 hM) (qmd_l1 hM) (by unfold ad; omega) (by unfold ad; omega) hR hU (fun g1 hI => ?_)
  have q := hQ g1 hI
  have ra := hI.1 f (by omega)
  have rg := hI.2.1 f (by omega)
  have fi := fg_inv hU (U 8 0).toNat (by omega)
  have fgb : 0 ≤ fgV U (U 8 0).toNat ∧ fgV U (U 8 0).toNat ≤ 99 := by omega
  clear fi
  rcases hw with rfl | rfl
  · rw [if_pos rfl] at q
    simp only [m_M_tellAir, b_M_tellAir_0, P_M_tellAir_41, b_M_tellAir_41, P_M_tellAir_42, b_M_tellAir_42, wp_aln0, wp_bald, wp_cv1, wp_cv2, wp_cv3, wp_cv4, wp_cv5, wp_cv6, wp_cv7, wp_goto, wp_iald, wp_iclt, wp_icne, wp_iconst, wp_iln1, wp_iln2, wp_iln3, wp_iret, wp_isn3, wp_izeq, wp_nop, wp_zret, qmd_kd, qmd_k1, qmd_l1, qmd_gf0, qmd_k2, qmd_l2, qmd_gf1, qmd_k3, qmd_l3, qmd_gf2, qmd_k4, qmd_l4, qmd_gf4, qmd_k5, qmd_l5, qmd_gf6, qmd_k6, qmd_l6, qmd_gf7, qmd_k7, qmd_l7, qmd_gf10, qmd_k8, qmd_l8, qmd_gf11, qmd_k9, qmd_l9, qmd_gf12, qmd_gf3, qmd_pf3, qmd_gf5, qmd_pf5, qmd_gf8, qmd_pf8, qmd_gf9, qmd_pf9, wrI_row, cpI_row, row_s, row_n, row_ss, row_sw, upd_s, upd_n, ad_inj, ad_z, ad_z2, Nat.reduceEqDiff, reduceCtorEq, List.cons_append, List.nil_append, Option.toList_some, Option.toList_none, Int.toNat_natCast, List.length_cons, List.length_nil, Int.cast_ofNat_Int, Nat.reduceAdd, Nat.reduceLeDiff, Nat.reduceLT, Nat.reduceMul, Int.reduceAdd, Int.reduceSub, Int.reduceMul, Int.reduceNeg, Int.reduceLT, Int.reduceLE, Int.reduceEq, Int.reduceToNat, eq_self, true_and, and_true, true_or, or_true, false_or, or_false, if_true, if_false, not_true_eq_false, not_false_eq_true, and_self, ne_eq, hM, ra]
    (repeat' (first | apply And.intro | split)) <;> first | omega | exact q
  · rw [if_neg (by omega)] at q
    by_cases c : airV U f + chgV U (kndV U f) < 0
    · have fl := fg_le (U := U) (U 8 0).toNat f (by omega) (by omega) c
      rw [gsU_1 c] at q rg
      simp only [m_M_tellAir, b_M_tellAir_0, P_M_tellAir_23, b_M_tellAir_23, P_M_tellAir_41, b_M_tellAir_41, P_M_tellAir_42, b_M_tellAir_42, wp_aln0, wp_bald, wp_cv1, wp_cv2, wp_cv3, wp_cv4, wp_cv5, wp_cv6, wp_cv7, wp_goto, wp_iald, wp_iclt, wp_icne, wp_iconst, wp_iln1, wp_iln2, wp_iln3, wp_iret, wp_isn3, wp_izeq, wp_nop, wp_zret, qmd_kd, qmd_k1, qmd_l1, qmd_gf0, qmd_k2, qmd_l2, qmd_gf1, qmd_k3, qmd_l3, qmd_gf2, qmd_k4, qmd_l4, qmd_gf4, qmd_k5, qmd_l5, qmd_gf6, qmd_k6, qmd_l6, qmd_gf7, qmd_k7, qmd_l7, qmd_gf10, qmd_k8, qmd_l8, qmd_gf11, qmd_k9, qmd_l9, qmd_gf12, qmd_gf3, qmd_pf3, qmd_gf5, qmd_pf5, qmd_gf8, qmd_pf8, qmd_gf9, qmd_pf9, wrI_row, cpI_row, row_s, row_n, row_ss, row_sw, upd_s, upd_n, ad_inj, ad_z, ad_z2, Nat.reduceEqDiff, reduceCtorEq, List.cons_append, List.nil_append, Option.toList_some, Option.toList_none, Int.toNat_natCast, List.length_cons, List.length_nil, Int.cast_ofNat_Int, Nat.reduceAdd, Nat.reduceLeDiff, Nat.reduceLT, Nat.reduceMul, Int.reduceAdd, Int.reduceSub, Int.reduceMul, Int.reduceNeg, Int.reduceLT, Int.reduceLE, Int.reduceEq, Int.reduceToNat, eq_self, true_and, and_true, true_or, or_true, false_or, or_false, if_true, if_false, not_true_eq_false, not_false_eq_true, and_self, ne_eq, hM, rg]
      (repeat' (first | apply And.intro | split)) <;> first | omega | exact q
    · rw [gsU_0 c] at q rg
      simp only [m_M_tellAir, b_M_tellAir_0, P_M_tellAir_23, b_M_tellAir_23, P_M_tellAir_41, b_M_tellAir_41, P_M_tellAir_42, b_M_tellAir_42, wp_aln0, wp_bald, wp_cv1, wp_cv2, wp_cv3, wp_cv4, wp_cv5, wp_cv6, wp_cv7, wp_goto, wp_iald, wp_iclt, wp_icne, wp_iconst, wp_iln1, wp_iln2, wp_iln3, wp_iret, wp_isn3, wp_izeq, wp_nop, wp_zret, qmd_kd, qmd_k1, qmd_l1, qmd_gf0, qmd_k2, qmd_l2, qmd_gf1, qmd_k3, qmd_l3, qmd_gf2, qmd_k4, qmd_l4, qmd_gf4, qmd_k5, qmd_l5, qmd_gf6, qmd_k6, qmd_l6, qmd_gf7, qmd_k7, qmd_l7, qmd_gf10, qmd_k8, qmd_l8, qmd_gf11, qmd_k9, qmd_l9, qmd_gf12, qmd_gf3, qmd_pf3, qmd_gf5, qmd_pf5, qmd_gf8, qmd_pf8, qmd_gf9, qmd_pf9, wrI_row, cpI_row, row_s, row_n, row_ss, row_sw, upd_s, upd_n, ad_inj, ad_z, ad_z2, Nat.reduceEqDiff, reduceCtorEq, List.cons_append, List.nil_append, Option.toList_some, Option.toList_none, Int.toNat_natCast, List.length_cons, List.length_nil, Int.cast_ofNat_Int, Nat.reduceAdd, Nat.reduceLeDiff, Nat.reduceLT, Nat.reduceMul, Int.reduceAdd, Int.reduceSub, Int.reduceMul, Int.reduceNeg, Int.reduceLT, Int.reduceLE, Int.reduceEq, Int.reduceToNat, eq_self, true_and, and_true, true_or, or_true, false_or, or_false, if_true, if_false, not_true_eq_false, not_false_eq_true, and_self, ne_eq, hM, rg]
      (repeat' (first | apply And.intro | split)) <;> first | omega | exact q
theorem d_count (hX : RepM g ρ M X) (hW : WFX X) {w : Int} (hw : i32 w) (hQ : MdQ g ρ M (sCount w X, X) Q) : WpM zt 145 [AR M, AI w] (g, ρ) Q := by
  obtain ⟨hM, hS, -⟩ := id hX
  have hR := hS.1
  have hU := hW.1.1
  have e0 := m_0 hR
  have e5 := m_5 hR
  have b0 := hU.1
  have b5 := hU.2.2.2.2.1
  have b8 := hU.2.2.2.2.2.2.1
  unfold sCount at hQ
  by_cases w0 : w = 0
  · rw [if_pos w0] at hQ
    subst w0
    have q := hQ.ro hX
    simp only [m_M_count, b_M_count_0, P_M_count_52, b_M_count_52, P_M_count_59, b_M_count_59, P_M_count_67, b_M_count_67, P_M_count_72, b_M_count_72, P_M_count_79, b_M_count_79, P_M_count_87, b_M_count_87, P_M_count_92, b_M_count_92, P_M_count_110, b_M_count_110, P_M_count_115, b_M_count_115, P_M_count_120, b_M_count_120, wp_aln0, wp_bipush, wp_cv1, wp_cv2, wp_cv3, wp_cv4, wp_cv5, wp_cv6, wp_cv7, wp_iadd, wp_iald, wp_iconst, wp_iln1, wp_iret, wp_sipush, wp_zret, qmd_kd, qmd_k1, qmd_l1, qmd_gf0, qmd_k2, qmd_l2, qmd_gf1, qmd_k3, qmd_l3, qmd_gf2, qmd_k4, qmd_l4, qmd_gf4, qmd_k5, qmd_l5, qmd_gf6, qmd_k6, qmd_l6, qmd_gf7, qmd_k7, qmd_l7, qmd_gf10, qmd_k8, qmd_l8, qmd_gf11, qmd_k9, qmd_l9, qmd_gf12, qmd_gf3, qmd_pf3, qmd_gf5, qmd_pf5, qmd_gf8, qmd_pf8, qmd_gf9, qmd_pf9, wrI_row, cpI_row, row_s, row_n, row_ss, row_sw, upd_s, upd_n, ad_inj, ad_z, ad_z2, Nat.reduceEqDiff, reduceCtorEq, List.cons_append, List.nil_append, Option.toList_some, Option.toList_none, Int.toNat_natCast, List.length_cons, List.length_nil, Int.cast_ofNat_Int, Nat.reduceAdd, Nat.reduceLeDiff, Nat.reduceLT, Nat.reduceMul, Int.reduceAdd, Int.reduceSub, Int.reduceMul, Int.reduceNeg, Int.reduceLT, Int.reduceLE, Int.reduceEq, Int.reduceToNat, eq_self, true_and, and_true, true_or, or_true, false_or, or_false, if_true, if_false, not_true_eq_false, not_false_eq_true, and_self, ne_eq, hM, e0, wp_tsw_i (v := 0) (lo := 0) (hi := 8) (t := 52) (ts := [52, 59, 67, 72, 79, 87, 92, 110, 115]) (by omega) (rng_32 (by unfold i32; omega)) rfl]
    (repeat' (first | apply And.intro | split)) <;> first | omega | exact q
  by_cases w1 : w = 1
  · rw [if_neg w0, if_pos w1] at hQ
    subst w1
    have q := hQ.ro hX
    simp only [m_M_count, b_M_count_0, P_M_count_52, b_M_count_52, P_M_count_59, b_M_count_59, P_M_count_67, b_M_count_67, P_M_count_72, b_M_count_72, P_M_count_79, b_M_count_79, P_M_count_87, b_M_count_87, P_M_count_92, b_M_count_92, P_M_count_110, b_M_count_110, P_M_count_115, b_M_count_115, P_M_count_120, b_M_count_120, wp_aln0, wp_bipush, wp_cv1, wp_cv2, wp_cv3, wp_cv4, wp_cv5, wp_cv6, wp_cv7, wp_iadd, wp_iald, wp_iconst, wp_iln1, wp_iret, wp_sipush, wp_zret, qmd_kd, qmd_k1, qmd_l1, qmd_gf0, qmd_k2, qmd_l2, qmd_gf1, qmd_k3, qmd_l3, qmd_gf2, qmd_k4, qmd_l4, qmd_gf4, qmd_k5, qmd_l5, qmd_gf6, qmd_k6, qmd_l6, qmd_gf7, qmd_k7, qmd_l7, qmd_gf10, qmd_k8, qmd_l8, qmd_gf11, qmd_k9, qmd_l9, qmd_gf12, qmd_gf3, qmd_pf3, qmd_gf5, qmd_pf5, qmd_gf8, qmd_pf8, qmd_gf9, qmd_pf9, wrI_row, cpI_row, row_s, row_n, row_ss, row_sw, upd_s, upd_n, ad_inj, ad_z, ad_z2, Nat.reduceEqDiff, reduceCtorEq, List.cons_append, List.nil_append, Option.toList_some, Option.toList_none, Int.toNat_natCast, List.length_cons, List.length_nil, Int.cast_ofNat_Int, Nat.reduceAdd, Nat.reduceLeDiff, Nat.reduceLT, Nat.reduceMul, Int.reduceAdd, Int.reduceSub, Int.reduceMul, Int.reduceNeg, Int.reduceLT, Int.reduceLE, Int.reduceEq, Int.reduceToNat, eq_self, true_and, and_true, true_or, or_true, false_or, or_false, if_true, if_false, not_true_eq_false, not_false_eq_true, and_self, ne_eq, hM, e5, wp_tsw_i (v := 1) (lo := 0) (hi := 8) (t := 59) (ts := [52, 59, 67, 72, 79, 87, 92, 110, 115]) (by omega) (rng_32 (by unfold i32; omega)) rfl]
    (repeat' (first | apply And.intro | split)) <;> first | omega | exact q
  by_cases w2 : w = 2
  · rw [if_neg w0, if_neg w1, if_pos w2] at hQ
    subst w2
    have q := hQ.ro hX
    have fr := frames_ok (zt := zt) hM hR hU
    simp only [m_M_count, b_M_count_0, P_M_count_52, b_M_count_52, P_M_count_59, b_M_count_59, P_M_count_67, b_M_count_67, P_M_count_72, b_M_count_72, P_M_count_79, b_M_count_79, P_M_count_87, b_M_count_87, P_M_count_92, b_M_count_92, P_M_count_110, b_M_count_110, P_M_count_115, b_M_count_115, P_M_count_120, b_M_count_120, wp_aln0, wp_bipush, wp_cv1, wp_cv2, wp_cv3, wp_cv4, wp_cv5, wp_cv6, wp_cv7, wp_iadd, wp_iald, wp_iconst, wp_iln1, wp_iret, wp_sipush, wp_zret, qmd_kd, qmd_k1, qmd_l1, qmd_gf0, qmd_k2, qmd_l2, qmd_gf1, qmd_k3, qmd_l3, qmd_gf2, qmd_k4, qmd_l4, qmd_gf4, qmd_k5, qmd_l5, qmd_gf6, qmd_k6, qmd_l6, qmd_gf7, qmd_k7, qmd_l7, qmd_gf10, qmd_k8, qmd_l8, qmd_gf11, qmd_k9, qmd_l9, qmd_gf12, qmd_gf3, qmd_pf3, qmd_gf5, qmd_pf5, qmd_gf8, qmd_pf8, qmd_gf9, qmd_pf9, wrI_row, cpI_row, row_s, row_n, row_ss, row_sw, upd_s, upd_n, ad_inj, ad_z, ad_z2, Nat.reduceEqDiff, reduceCtorEq, List.cons_append, List.nil_append, Option.toList_some, Option.toList_none, Int.toNat_natCast, List.length_cons, List.length_nil, Int.cast_ofNat_Int, Nat.reduceAdd, Nat.reduceLeDiff, Nat.reduceLT, Nat.reduceMul, Int.reduceAdd, Int.reduceSub, Int.reduceMul, Int.reduceNeg, Int.reduceLT, Int.reduceLE, Int.reduceEq, Int.reduceToNat, eq_self, true_and, and_true, true_or, or_true, false_or, or_false, if_true, if_false, not_true_eq_false, not_false_eq_true, and_self, ne_eq, hM, fr, wp_tsw_i (v := 2) (lo := 0) (hi := 8) (t := 67) (ts := [52, 59, 67, 72, 79, 87, 92, 110, 115]) (by omega) (rng_32 (by unfold i32; omega)) rfl]
    (repeat' (first | apply And.intro | split)) <;> first | omega | exact q
  by_cases w3 : w = 3
  · rw [if_neg w0, if_neg w1, if_neg w2, if_pos w3] at hQ
    subst w3
    have q := hQ.ro hX
    have mo := manyOf_ok (zt := zt) hM hR hU (k := 9) (row := 119) (Or.inl ⟨rfl, rfl⟩)
    simp only [m_M_count, b_M_count_0, P_M_count_52, b_M_count_52, P_M_count_59, b_M_count_59, P_M_count_67, b_M_count_67, P_M_count_72, b_M_count_72, P_M_count_79, b_M_count_79, P_M_count_87, b_M_count_87, P_M_count_92, b_M_count_92, P_M_count_110, b_M_count_110, P_M_count_115, b_M_count_115, P_M_count_120, b_M_count_120, wp_aln0, wp_bipush, wp_cv1, wp_cv2, wp_cv3, wp_cv4, wp_cv5, wp_cv6, wp_cv7, wp_iadd, wp_iald, wp_iconst, wp_iln1, wp_iret, wp_sipush, wp_zret, qmd_kd, qmd_k1, qmd_l1, qmd_gf0, qmd_k2, qmd_l2, qmd_gf1, qmd_k3, qmd_l3, qmd_gf2, qmd_k4, qmd_l4, qmd_gf4, qmd_k5, qmd_l5, qmd_gf6, qmd_k6, qmd_l6, qmd_gf7, qmd_k7, qmd_l7, qmd_gf10, qmd_k8, qmd_l8, qmd_gf11, qmd_k9, qmd_l9, qmd_gf12, qmd_gf3, qmd_pf3, qmd_gf5, qmd_pf5, qmd_gf8, qmd_pf8, qmd_gf9, qmd_pf9, wrI_row, cpI_row, row_s, row_n, row_ss, row_sw, upd_s, upd_n, ad_inj, ad_z, ad_z2, Nat.reduceEqDiff, reduceCtorEq, List.cons_append, List.nil_append, Option.toList_some, Option.toList_none, Int.toNat_natCast, List.length_cons, List.length_nil, Int.cast_ofNat_Int, Nat.reduceAdd, Nat.reduceLeDiff, Nat.reduceLT, Nat.reduceMul, Int.reduceAdd, Int.reduceSub, Int.reduceMul, Int.reduceNeg, Int.reduceLT, Int.reduceLE, Int.reduceEq, Int.reduceToNat, eq_self, true_and, and_true, true_or, or_true, false_or, or_false, if_true, if_false, not_true_eq_false, not_false_eq_true, and_self, ne_eq, hM, mo, wp_tsw_i (v := 3) (lo := 0) (hi := 8) (t := 72) (ts := [52, 59, 67, 72, 79, 87, 92, 110, 115]) (by omega) (rng_32 (by unfold i32; omega)) rfl]
    (repeat' (first | apply And.intro | split)) <;> first | omega | exact q
  by_cases w4 : w = 4
  · rw [if_neg w0, if_neg w1, if_neg w2, if_neg w3, if_pos w4] at hQ
    subst w4
    have q := hQ.ro hX
    have mo := manyOf_ok (zt := zt) hM hR hU (k := 10) (row := 218) (Or.inr ⟨rfl, rfl⟩)
    simp only [m_M_count, b_M_count_0, P_M_count_52, b_M_count_52, P_M_count_59, b_M_count_59, P_M_count_67, b_M_count_67, P_M_count_72, b_M_count_72, P_M_count_79, b_M_count_79, P_M_count_87, b_M_count_87, P_M_count_92, b_M_count_92, P_M_count_110, b_M_count_110, P_M_count_115, b_M_count_115, P_M_count_120, b_M_count_120, wp_aln0, wp_bipush, wp_cv1, wp_cv2, wp_cv3, wp_cv4, wp_cv5, wp_cv6, wp_cv7, wp_iadd, wp_iald, wp_iconst, wp_iln1, wp_iret, wp_sipush, wp_zret, qmd_kd, qmd_k1, qmd_l1, qmd_gf0, qmd_k2, qmd_l2, qmd_gf1, qmd_k3, qmd_l3, qmd_gf2, qmd_k4, qmd_l4, qmd_gf4, qmd_k5, qmd_l5, qmd_gf6, qmd_k6, qmd_l6, qmd_gf7, qmd_k7, qmd_l7, qmd_gf10, qmd_k8, qmd_l8, qmd_gf11, qmd_k9, qmd_l9, qmd_gf12, qmd_gf3, qmd_pf3, qmd_gf5, qmd_pf5, qmd_gf8, qmd_pf8, qmd_gf9, qmd_pf9, wrI_row, cpI_row, row_s, row_n, row_ss, row_sw, upd_s, upd_n, ad_inj, ad_z, ad_z2, Nat.reduceEqDiff, reduceCtorEq, List.cons_append, List.nil_append, Option.toList_some, Option.toList_none, Int.toNat_natCast, List.length_cons, List.length_nil, Int.cast_ofNat_Int, Nat.reduceAdd, Nat.reduceLeDiff, Nat.reduceLT, Nat.reduceMul, Int.reduceAdd, Int.reduceSub, Int.reduceMul, Int.reduceNeg, Int.reduceLT, Int.reduceLE, Int.reduceEq, Int.reduceToNat, eq_self, true_and, and_true, true_or, or_true, false_or, or_false, if_true, if_false, not_true_eq_false, not_false_eq_true, and_self, ne_eq, hM, mo, wp_tsw_i (v := 4) (lo := 0) (hi := 8) (t := 79) (ts := [52, 59, 67, 72, 79, 87, 92, 110, 115]) (by omega) (rng_32 (by unfold i32; omega)) rfl]
    (repeat' (first | apply And.intro | split)) <;> first | omega | exact q
  by_cases w5 : w = 5
  · rw [if_neg w0, if_neg w1, if_neg w2, if_neg w3, if_neg w4, if_pos w5] at hQ
    subst w5
    simp only [m_M_count, b_M_count_0, P_M_count_52, b_M_count_52, P_M_count_59, b_M_count_59, P_M_count_67, b_M_count_67, P_M_count_72, b_M_count_72, P_M_count_79, b_M_count_79, P_M_count_87, b_M_count_87, P_M_count_92, b_M_count_92, P_M_count_110, b_M_count_110, P_M_count_115, b_M_count_115, P_M_count_120, b_M_count_120, wp_aln0, wp_bipush, wp_cv1, wp_cv2, wp_cv3, wp_cv4, wp_cv5, wp_cv6, wp_cv7, wp_iadd, wp_iald, wp_iconst, wp_iln1, wp_iret, wp_sipush, wp_zret, qmd_kd, qmd_k1, qmd_l1, qmd_gf0, qmd_k2, qmd_l2, qmd_gf1, qmd_k3, qmd_l3, qmd_gf2, qmd_k4, qmd_l4, qmd_gf4, qmd_k5, qmd_l5, qmd_gf6, qmd_k6, qmd_l6, qmd_gf7, qmd_k7, qmd_l7, qmd_gf10, qmd_k8, qmd_l8, qmd_gf11, qmd_k9, qmd_l9, qmd_gf12, qmd_gf3, qmd_pf3, qmd_gf5, qmd_pf5, qmd_gf8, qmd_pf8, qmd_gf9, qmd_pf9, wrI_row, cpI_row, row_s, row_n, row_ss, row_sw, upd_s, upd_n, ad_inj, ad_z, ad_z2, Nat.reduceEqDiff, reduceCtorEq, List.cons_append, List.nil_append, Option.toList_some, Option.toList_none, Int.toNat_natCast, List.length_cons, List.length_nil, Int.cast_ofNat_Int, Nat.reduceAdd, Nat.reduceLeDiff, Nat.reduceLT, Nat.reduceMul, Int.reduceAdd, Int.reduceSub, Int.reduceMul, Int.reduceNeg, Int.reduceLT, Int.reduceLE, Int.reduceEq, Int.reduceToNat, eq_self, true_and, and_true, true_or, or_true, false_or, or_false, if_true, if_false, not_true_eq_false, not_false_eq_true, and_self, ne_eq, hM, wp_tsw_i (v := 5) (lo := 0) (hi := 8) (t := 87) (ts := [52, 59, 67, 72, 79, 87, 92, 110, 115]) (by omega) (rng_32 (by unfold i32; omega)) rfl]
    refine manyGasps_ok hM hR hU (fun g1 hI => ?_)
    have q := hQ g1 (hI.rep hX) (fun x z => hI.2.2 x (by unfold ad at *; omega) (by unfold ad at *; omega))
    simp only [m_M_count, b_M_count_0, P_M_count_52, b_M_count_52, P_M_count_59, b_M_count_59, P_M_count_67, b_M_count_67, P_M_count_72, b_M_count_72, P_M_count_79, b_M_count_79, P_M_count_87, b_M_count_87, P_M_count_92, b_M_count_92, P_M_count_110, b_M_count_110, P_M_count_115, b_M_count_115, P_M_count_120, b_M_count_120, wp_aln0, wp_bipush, wp_cv1, wp_cv2, wp_cv3, wp_cv4, wp_cv5, wp_cv6, wp_cv7, wp_iadd, wp_iald, wp_iconst, wp_iln1, wp_iret, wp_sipush, wp_zret, qmd_kd, qmd_k1, qmd_l1, qmd_gf0, qmd_k2, qmd_l2, qmd_gf1, qmd_k3, qmd_l3, qmd_gf2, qmd_k4, qmd_l4, qmd_gf4, qmd_k5, qmd_l5, qmd_gf6, qmd_k6, qmd_l6, qmd_gf7, qmd_k7, qmd_l7, qmd_gf10, qmd_k8, qmd_l8, qmd_gf11, qmd_k9, qmd_l9, qmd_gf12, qmd_gf3, qmd_pf3, qmd_gf5, qmd_pf5, qmd_gf8, qmd_pf8, qmd_gf9, qmd_pf9, wrI_row, cpI_row, row_s, row_n, row_ss, row_sw, upd_s, upd_n, ad_inj, ad_z, ad_z2, Nat.reduceEqDiff, reduceCtorEq, List.cons_append, List.nil_append, Option.toList_some, Option.toList_none, Int.toNat_natCast, List.length_cons, List.length_nil, Int.cast_ofNat_Int, Nat.reduceAdd, Nat.reduceLeDiff, Nat.reduceLT, Nat.reduceMul, Int.reduceAdd, Int.reduceSub, Int.reduceMul, Int.reduceNeg, Int.reduceLT, Int.reduceLE, Int.reduceEq, Int.reduceToNat, eq_self, true_and, and_true, true_or, or_true, false_or, or_false, if_true, if_false, not_true_eq_false, not_false_eq_true, and_self, ne_eq]
    exact q
  by_cases w6 : w = 6
  · rw [if_neg w0, if_neg w1, if_neg w2, if_neg w3, if_neg w4, if_neg w5, if_pos w6] at hQ
    subst w6
    have q := hQ.ro hX
    obtain ⟨-, k0, k1, -, -⟩ := hX.2.1
    unfold tkU at q
    rw [← k0, ← k1] at q
    simp only [m_M_count, b_M_count_0, P_M_count_52, b_M_count_52, P_M_count_59, b_M_count_59, P_M_count_67, b_M_count_67, P_M_count_72, b_M_count_72, P_M_count_79, b_M_count_79, P_M_count_87, b_M_count_87, P_M_count_92, b_M_count_92, P_M_count_110, b_M_count_110, P_M_count_115, b_M_count_115, P_M_count_120, b_M_count_120, wp_aln0, wp_bipush, wp_cv1, wp_cv2, wp_cv3, wp_cv4, wp_cv5, wp_cv6, wp_cv7, wp_iadd, wp_iald, wp_iconst, wp_iln1, wp_iret, wp_sipush, wp_zret, qmd_kd, qmd_k1, qmd_l1, qmd_gf0, qmd_k2, qmd_l2, qmd_gf1, qmd_k3, qmd_l3, qmd_gf2, qmd_k4, qmd_l4, qmd_gf4, qmd_k5, qmd_l5, qmd_gf6, qmd_k6, qmd_l6, qmd_gf7, qmd_k7, qmd_l7, qmd_gf10, qmd_k8, qmd_l8, qmd_gf11, qmd_k9, qmd_l9, qmd_gf12, qmd_gf3, qmd_pf3, qmd_gf5, qmd_pf5, qmd_gf8, qmd_pf8, qmd_gf9, qmd_pf9, wrI_row, cpI_row, row_s, row_n, row_ss, row_sw, upd_s, upd_n, ad_inj, ad_z, ad_z2, Nat.reduceEqDiff, reduceCtorEq, List.cons_append, List.nil_append, Option.toList_some, Option.toList_none, Int.toNat_natCast, List.length_cons, List.length_nil, Int.cast_ofNat_Int, Nat.reduceAdd, Nat.reduceLeDiff, Nat.reduceLT, Nat.reduceMul, Int.reduceAdd, Int.reduceSub, Int.reduceMul, Int.reduceNeg, Int.reduceLT, Int.reduceLE, Int.reduceEq, Int.reduceToNat, eq_self, true_and, and_true, true_or, or_true, false_or, or_false, if_true, if_false, not_true_eq_false, not_false_eq_true, and_self, ne_eq, hM, wp_tsw_i (v := 6) (lo := 0) (hi := 8) (t := 92) (ts := [52, 59, 67, 72, 79, 87, 92, 110, 115]) (by omega) (rng_32 (by unfold i32; omega)) rfl]
    (repeat' (first | apply And.intro | split)) <;> first | omega | exact q
  by_cases w7 : w = 7
  · rw [if_neg w0, if_neg w1, if_neg w2, if_neg w3, if_neg w4, if_neg w5, if_neg w6, if_pos w7] at hQ
    subst w7
    have q := hQ.ro hX
    have x4 : g M 3 = X.2.1 := hX.2.2.2.1
    simp only [m_M_count, b_M_count_0, P_M_count_52, b_M_count_52, P_M_count_59, b_M_count_59, P_M_count_67, b_M_count_67, P_M_count_72, b_M_count_72, P_M_count_79, b_M_count_79, P_M_count_87, b_M_count_87, P_M_count_92, b_M_count_92, P_M_count_110, b_M_count_110, P_M_count_115, b_M_count_115, P_M_count_120, b_M_count_120, wp_aln0, wp_bipush, wp_cv1, wp_cv2, wp_cv3, wp_cv4, wp_cv5, wp_cv6, wp_cv7, wp_iadd, wp_iald, wp_iconst, wp_iln1, wp_iret, wp_sipush, wp_zret, qmd_kd, qmd_k1, qmd_l1, qmd_gf0, qmd_k2, qmd_l2, qmd_gf1, qmd_k3, qmd_l3, qmd_gf2, qmd_k4, qmd_l4, qmd_gf4, qmd_k5, qmd_l5, qmd_gf6, qmd_k6, qmd_l6, qmd_gf7, qmd_k7, qmd_l7, qmd_gf10, qmd_k8, qmd_l8, qmd_gf11, qmd_k9, qmd_l9, qmd_gf12, qmd_gf3, qmd_pf3, qmd_gf5, qmd_pf5, qmd_gf8, qmd_pf8, qmd_gf9, qmd_pf9, wrI_row, cpI_row, row_s, row_n, row_ss, row_sw, upd_s, upd_n, ad_inj, ad_z, ad_z2, Nat.reduceEqDiff, reduceCtorEq, List.cons_append, List.nil_append, Option.toList_some, Option.toList_none, Int.toNat_natCast, List.length_cons, List.length_nil, Int.cast_ofNat_Int, Nat.reduceAdd, Nat.reduceLeDiff, Nat.reduceLT, Nat.reduceMul, Int.reduceAdd, Int.reduceSub, Int.reduceMul, Int.reduceNeg, Int.reduceLT, Int.reduceLE, Int.reduceEq, Int.reduceToNat, eq_self, true_and, and_true, true_or, or_true, false_or, or_false, if_true, if_false, not_true_eq_false, not_false_eq_true, and_self, ne_eq, hM, x4, wp_tsw_i (v := 7) (lo := 0) (hi := 8) (t := 110) (ts := [52, 59, 67, 72, 79, 87, 92, 110, 115]) (by omega) (rng_32 (by unfold i32; omega)) rfl]
    (repeat' (first | apply And.intro | split)) <;> first | omega | exact q
  by_cases w8 : w = 8
  · rw [if_neg w0, if_neg w1, if_neg w2, if_neg w3, if_neg w4, if_neg w5, if_neg w6, if_neg w7, if_pos w8] at hQ
    subst w8
    have q := hQ.ro hX
    have x5 : g M 5 = X.2.2.2.1 := hX.2.2.2.2.1
    simp only [m_M_count, b_M_count_0, P_M_count_52, b_M_count_52, P_M_count_59, b_M_count_59, P_M_count_67, b_M_count_67, P_M_count_72, b_M_count_72, P_M_count_79, b_M_count_79, P_M_count_87, b_M_count_87, P_M_count_92, b_M_count_92, P_M_count_110, b_M_count_110, P_M_count_115, b_M_count_115, P_M_count_120, b_M_count_120, wp_aln0, wp_bipush, wp_cv1, wp_cv2, wp_cv3, wp_cv4, wp_cv5, wp_cv6, wp_cv7, wp_iadd, wp_iald, wp_iconst, wp_iln1, wp_iret, wp_sipush, wp_zret, qmd_kd, qmd_k1, qmd_l1, qmd_gf0, qmd_k2, qmd_l2, qmd_gf1, qmd_k3, qmd_l3, qmd_gf2, qmd_k4, qmd_l4, qmd_gf4, qmd_k5, qmd_l5, qmd_gf6, qmd_k6, qmd_l6, qmd_gf7, qmd_k7, qmd_l7, qmd_gf10, qmd_k8, qmd_l8, qmd_gf11, qmd_k9, qmd_l9, qmd_gf12, qmd_gf3, qmd_pf3, qmd_gf5, qmd_pf5, qmd_gf8, qmd_pf8, qmd_gf9, qmd_pf9, wrI_row, cpI_row, row_s, row_n, row_ss, row_sw, upd_s, upd_n, ad_inj, ad_z, ad_z2, Nat.reduceEqDiff, reduceCtorEq, List.cons_append, List.nil_append, Option.toList_some, Option.toList_none, Int.toNat_natCast, List.length_cons, List.length_nil, Int.cast_ofNat_Int, Nat.reduceAdd, Nat.reduceLeDiff, Nat.reduceLT, Nat.reduceMul, Int.reduceAdd, Int.reduceSub, Int.reduceMul, Int.reduceNeg, Int.reduceLT, Int.reduceLE, Int.reduceEq, Int.reduceToNat, eq_self, true_and, and_true, true_or, or_true, false_or, or_false, if_true, if_false, not_true_eq_false, not_false_eq_true, and_self, ne_eq, hM, x5, wp_tsw_i (v := 8) (lo := 0) (hi := 8) (t := 115) (ts := [52, 59, 67, 72, 79, 87, 92, 110, 115]) (by omega) (rng_32 (by unfold i32; omega)) rfl]
    (repeat' (first | apply And.intro | split)) <;> first | omega | exact q
  · rw [if_neg w0, if_neg w1, if_neg w2, if_neg w3, if_neg w4, if_neg w5, if_neg w6, if_neg w7, if_neg w8] at hQ
    have q := hQ.ro hX
    simp only [m_M_count, b_M_count_0, P_M_count_52, b_M_count_52, P_M_count_59, b_M_count_59, P_M_count_67, b_M_count_67, P_M_count_72, b_M_count_72, P_M_count_79, b_M_count_79, P_M_count_87, b_M_count_87, P_M_count_92, b_M_count_92, P_M_count_110, b_M_count_110, P_M_count_115, b_M_count_115, P_M_count_120, b_M_count_120, wp_aln0, wp_bipush, wp_cv1, wp_cv2, wp_cv3, wp_cv4, wp_cv5, wp_cv6, wp_cv7, wp_iadd, wp_iald, wp_iconst, wp_iln1, wp_iret, wp_sipush, wp_zret, qmd_kd, qmd_k1, qmd_l1, qmd_gf0, qmd_k2, qmd_l2, qmd_gf1, qmd_k3, qmd_l3, qmd_gf2, qmd_k4, qmd_l4, qmd_gf4, qmd_k5, qmd_l5, qmd_gf6, qmd_k6, qmd_l6, qmd_gf7, qmd_k7, qmd_l7, qmd_gf10, qmd_k8, qmd_l8, qmd_gf11, qmd_k9, qmd_l9, qmd_gf12, qmd_gf3, qmd_pf3, qmd_gf5, qmd_pf5, qmd_gf8, qmd_pf8, qmd_gf9, qmd_pf9, wrI_row, cpI_row, row_s, row_n, row_ss, row_sw, upd_s, upd_n, ad_inj, ad_z, ad_z2, Nat.reduceEqDiff, reduceCtorEq, List.cons_append, List.nil_append, Option.toList_some, Option.toList_none, Int.toNat_natCast, List.length_cons, List.length_nil, Int.cast_ofNat_Int, Nat.reduceAdd, Nat.reduceLeDiff, Nat.reduceLT, Nat.reduceMul, Int.reduceAdd, Int.reduceSub, Int.reduceMul, Int.reduceNeg, Int.reduceLT, Int.reduceLE, Int.reduceEq, Int.reduceToNat, eq_self, true_and, and_true, true_or, or_true, false_or, or_false, if_true, if_false, not_true_eq_false, not_false_eq_true, and_self, ne_eq, hM, wp_tsw_o (v := w) (lo := 0) (hi := 8) (by omega) (rng_32 hw)]
    (repeat' (first | apply And.intro | split)) <;> first | omega | exact q
end MCT
