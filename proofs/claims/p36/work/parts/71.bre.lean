/-! the law's method breathes -/
section XBR
variable {zt : Nat → Nat} {L : Nat} {g : Nat → Nat → Int} {ρ : Ri} {X : XV}
theorem gcn_gsg {U : Vw} (hU : WFV (-1) U) : ∀ f : Nat, (f : Int) ≤ U 8 0 → (gcnV U f = 0 ↔ gsgV U f = -1)
  | 0, _ => ⟨fun _ => rfl, fun _ => rfl⟩
  | f + 1, hf => by
    have h := gcn_gsg hU f (by omega)
    have hb := gcnV_b U f
    have hs := segV_lt hU (f := f) (by omega)
    simp only [gcnV, gsgV]
    by_cases c : airV U f + chgV U (kndV U f) < 0
    · rw [if_pos c]
      by_cases c2 : gcnV U f = 0
      · rw [if_pos ⟨c, c2⟩]
        constructor <;> intro q <;> omega
      · rw [if_neg (fun q => c2 q.2)]
        constructor
        · intro q
          omega
        · intro q
          exact absurd (h.2 q) c2
    · rw [if_neg c, if_neg (fun q => c q.1)]
      exact h
theorem brF_spec {m : Nat} (hm : 1 ≤ m ∧ m ≤ 20) : ∀ (d n : Nat) (U : Vw), WFV (-1) U → 31 ≤ U 5 0 + d →
    ((((brF m d n U).1 = -2 ∨ (brF m d n U).1 = -3) ∧ gsgV U (U 8 0).toNat ≠ -1) ∨ ∃ j : Nat, (brF m d n U).1 = (n : Int) + j ∧ gsgV (brF m d n U).2 ((brF m d n U).2 8 0).toNat = -1 ∧ (brF m d n U).2 5 0 = U 5 0 + j ∧ (brF m d n U).2 8 0 = U 8 0 + (j : Int) * m ∧ (j = 0 ↔ gsgV U (U 8 0).toNat = -1))
  | 0, n, U, hU, hd => by
    have b5 := hU.2.2.2.2.1
    omega
  | d + 1, n, U, hU, hd => by
    have b5 := hU.2.2.2.2.1
    have b8 := hU.2.2.2.2.2.2.1
    rw [brF_st]
    by_cases c1 : gsgV U (U 8 0).toNat = -1
    · rw [if_pos c1]
      refine Or.inr ⟨0, ?_, c1, ?_, ?_, fun _ => c1, fun _ => rfl⟩
      · show (n : Int) = n + ((0 : Nat) : Int)
        omega
      · show U 5 0 = U 5 0 + ((0 : Nat) : Int)
        omega
      · show U 8 0 = U 8 0 + ((0 : Nat) : Int) * m
        simp
    · rw [if_neg c1]
      by_cases c2 : gsgV U (U 8 0).toNat = 0 ∨ U 6 ((gsgV U (U 8 0).toNat).toNat - 1) = 9
      · rw [if_pos c2]
        exact Or.inl ⟨Or.inl rfl, c1⟩
      · rw [if_neg c2]
        by_cases c3 : U 5 0 < 30 ∧ U 8 0 + m ≤ 99
        · rw [if_pos c3]
          have hg := gsgV_b hU (U 8 0).toNat (by omega)
          have hU2 : WFV (-1) (insV U (gsgV U (U 8 0).toNat).toNat 9 m) := insV_wf hU (by omega) c3.1 (by omega) hm c3.2
          have e5 : insV U (gsgV U (U 8 0).toNat).toNat 9 m 5 0 = U 5 0 + 1 := rfl
          have e8 : insV U (gsgV U (U 8 0).toNat).toNat 9 m 8 0 = U 8 0 + m := rfl
          rcases brF_spec hm d (n + 1) _ hU2 (by rw [e5]; omega) with h | ⟨j, h1, h2, h3, h4, h5⟩
          · exact Or.inl ⟨h.1, c1⟩
          · refine Or.inr ⟨j + 1, ?_, h2, ?_, ?_, fun q => absurd q (Nat.succ_ne_zero j), fun q => absurd q c1⟩
            · rw [h1]
              omega
            · rw [h3, e5]
              omega
            · rw [h4, e8, Int.natCast_add, Int.add_mul]
              omega
        · rw [if_neg c3]
          exact Or.inl ⟨Or.inr rfl, c1⟩
set_option maxHeartbeats 4000000 in
theorem x_breathes (hW : WFX X) {y : Int} {Q : Option AV → XV → Prop} (hQ : ∀ X', WFX X' → Q (some (AI 1)) X') : XpM zt L (g, ρ) 93 [AR L, AI y] X Q := by
  have hU := hW.1.1
  have b5 := hU.2.2.2.2.1
  have b8 := hU.2.2.2.2.2.2.1
  have f1 := lowI_b (v := y) (n := 6) (by omega)
  obtain ⟨m, hm⟩ : ∃ m : Nat, 1 + lowI y 6 = (m : Int) := ⟨(1 + lowI y 6).toNat, by omega⟩
  have hm6 : 1 ≤ m ∧ m ≤ 6 := by omega
  have hgb := gcnV_b X.1.1 (X.1.1 8 0).toNat
  have hgg := gcn_gsg hU (X.1.1 8 0).toNat (by omega)
  have eb : sBreathe m X = brR (brF m 31 0 X.1.1) X := by
    unfold sBreathe
    rw [if_pos (by omega), Int.toNat_natCast]
  rcases brF_spec (m := m) (by omega) 31 0 X.1.1 hU (by omega) with ⟨h1, h2⟩ | ⟨j, h1, h2, h3, h4, h5⟩
  · have hc : 0 < gcnV X.1.1 (X.1.1 8 0).toNat := by
      have : gcnV X.1.1 (X.1.1 8 0).toNat ≠ 0 := fun q => h2 (hgg.1 q)
      omega
    have hcn : ¬ gcnV X.1.1 (X.1.1 8 0).toNat ≤ 0 := by omega
    have q := hQ X hW
    have eb2 : sBreathe m X = ((brF m 31 0 X.1.1).1, X) := by
      rw [eb]
      unfold brR
      rw [if_pos (by omega)]
    rcases h1 with h1 | h1
    · rw [h1] at eb2
      simp only [xm_W_breathes, b_W_breathes_0, P_W_breathes_56, b_W_breathes_56, P_W_breathes_83, b_W_breathes_83, P_W_breathes_84, b_W_breathes_84, P_W_breathes_85, b_W_breathes_85, P_W_breathes_129, b_W_breathes_129, P_W_breathes_130, b_W_breathes_130, P_W_breathes_139, b_W_breathes_139, P_W_breathes_140, b_W_breathes_140, P_W_breathes_170, b_W_breathes_170, P_W_breathes_174, b_W_breathes_174, P_W_breathes_175, b_W_breathes_175, x_low, xp_aln0, xp_bipush, xp_cs1, xp_cs2, xp_cs3, xp_goto, xp_iadd, xp_iceq, xp_icne, xp_iconst, xp_il4, xp_il5, xp_il6, xp_iln1, xp_iln2, xp_iln3, xp_imul, xp_iret, xp_is4, xp_is5, xp_is6, xp_ishr, xp_isn2, xp_isn3, xp_izeq, xp_izge, xp_izle, xp_izlt, xp_izne, xp_nop, xp_zret, xv_breathe, xv_count, xv_undo, wrI_row, cpI_row, row_s, row_n, row_ss, row_sw, upd_s, upd_n, ad_inj, ad_z, ad_z2, Nat.reduceEqDiff, reduceCtorEq, List.cons_append, List.nil_append, Option.toList_some, Option.toList_none, Int.toNat_natCast, List.length_cons, List.length_nil, Int.cast_ofNat_Int, Nat.reduceAdd, Nat.reduceLeDiff, Nat.reduceLT, Nat.reduceMul, Int.reduceAdd, Int.reduceSub, Int.reduceMul, Int.reduceNeg, Int.reduceLT, Int.reduceLE, Int.reduceEq, Int.reduceToNat, eq_self, true_and, and_true, true_or, or_true, false_or, or_false, if_true, if_false, not_true_eq_false, not_false_eq_true, and_self, ne_eq, sCt_1, sCt_2, sCt_5, hm, eb2, hcn]
      (repeat' (first | apply And.intro | split)) <;> first | omega | exact q
    · rw [h1] at eb2
      simp only [xm_W_breathes, b_W_breathes_0, P_W_breathes_56, b_W_breathes_56, P_W_breathes_83, b_W_breathes_83, P_W_breathes_84, b_W_breathes_84, P_W_breathes_85, b_W_breathes_85, P_W_breathes_129, b_W_breathes_129, P_W_breathes_130, b_W_breathes_130, P_W_breathes_139, b_W_breathes_139, P_W_breathes_140, b_W_breathes_140, P_W_breathes_170, b_W_breathes_170, P_W_breathes_174, b_W_breathes_174, P_W_breathes_175, b_W_breathes_175, x_low, xp_aln0, xp_bipush, xp_cs1, xp_cs2, xp_cs3, xp_goto, xp_iadd, xp_iceq, xp_icne, xp_iconst, xp_il4, xp_il5, xp_il6, xp_iln1, xp_iln2, xp_iln3, xp_imul, xp_iret, xp_is4, xp_is5, xp_is6, xp_ishr, xp_isn2, xp_isn3, xp_izeq, xp_izge, xp_izle, xp_izlt, xp_izne, xp_nop, xp_zret, xv_breathe, xv_count, xv_undo, wrI_row, cpI_row, row_s, row_n, row_ss, row_sw, upd_s, upd_n, ad_inj, ad_z, ad_z2, Nat.reduceEqDiff, reduceCtorEq, List.cons_append, List.nil_append, Option.toList_some, Option.toList_none, Int.toNat_natCast, List.length_cons, List.length_nil, Int.cast_ofNat_Int, Nat.reduceAdd, Nat.reduceLeDiff, Nat.reduceLT, Nat.reduceMul, Int.reduceAdd, Int.reduceSub, Int.reduceMul, Int.reduceNeg, Int.reduceLT, Int.reduceLE, Int.reduceEq, Int.reduceToNat, eq_self, true_and, and_true, true_or, or_true, false_or, or_false, if_true, if_false, not_true_eq_false, not_false_eq_true, and_self, ne_eq, sCt_1, sCt_2, sCt_5, hm, eb2, hcn]
      (repeat' (first | apply And.intro | split)) <;> first | omega | exact q
  · have hU2 := brF_wf (m := m) (by omega) 31 0 X.1.1 hU
    have hj : (brF m 31 0 X.1.1).1 = (j : Int) := by omega
    have eb2 : sBreathe m X = ((j : Int), actX X (brF m 31 0 X.1.1).2) := by
      rw [eb]
      unfold brR
      rw [if_neg (by omega), hj]
    have hW1 : WFX (actX X (brF m 31 0 X.1.1).2) := actX_wf hW hU2
    have c5 : sCount 5 (actX X (brF m 31 0 X.1.1).2) = 0 := by
      have w8 := hU2.2.2.2.2.2.2.1
      exact (gcn_gsg hU2 ((brF m 31 0 X.1.1).2 8 0).toNat (by omega)).2 h2
    have c1 : sCount 1 (actX X (brF m 31 0 X.1.1).2) = X.1.1 5 0 + j := h3
    have c2 : sCount 2 (actX X (brF m 31 0 X.1.1).2) = X.1.1 8 0 + (j : Int) * m := h4
    have w5 := hU2.2.2.2.2.1
    have w8 := hU2.2.2.2.2.2.2.1
    rw [h3] at w5
    rw [h4] at w8
    obtain ⟨u1, u2, u3⟩ := act_undo hW (brF m 31 0 X.1.1).2
    have hun : ¬ (sUndo (actX X (brF m 31 0 X.1.1).2)).1 < 0 := by omega
    have c5' : gcnV (sUndo (actX X (brF m 31 0 X.1.1).2)).2.1.1 ((sUndo (actX X (brF m 31 0 X.1.1).2)).2.1.1 8 0).toNat = gcnV X.1.1 (X.1.1 8 0).toNat := by rw [u3]
    have c6 : sCount 5 (sUndo (actX X (brF m 31 0 X.1.1).2)).2 = gcnV X.1.1 (X.1.1 8 0).toNat := c5'
    have k1 := hQ _ hW1
    have k2 := hQ _ (sUndo_wf hW1)
    have hn0 : ¬ (j : Int) < 0 := by omega
    have hp0 : (0 : Int) ≤ j := by omega
    generalize hjm : (j : Int) * m = jm at *
    have hl2 := lowI_b (v := shrI y 5) (n := 2) (by omega)
    by_cases cj : j = 0
    · have g0 : gcnV X.1.1 (X.1.1 8 0).toNat = 0 := hgg.2 (h5.1 cj)
      have j0 : (j : Int) ≤ 0 := by omega
      have s1 : sCount 5 X = 0 := g0
      rw [g0] at c6
      by_cases cl : lowI (shrI y 5) 2 = 0
      · simp only [xm_W_breathes, b_W_breathes_0, P_W_breathes_56, b_W_breathes_56, P_W_breathes_83, b_W_breathes_83, P_W_breathes_84, b_W_breathes_84, P_W_breathes_85, b_W_breathes_85, P_W_breathes_129, b_W_breathes_129, P_W_breathes_130, b_W_breathes_130, P_W_breathes_139, b_W_breathes_139, P_W_breathes_140, b_W_breathes_140, P_W_breathes_170, b_W_breathes_170, P_W_breathes_174, b_W_breathes_174, P_W_breathes_175, b_W_breathes_175, x_low, xp_aln0, xp_bipush, xp_cs1, xp_cs2, xp_cs3, xp_goto, xp_iadd, xp_iceq, xp_icne, xp_iconst, xp_il4, xp_il5, xp_il6, xp_iln1, xp_iln2, xp_iln3, xp_imul, xp_iret, xp_is4, xp_is5, xp_is6, xp_ishr, xp_isn2, xp_isn3, xp_izeq, xp_izge, xp_izle, xp_izlt, xp_izne, xp_nop, xp_zret, xv_breathe, xv_count, xv_undo, wrI_row, cpI_row, row_s, row_n, row_ss, row_sw, upd_s, upd_n, ad_inj, ad_z, ad_z2, Nat.reduceEqDiff, reduceCtorEq, List.cons_append, List.nil_append, Option.toList_some, Option.toList_none, Int.toNat_natCast, List.length_cons, List.length_nil, Int.cast_ofNat_Int, Nat.reduceAdd, Nat.reduceLeDiff, Nat.reduceLT, Nat.reduceMul, Int.reduceAdd, Int.reduceSub, Int.reduceMul, Int.reduceNeg, Int.reduceLT, Int.reduceLE, Int.reduceEq, Int.reduceToNat, eq_self, true_and, and_true, true_or, or_true, false_or, or_false, if_true, if_false, not_true_eq_false, not_false_eq_true, and_self, ne_eq, sCt_1, sCt_2, hm, eb2, s1, c5, c1, c2, hjm, hp0, j0, cl]
        (repeat' (first | apply And.intro | split)) <;> first | omega | exact k1
      · simp only [xm_W_breathes, b_W_breathes_0, P_W_breathes_56, b_W_breathes_56, P_W_breathes_83, b_W_breathes_83, P_W_breathes_84, b_W_breathes_84, P_W_breathes_85, b_W_breathes_85, P_W_breathes_129, b_W_breathes_129, P_W_breathes_130, b_W_breathes_130, P_W_breathes_139, b_W_breathes_139, P_W_breathes_140, b_W_breathes_140, P_W_breathes_170, b_W_breathes_170, P_W_breathes_174, b_W_breathes_174, P_W_breathes_175, b_W_breathes_175, x_low, xp_aln0, xp_bipush, xp_cs1, xp_cs2, xp_cs3, xp_goto, xp_iadd, xp_iceq, xp_icne, xp_iconst, xp_il4, xp_il5, xp_il6, xp_iln1, xp_iln2, xp_iln3, xp_imul, xp_iret, xp_is4, xp_is5, xp_is6, xp_ishr, xp_isn2, xp_isn3, xp_izeq, xp_izge, xp_izle, xp_izlt, xp_izne, xp_nop, xp_zret, xv_breathe, xv_count, xv_undo, wrI_row, cpI_row, row_s, row_n, row_ss, row_sw, upd_s, upd_n, ad_inj, ad_z, ad_z2, Nat.reduceEqDiff, reduceCtorEq, List.cons_append, List.nil_append, Option.toList_some, Option.toList_none, Int.toNat_natCast, List.length_cons, List.length_nil, Int.cast_ofNat_Int, Nat.reduceAdd, Nat.reduceLeDiff, Nat.reduceLT, Nat.reduceMul, Int.reduceAdd, Int.reduceSub, Int.reduceMul, Int.reduceNeg, Int.reduceLT, Int.reduceLE, Int.reduceEq, Int.reduceToNat, eq_self, true_and, and_true, true_or, or_true, false_or, or_false, if_true, if_false, not_true_eq_false, not_false_eq_true, and_self, ne_eq, sCt_1, sCt_2, hm, eb2, s1, c5, c1, c2, hjm, c6, hp0, j0, cl, hun]
        (repeat' (first | apply And.intro | split)) <;> first | omega | exact k2
    · have g0 : ¬ gcnV X.1.1 (X.1.1 8 0).toNat ≤ 0 := by
        have : gcnV X.1.1 (X.1.1 8 0).toNat ≠ 0 := fun q => cj (h5.2 (hgg.1 q))
        omega
      have j0 : ¬ (j : Int) ≤ 0 := by omega
      have s1 : sCount 5 X = gcnV X.1.1 (X.1.1 8 0).toNat := rfl
      by_cases cl : lowI (shrI y 5) 2 = 0
      · simp only [xm_W_breathes, b_W_breathes_0, P_W_breathes_56, b_W_breathes_56, P_W_breathes_83, b_W_breathes_83, P_W_breathes_84, b_W_breathes_84, P_W_breathes_85, b_W_breathes_85, P_W_breathes_129, b_W_breathes_129, P_W_breathes_130, b_W_breathes_130, P_W_breathes_139, b_W_breathes_139, P_W_breathes_140, b_W_breathes_140, P_W_breathes_170, b_W_breathes_170, P_W_breathes_174, b_W_breathes_174, P_W_breathes_175, b_W_breathes_175, x_low, xp_aln0, xp_bipush, xp_cs1, xp_cs2, xp_cs3, xp_goto, xp_iadd, xp_iceq, xp_icne, xp_iconst, xp_il4, xp_il5, xp_il6, xp_iln1, xp_iln2, xp_iln3, xp_imul, xp_iret, xp_is4, xp_is5, xp_is6, xp_ishr, xp_isn2, xp_isn3, xp_izeq, xp_izge, xp_izle, xp_izlt, xp_izne, xp_nop, xp_zret, xv_breathe, xv_count, xv_undo, wrI_row, cpI_row, row_s, row_n, row_ss, row_sw, upd_s, upd_n, ad_inj, ad_z, ad_z2, Nat.reduceEqDiff, reduceCtorEq, List.cons_append, List.nil_append, Option.toList_some, Option.toList_none, Int.toNat_natCast, List.length_cons, List.length_nil, Int.cast_ofNat_Int, Nat.reduceAdd, Nat.reduceLeDiff, Nat.reduceLT, Nat.reduceMul, Int.reduceAdd, Int.reduceSub, Int.reduceMul, Int.reduceNeg, Int.reduceLT, Int.reduceLE, Int.reduceEq, Int.reduceToNat, eq_self, true_and, and_true, true_or, or_true, false_or, or_false, if_true, if_false, not_true_eq_false, not_false_eq_true, and_self, ne_eq, sCt_1, sCt_2, hm, eb2, s1, c5, c1, c2, hjm, hp0, j0, g0, cl]
        (repeat' (first | apply And.intro | split)) <;> first | omega | exact k1
      · simp only [xm_W_breathes, b_W_breathes_0, P_W_breathes_56, b_W_breathes_56, P_W_breathes_83, b_W_breathes_83, P_W_breathes_84, b_W_breathes_84, P_W_breathes_85, b_W_breathes_85, P_W_breathes_129, b_W_breathes_129, P_W_breathes_130, b_W_breathes_130, P_W_breathes_139, b_W_breathes_139, P_W_breathes_140, b_W_breathes_140, P_W_breathes_170, b_W_breathes_170, P_W_breathes_174, b_W_breathes_174, P_W_breathes_175, b_W_breathes_175, x_low, xp_aln0, xp_bipush, xp_cs1, xp_cs2, xp_cs3, xp_goto, xp_iadd, xp_iceq, xp_icne, xp_iconst, xp_il4, xp_il5, xp_il6, xp_iln1, xp_iln2, xp_iln3, xp_imul, xp_iret, xp_is4, xp_is5, xp_is6, xp_ishr, xp_isn2, xp_isn3, xp_izeq, xp_izge, xp_izle, xp_izlt, xp_izne, xp_nop, xp_zret, xv_breathe, xv_count, xv_undo, wrI_row, cpI_row, row_s, row_n, row_ss, row_sw, upd_s, upd_n, ad_inj, ad_z, ad_z2, Nat.reduceEqDiff, reduceCtorEq, List.cons_append, List.nil_append, Option.toList_some, Option.toList_none, Int.toNat_natCast, List.length_cons, List.length_nil, Int.cast_ofNat_Int, Nat.reduceAdd, Nat.reduceLeDiff, Nat.reduceLT, Nat.reduceMul, Int.reduceAdd, Int.reduceSub, Int.reduceMul, Int.reduceNeg, Int.reduceLT, Int.reduceLE, Int.reduceEq, Int.reduceToNat, eq_self, true_and, and_true, true_or, or_true, false_or, or_false, if_true, if_false, not_true_eq_false, not_false_eq_true, and_self, ne_eq, sCt_1, sCt_2, hm, eb2, s1, c5, c1, c2, hjm, c6, hp0, j0, g0, cl, hun]
        (repeat' (first | apply And.intro | split)) <;> first | omega | exact k2
end XBR
