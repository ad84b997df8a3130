/-! the law's small methods -/
def lowI (v n : Int) : Int := (v % 2147483648) % n
theorem lowI_b {v n : Int} (h : 0 < n) : 0 ≤ lowI v n ∧ lowI v n < n := ⟨Int.emod_nonneg _ (by omega), Int.emod_lt_of_pos _ h⟩
def lotI (g : Nat → Nat → Int) (ρ : Ri) (s : Nat) (k : Int) : Int := if (lnA ρ s : Int) ≤ k then 2346568115 * (k + 2293) + 2087 else g s k.toNat
section XLW
variable {zt : Nat → Nat} {L s : Nat} {g : Nat → Nat → Int} {ρ : Ri} {X : XV}
theorem x_low {v n : Int} (Q : Option AV → XV → Prop) : XpM zt L (g, ρ) 86 [AI v, AI n] X Q ↔ (0 < n ∧ n < 2147483648) ∧ Q (some (AI (lowI v n))) X := by
  unfold lowI
  simp only [xm_W_low, b_W_low_0, xp_iand31, xp_iln0, xp_iln1, xp_irem, xp_iret, xp_ldc, xp_zret, wrI_row, cpI_row, row_s, row_n, row_ss, row_sw, upd_s, upd_n, ad_inj, ad_z, ad_z2, Nat.reduceEqDiff, reduceCtorEq, List.cons_append, List.nil_append, Option.toList_some, Option.toList_none, Int.toNat_natCast, List.length_cons, List.length_nil, Int.cast_ofNat_Int, Nat.reduceAdd, Nat.reduceLeDiff, Nat.reduceLT, Nat.reduceMul, Int.reduceAdd, Int.reduceSub, Int.reduceMul, Int.reduceNeg, Int.reduceLT, Int.reduceLE, Int.reduceEq, Int.reduceToNat, eq_self, true_and, and_true, true_or, or_true, false_or, or_false, if_true, if_false, not_true_eq_false, not_false_eq_true, and_self, ne_eq]
  constructor
  · rintro ⟨⟨h1, h2, h3, h4⟩, hq⟩
    exact ⟨⟨h3, h4.2⟩, hq⟩
  · rintro ⟨⟨h1, h2⟩, hq⟩
    exact ⟨⟨by omega, by omega, h1, by omega⟩, hq⟩
theorem x_lot (hs : kdI ρ s 4) (hn : lnA ρ s ≤ 2048) {k : Int} (hk : 0 ≤ k ∧ k ≤ 100) (Q : Option AV → XV → Prop) : XpM zt L (g, ρ) 85 [AR s, AI k] X Q ↔ Q (some (AI (lotI g ρ s k))) X := by
  refine xpm_iff (fun Q hQ => ?_) Q
  unfold lotI at hQ
  by_cases c : (lnA ρ s : Int) ≤ k
  · rw [if_pos c] at hQ
    simp only [xm_W_lot, b_W_lot_0, P_W_lot_12, b_W_lot_12, P_W_lot_24, b_W_lot_24, xp_aln0, xp_goto, xp_iadd, xp_icge, xp_iln1, xp_imul, xp_iret, xp_ldc, xp_nop, xp_sipush, xp_zret, wrI_row, cpI_row, row_s, row_n, row_ss, row_sw, upd_s, upd_n, ad_inj, ad_z, ad_z2, Nat.reduceEqDiff, reduceCtorEq, List.cons_append, List.nil_append, Option.toList_some, Option.toList_none, Int.toNat_natCast, List.length_cons, List.length_nil, Int.cast_ofNat_Int, Nat.reduceAdd, Nat.reduceLeDiff, Nat.reduceLT, Nat.reduceMul, Int.reduceAdd, Int.reduceSub, Int.reduceMul, Int.reduceNeg, Int.reduceLT, Int.reduceLE, Int.reduceEq, Int.reduceToNat, eq_self, true_and, and_true, true_or, or_true, false_or, or_false, if_true, if_false, not_true_eq_false, not_false_eq_true, and_self, ne_eq, xp_alen hs (by omega), c]
    (repeat' (first | apply And.intro | split)) <;> first | omega | exact hQ
  · rw [if_neg c] at hQ
    simp only [xm_W_lot, b_W_lot_0, P_W_lot_12, b_W_lot_12, P_W_lot_24, b_W_lot_24, xp_aln0, xp_goto, xp_iadd, xp_icge, xp_iln1, xp_imul, xp_iret, xp_ldc, xp_nop, xp_sipush, xp_zret, wrI_row, cpI_row, row_s, row_n, row_ss, row_sw, upd_s, upd_n, ad_inj, ad_z, ad_z2, Nat.reduceEqDiff, reduceCtorEq, List.cons_append, List.nil_append, Option.toList_some, Option.toList_none, Int.toNat_natCast, List.length_cons, List.length_nil, Int.cast_ofNat_Int, Nat.reduceAdd, Nat.reduceLeDiff, Nat.reduceLT, Nat.reduceMul, Int.reduceAdd, Int.reduceSub, Int.reduceMul, Int.reduceNeg, Int.reduceLT, Int.reduceLE, Int.reduceEq, Int.reduceToNat, eq_self, true_and, and_true, true_or, or_true, false_or, or_false, if_true, if_false, not_true_eq_false, not_false_eq_true, and_self, ne_eq, xp_alen hs (by omega), xp_iald hs, c]
    (repeat' (first | apply And.intro | split)) <;> first | omega | exact hQ
end XLW
