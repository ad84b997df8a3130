/-! WHAT THE REFERENCE'S OBJECT STANDS FOR; bring, keep -/
theorem smM_eq {r r' : Nat → Int} : ∀ n : Nat, (∀ s, s < n → r' (60 + 2 * s) = r (60 + 2 * s)) → smM r' n = smM r n
  | 0, _ => rfl
  | n + 1, h => by
    simp only [smM]
    rw [smM_eq n (fun s hs => h s (by omega)), h n (by omega)]
theorem vwM_eq {r r' : Nat → Int} (h58 : r 58 ≤ 30) (h : ∀ j, j < 317 → r' j = r j) : vwM r' = vwM r := by
  funext k j
  unfold vwM
  split
  · exact h 0 (by omega)
  · split
    · exact h _ (by omega)
    · rfl
  · split
    · exact h _ (by omega)
    · rfl
  · split
    · exact h _ (by omega)
    · rfl
  · split
    · exact h _ (by omega)
    · rfl
  · exact h 58 (by omega)
  · split
    · exact h _ (by omega)
    · rfl
  · split
    · exact h _ (by omega)
    · rfl
  · rw [h 58 (by omega)]
    exact smM_eq _ (fun s hs => h _ (by omega))
  · split
    · exact h _ (by omega)
    · rfl
  · split
    · exact h _ (by omega)
    · rfl
  · rfl
theorem lrm_eq {r r' : Nat → Int} {U : Vw} (hR : LR (-1) (vwM r) U) (hU : WFV (-1) U) (h : ∀ j, j < 317 → r' j = r j) : LR (-1) (vwM r') U := by
  have b5 := hU.2.2.2.2.1
  rw [vwM_eq (r := r) (by rw [m_5 hR]; omega) h]
  exact hR
theorem vwM_upd {r : Nat → Int} {p : Nat} {v : Int} (h58 : r 58 ≤ 30) {K J : Nat} (hp : (K = 1 ∧ J < 8 ∧ p = 1 + 2 * J) ∨ (K = 2 ∧ J < 8 ∧ p = 2 + 2 * J) ∨ (K = 3 ∧ J < 36 ∧ p = 17 + J) ∨ (K = 4 ∧ J < 5 ∧ p = 53 + J) ∨ (K = 9 ∧ J < 99 ∧ p = 119 + J) ∨ (K = 10 ∧ J < 99 ∧ p = 218 + J)) : vwM (upd1 r p v) K J = v ∧ ∀ k j, k ≤ 10 → ¬ (k = K ∧ j = J) → vwM (upd1 r p v) k j = vwM r k j := by
  constructor
  · rcases hp with ⟨rfl, h, rfl⟩ | ⟨rfl, h, rfl⟩ | ⟨rfl, h, rfl⟩ | ⟨rfl, h, rfl⟩ | ⟨rfl, h, rfl⟩ | ⟨rfl, h, rfl⟩ <;> exact (if_pos h).trans upd_s
  · intro k j hk hn
    rcases k_cases hk with rfl | rfl | rfl | rfl | rfl | rfl | rfl | rfl | rfl | rfl | rfl
    · exact upd_n (by omega)
    · show (if j < 8 then upd1 r p v (1 + 2 * j) else 0) = if j < 8 then r (1 + 2 * j) else 0
      split
      · exact upd_n (by omega)
      · rfl
    · show (if j < 8 then upd1 r p v (2 + 2 * j) else 0) = if j < 8 then r (2 + 2 * j) else 0
      split
      · exact upd_n (by omega)
      · rfl
    · show (if j < 36 then upd1 r p v (17 + j) else 0) = if j < 36 then r (17 + j) else 0
      split
      · exact upd_n (by omega)
      · rfl
    · show (if j < 5 then upd1 r p v (53 + j) else 0) = if j < 5 then r (53 + j) else 0
      split
      · exact upd_n (by omega)
      · rfl
    · exact upd_n (by omega)
    · show (if j < 30 then upd1 r p v (59 + 2 * j) else 0) = if j < 30 then r (59 + 2 * j) else 0
      split
      · exact upd_n (by omega)
      · rfl
    · show (if j < 30 then upd1 r p v (60 + 2 * j) else 0) = if j < 30 then r (60 + 2 * j) else 0
      split
      · exact upd_n (by omega)
      · rfl
    · show smM (upd1 r p v) (upd1 r p v 58).toNat = smM r (r 58).toNat
      rw [upd_n (by omega)]
      exact smM_eq _ (fun s hs => upd_n (by omega))
    · show (if j < 99 then upd1 r p v (119 + j) else 0) = if j < 99 then r (119 + j) else 0
      split
      · exact upd_n (by omega)
      · rfl
    · show (if j < 99 then upd1 r p v (218 + j) else 0) = if j < 99 then r (218 + j) else 0
      split
      · exact upd_n (by omega)
      · rfl
/-- a page: the view now, the slots -/
def SRM (r : Nat → Int) (S : SV) : Prop := LR (-1) (vwM r) S.1 ∧ (r 317 = if S.2.1 0 = true then 1 else 0) ∧ (r 635 = if S.2.1 1 = true then 1 else 0) ∧ (S.2.1 0 = true → LR (-1) (vwM (fun j => r (318 + j))) (S.2.2 0)) ∧ (S.2.1 1 = true → LR (-1) (vwM (fun j => r (636 + j))) (S.2.2 1))
theorem SRM.eq {r r' : Nat → Int} {S : SV} (h : SRM r S) (hW : WFS S) (he : ∀ j, j < 953 → r' j = r j) : SRM r' S := by
  obtain ⟨h1, h2, h3, h4, h5⟩ := h
  exact ⟨lrm_eq h1 hW.1 (fun j hj => he j (by omega)), by rw [he _ (by omega)]; exact h2, by rw [he _ (by omega)]; exact h3, fun q => lrm_eq (h4 q) (hW.2 0 (by omega) q) (fun j hj => he _ (by omega)), fun q => lrm_eq (h5 q) (hW.2 1 (by omega) q) (fun j hj => he _ (by omega))⟩
def RepM (g : Nat → Nat → Int) (ρ : Ri) (M : Nat) (X : XV) : Prop := isMd ρ M ∧ SRM (g (ad M 1)) X.1 ∧ (∀ i, i < X.2.1 → SRM (fun j => g (ad M 3) (953 * i + j)) (X.2.2.1 i)) ∧ g M 3 = X.2.1 ∧ g M 5 = X.2.2.2.1 ∧ ∀ j, j < X.2.2.2.1 → g (ad M 4) j = X.2.2.2.2 j
def MdQ (g : Nat → Nat → Int) (ρ : Ri) (M : Nat) (r : Int × XV) (Q : Option AV → Sto → Prop) : Prop := ∀ g' : Nat → Nat → Int, RepM g' ρ M r.2 → (∀ x, (x < M ∨ ad M 10 ≤ x) → g' x = g x) → Q (some (AI r.1)) (g', ρ)
section MRP
variable {zt : Nat → Nat} {g : Nat → Nat → Int} {ρ : Ri} {M b c : Nat} {X : XV} {Q : Option AV → Sto → Prop}
theorem MdQ.ro {v : Int} (hQ : MdQ g ρ M (v, X) Q) (hX : RepM g ρ M X) : Q (some (AI v)) (g, ρ) := hQ g hX (fun _ _ => rfl)
theorem RepM.kept {g' : Nat → Nat → Int} (hX : RepM g ρ M X) (h1 : g' (ad M 1) = g (ad M 1)) (h3 : g' (ad M 3) = g (ad M 3)) (h4 : g' (ad M 4) = g (ad M 4)) (k3 : g' M 3 = g M 3) (k5 : g' M 5 = g M 5) : RepM g' ρ M X := by
  unfold RepM
  rw [h1, h3, h4, k3, k5]
  exact hX
theorem RepM.now {g'' : Nat → Nat → Int} {U' : Vw} (hX : RepM g ρ M (recX X)) (hW : WFX X) (hR : LR (-1) (vwM (g'' (ad M 1))) U') (hy : ∀ y, 317 ≤ y → y < 953 → g'' (ad M 1) y = g (ad M 1) y) (h3 : g'' (ad M 3) = g (ad M 3)) (h4 : g'' (ad M 4) = g (ad M 4)) (k3 : g'' M 3 = g M 3) (k5 : g'' M 5 = g M 5) : RepM g'' ρ M (actX X U') := by
  obtain ⟨x1, ⟨-, s2, s3, s4, s5⟩, x3, x4, x5, x6⟩ := hX
  refine ⟨x1, ⟨hR, ?_, ?_, fun q => ?_, fun q => ?_⟩, ?_, k3.trans x4, k5.trans x5, ?_⟩
  · rw [hy _ (by omega) (by omega)]
    exact s2
  · rw [hy _ (by omega) (by omega)]
    exact s3
  · exact lrm_eq (s4 q) (hW.1.2 0 (by omega) q) (fun j hj => hy _ (by omega) (by omega))
  · exact lrm_eq (s5 q) (hW.1.2 1 (by omega) q) (fun j hj => hy _ (by omega) (by omega))
  · rw [h3]
    exact x3
  · rw [h4]
    exact x6
theorem cpR_z {f r : Nat → Int} {sp dp : Nat} : cpR f r sp dp 0 = r := by
  funext y
  unfold cpR
  rw [if_neg (by omega)]
theorem cpR_st {f r : Nat → Int} {sp dp k : Nat} : upd1 (cpR f r sp dp k) (dp + k) (f (sp + k)) = cpR f r sp dp (k + 1) := by
  funext y
  unfold cpR upd1
  by_cases e : y = dp + k
  · rw [if_pos e, if_pos (by omega)]
    congr 1
    omega
  · rw [if_neg e]
    dsimp only
    by_cases e2 : dp ≤ y ∧ y < dp + k
    · rw [if_pos e2, if_pos (by omega)]
    · rw [if_neg e2, if_neg (by omega)]
theorem cpR_in {f r : Nat → Int} {sp dp n y : Nat} (h : dp ≤ y) (h2 : y < dp + n) : cpR f r sp dp n y = f (sp + (y - dp)) := if_pos ⟨h, h2⟩
theorem cpR_out {f r : Nat → Int} {sp dp n y : Nat} (h : y < dp ∨ dp + n ≤ y) : cpR f r sp dp n y = r y := if_neg (by omega)
theorem bring_loop (hb : kdI ρ b 0) (hc : kdI ρ c 0) {sp dp n nb nc : Nat} (lb : lnA ρ b = nb) (lc : lnA ρ c = nc) (hs : sp + n ≤ nb) (hd : dp + n ≤ nc) (h1 : nb < 65536) (h2 : nc < 65536) (hne : ¬ b = c ∨ dp ≤ sp ∨ sp + n ≤ dp) {Q : Option AV → Sto → Prop} (hQ : Q none (setRow g c (cpR (g b) (g c) sp dp n), ρ)) :
    ∀ (d k : Nat), k + d = n → Wp zt 90 (P 90 3) [some (AR b), some (AI sp), some (AR c), some (AI dp), some (AI n), some (AI k)] [] (setRow g c (cpR (g b) (g c) sp dp k), ρ) Q := by
  intro d
  induction d with
  | zero =>
    intro k hk
    have e : k = n := by omega
    subst e
    rw [P_M_bring_3]
    simp only [m_M_bring, b_M_bring_0, P_M_bring_28, b_M_bring_28, wp_aln0, wp_aln2, wp_goto, wp_iadd, wp_iald, wp_iast, wp_icge, wp_iconst, wp_il4, wp_il5, wp_iln1, wp_iln3, wp_inc5, wp_is5, wp_nop, wp_ret, wrI_row, cpI_row, row_s, row_n, row_ss, row_sw, upd_s, upd_n, ad_inj, ad_z, ad_z2, Nat.reduceEqDiff, reduceCtorEq, List.cons_append, List.nil_append, Option.toList_some, Option.toList_none, Int.toNat_natCast, List.length_cons, List.length_nil, Int.cast_ofNat_Int, Nat.reduceAdd, Nat.reduceLeDiff, Nat.reduceLT, Nat.reduceMul, Int.reduceAdd, Int.reduceSub, Int.reduceMul, Int.reduceNeg, Int.reduceLT, Int.reduceLE, Int.reduceEq, Int.reduceToNat, eq_self, true_and, and_true, true_or, or_true, false_or, or_false, if_true, if_false, not_true_eq_false, not_false_eq_true, and_self, ne_eq, b_M_bring_3]
    (repeat' (first | apply And.intro | split)) <;> first | omega | exact hQ
  | succ d ih =>
    intro k hk
    have i1 := ih (k + 1) (by omega)
    rw [← cpR_st] at i1
    have e1 : ((sp : Int) + (k : Int)).toNat = sp + k := by omega
    have e2 : ((dp : Int) + (k : Int)).toNat = dp + k := by omega
    by_cases hbc : b = c
    · subst hbc
      have e3 : cpR (g b) (g b) sp dp k (sp + k) = g b (sp + k) := cpR_out (by rcases hne with q | q | q <;> first | exact absurd rfl q | omega)
      rw [P_M_bring_3]
      simp only [m_M_bring, b_M_bring_0, P_M_bring_28, b_M_bring_28, wp_aln0, wp_aln2, wp_goto, wp_iadd, wp_iald, wp_iast, wp_icge, wp_iconst, wp_il4, wp_il5, wp_iln1, wp_iln3, wp_inc5, wp_is5, wp_nop, wp_ret, wrI_row, cpI_row, row_s, row_n, row_ss, row_sw, upd_s, upd_n, ad_inj, ad_z, ad_z2, Nat.reduceEqDiff, reduceCtorEq, List.cons_append, List.nil_append, Option.toList_some, Option.toList_none, Int.toNat_natCast, List.length_cons, List.length_nil, Int.cast_ofNat_Int, Nat.reduceAdd, Nat.reduceLeDiff, Nat.reduceLT, Nat.reduceMul, Int.reduceAdd, Int.reduceSub, Int.reduceMul, Int.reduceNeg, Int.reduceLT, Int.reduceLE, Int.reduceEq, Int.reduceToNat, eq_self, true_and, and_true, true_or, or_true, false_or, or_false, if_true, if_false, not_true_eq_false, not_false_eq_true, and_self, ne_eq, b_M_bring_3, hb, lb, e1, e2, e3]
      (repeat' (first | apply And.intro | split)) <;> first | omega | exact i1
    · rw [P_M_bring_3]
      simp only [m_M_bring, b_M_bring_0, P_M_bring_28, b_M_bring_28, wp_aln0, wp_aln2, wp_goto, wp_iadd, wp_iald, wp_iast, wp_icge, wp_iconst, wp_il4, wp_il5, wp_iln1, wp_iln3, wp_inc5, wp_is5, wp_nop, wp_ret, wrI_row, cpI_row, row_s, row_n, row_ss, row_sw, upd_s, upd_n, ad_inj, ad_z, ad_z2, Nat.reduceEqDiff, reduceCtorEq, List.cons_append, List.nil_append, Option.toList_some, Option.toList_none, Int.toNat_natCast, List.length_cons, List.length_nil, Int.cast_ofNat_Int, Nat.reduceAdd, Nat.reduceLeDiff, Nat.reduceLT, Nat.reduceMul, Int.reduceAdd, Int.reduceSub, Int.reduceMul, Int.reduceNeg, Int.reduceLT, Int.reduceLE, Int.reduceEq, Int.reduceToNat, eq_self, true_and, and_true, true_or, or_true, false_or, or_false, if_true, if_false, not_true_eq_false, not_false_eq_true, and_self, ne_eq, b_M_bring_3, hb, hc, lb, lc, e1, e2, hbc]
      (repeat' (first | apply And.intro | split)) <;> first | omega | exact i1
theorem bring_ok (hb : kdI ρ b 0) (hc : kdI ρ c 0) {sp dp n nb nc : Nat} (lb : lnA ρ b = nb) (lc : lnA ρ c = nc) (hs : sp + n ≤ nb) (hd : dp + n ≤ nc) (h1 : nb < 65536) (h2 : nc < 65536) (hne : ¬ b = c ∨ dp ≤ sp ∨ sp + n ≤ dp) {sp' dp' n' : Int} (es : sp' = sp) (ed : dp' = dp) (en : n' = n) (Q : Option AV → Sto → Prop) : WpM zt 90 [AR b, AI sp', AR c, AI dp', AI n'] (g, ρ) Q ↔ Q none (setRow g c (cpR (g b) (g c) sp dp n), ρ) := by
  refine wpm_iff (fun Q hQ => ?_) Q
  subst es ed en
  have k1 := bring_loop (zt := zt) hb hc lb lc hs hd h1 h2 hne hQ n 0 (by omega)
  rw [cpR_z, row_id] at k1
  simp only [m_M_bring, b_M_bring_0, P_M_bring_28, b_M_bring_28, wp_aln0, wp_aln2, wp_goto, wp_iadd, wp_iald, wp_iast, wp_icge, wp_iconst, wp_il4, wp_il5, wp_iln1, wp_iln3, wp_inc5, wp_is5, wp_nop, wp_ret, wrI_row, cpI_row, row_s, row_n, row_ss, row_sw, upd_s, upd_n, ad_inj, ad_z, ad_z2, Nat.reduceEqDiff, reduceCtorEq, List.cons_append, List.nil_append, Option.toList_some, Option.toList_none, Int.toNat_natCast, List.length_cons, List.length_nil, Int.cast_ofNat_Int, Nat.reduceAdd, Nat.reduceLeDiff, Nat.reduceLT, Nat.reduceMul, Int.reduceAdd, Int.reduceSub, Int.reduceMul, Int.reduceNeg, Int.reduceLT, Int.reduceLE, Int.reduceEq, Int.reduceToNat, eq_self, true_and, and_true, true_or, or_true, false_or, or_false, if_true, if_false, not_true_eq_false, not_false_eq_true, and_self, ne_eq]
  exact k1
theorem keep_ok (hX : RepM g ρ M X) (hW : WFX X) {Q : Option AV → Sto → Prop} (hQ : ∀ g' : Nat → Nat → Int, RepM g' ρ M (recX X) → (∀ x, x ≠ M → x ≠ ad M 3 → g' x = g x) → (∀ k, k ≠ 3 → g' M k = g M k) → Q none (g', ρ)) : WpM zt 91 [AR M] (g, ρ) Q := by
  obtain ⟨hM, x2, x3, x4, x5, x6⟩ := id hX
  obtain ⟨w1, w2, w3, w4, w5⟩ := id hW
  have k3 := qmd_k3 hM
  have k1 := qmd_k1 hM
  have l3 := qmd_l3 hM
  have l1 := qmd_l1 hM
  have z13 : (ad M 1 = ad M 3) ↔ False := iff_false_intro (by unfold ad; omega)
  have z31 : (ad M 3 = M) ↔ False := iff_false_intro (by unfold ad; omega)
  have zM3 : (M = ad M 3) ↔ False := iff_false_intro (by unfold ad; omega)
  have z11 : (ad M 1 = M) ↔ False := iff_false_intro (by unfold ad; omega)
  by_cases e : X.2.1 = 5
  · have x4' : g M 3 = 5 := by rw [x4, e]; rfl
    have f1 := fun Q => bring_ok (zt := zt) (g := g) (sp := 953) (dp := 0) (n := 3812) (sp' := 953) (dp' := 0) (n' := 3812) k3 k3 l3 l3 (by omega) (by omega) (by omega) (by omega) (Or.inr (Or.inl (by omega))) rfl rfl rfl Q
    obtain ⟨H, hH⟩ : ∃ H, H = cpR (g (ad M 3)) (g (ad M 3)) 953 0 3812 := ⟨_, rfl⟩
    rw [← hH] at f1
    obtain ⟨g1, hg1⟩ : ∃ g1, g1 = setRow (setRow g (ad M 3) H) M (upd1 (g M) 3 4) := ⟨_, rfl⟩
    have f2 := fun Q => bring_ok (zt := zt) (g := g1) (ρ := ρ) (b := ad M 1) (c := ad M 3) (sp := 0) (dp := 3812) (n := 953) (sp' := 0) (dp' := 3812) (n' := 953) k1 k3 l1 l3 (by omega) (by omega) (by omega) (by omega) (Or.inl (by unfold ad; omega)) rfl rfl rfl Q
    have r1 : g1 (ad M 1) = g (ad M 1) := by rw [hg1, row_n (by unfold ad; omega), row_n (by unfold ad; omega)]
    have r3 : g1 (ad M 3) = H := by rw [hg1, row_n (by unfold ad; omega), row_s]
    rw [r1, r3] at f2
    have q := hQ (setRow (setRow g1 (ad M 3) (cpR (g (ad M 1)) H 0 3812 953)) M (upd1 (g1 M) 3 5)) ⟨hM, ?_, ?_, ?_, ?_, ?_⟩ ?_ ?_
    · rw [hg1] at f2 q
      simp only [m_M_keep, b_M_keep_0, P_M_keep_36, b_M_keep_36, wp_abs, wp_aln0, wp_copy, wp_cs1, wp_cs2, wp_cs3, wp_cs4, wp_cs5, wp_cs6, wp_cs7, wp_dup, wp_iadd, wp_icne, wp_iconst, wp_imul, wp_isub, wp_max, wp_min, wp_nop, wp_ret, wp_sipush, qmd_kd, qmd_k1, qmd_l1, qmd_gf0, qmd_k2, qmd_l2, qmd_gf1, qmd_k3, qmd_l3, qmd_gf2, qmd_k4, qmd_l4, qmd_gf4, qmd_k5, qmd_l5, qmd_gf6, qmd_k6, qmd_l6, qmd_gf7, qmd_k7, qmd_l7, qmd_gf10, qmd_k8, qmd_l8, qmd_gf11, qmd_k9, qmd_l9, qmd_gf12, qmd_gf3, qmd_pf3, qmd_gf5, qmd_pf5, qmd_gf8, qmd_pf8, qmd_gf9, qmd_pf9, wrI_row, cpI_row, row_s, row_n, row_ss, row_sw, upd_s, upd_n, ad_inj, ad_z, ad_z2, Nat.reduceEqDiff, reduceCtorEq, List.cons_append, List.nil_append, Option.toList_some, Option.toList_none, Int.toNat_natCast, List.length_cons, List.length_nil, Int.cast_ofNat_Int, Nat.reduceAdd, Nat.reduceLeDiff, Nat.reduceLT, Nat.reduceMul, Int.reduceAdd, Int.reduceSub, Int.reduceMul, Int.reduceNeg, Int.reduceLT, Int.reduceLE, Int.reduceEq, Int.reduceToNat, eq_self, true_and, and_true, true_or, or_true, false_or, or_false, if_true, if_false, not_true_eq_false, not_false_eq_true, and_self, ne_eq, hM, x4', f1, z31, zM3, f2]
      simp only [row_s, row_n, row_sw, zM3, not_false_eq_true, upd_s, upd_u, row_ss] at q ⊢
      exact q
    · rw [row_n (by unfold ad; omega), row_n (by unfold ad; omega), r1]
      exact x2
    · intro i hi
      replace hi : i < if X.2.1 = 5 then 5 else X.2.1 + 1 := hi
      rw [if_pos e] at hi
      show SRM _ (if X.2.1 = 5 then (if i < 4 then X.2.2.1 (i + 1) else X.1) else (if i = X.2.1 then X.1 else X.2.2.1 i))
      rw [if_pos e, row_n (by unfold ad; omega), row_s]
      by_cases a1 : i < 4
      · rw [if_pos a1]
        refine (x3 (i + 1) (by omega)).eq (w3 (i + 1) (by omega)) (fun j hj => ?_)
        rw [cpR_out (by omega), hH, cpR_in (by omega) (by omega), show 953 + (953 * i + j - 0) = 953 * (i + 1) + j by omega]
      · rw [if_neg a1]
        refine x2.eq w1 (fun j hj => ?_)
        rw [cpR_in (by omega) (by omega), show 0 + (953 * i + j - 3812) = j by omega]
    · rw [row_s, upd_s]
      show (5 : Int) = ((if X.2.1 = 5 then 5 else X.2.1 + 1 : Nat) : Int)
      rw [if_pos e]
      rfl
    · rw [row_s, upd_n (by omega), hg1, row_s, upd_n (by omega)]
      exact x5
    · intro j hj
      rw [row_n (by unfold ad; omega), row_n (by unfold ad; omega), hg1, row_n (by unfold ad; omega), row_n (by unfold ad; omega)]
      exact x6 j hj
    · intro x z1 z2
      rw [row_n z1, row_n z2, hg1, row_n z1, row_n z2]
    · intro k z
      rw [row_s, upd_n z, hg1, row_s, upd_n z]
  · have x4' : ¬ (X.2.1 : Int) = 5 := by omega
    have f2 := fun Q => bring_ok (zt := zt) (g := g) (ρ := ρ) (b := ad M 1) (c := ad M 3) (sp := 0) (dp := 953 * X.2.1) (n := 953) (sp' := 0) (dp' := 953 * (X.2.1 : Int)) (n' := 953) k1 k3 l1 l3 (by omega) (by omega) (by omega) (by omega) (Or.inl (by unfold ad; omega)) rfl (by omega) rfl Q
    have q := hQ (setRow (setRow g (ad M 3) (cpR (g (ad M 1)) (g (ad M 3)) 0 (953 * X.2.1) 953)) M (upd1 (g M) 3 ((X.2.1 : Int) + 1))) ⟨hM, ?_, ?_, ?_, ?_, ?_⟩ ?_ ?_
    · simp only [m_M_keep, b_M_keep_0, P_M_keep_36, b_M_keep_36, wp_abs, wp_aln0, wp_copy, wp_cs1, wp_cs2, wp_cs3, wp_cs4, wp_cs5, wp_cs6, wp_cs7, wp_dup, wp_iadd, wp_icne, wp_iconst, wp_imul, wp_isub, wp_max, wp_min, wp_nop, wp_ret, wp_sipush, qmd_kd, qmd_k1, qmd_l1, qmd_gf0, qmd_k2, qmd_l2, qmd_gf1, qmd_k3, qmd_l3, qmd_gf2, qmd_k4, qmd_l4, qmd_gf4, qmd_k5, qmd_l5, qmd_gf6, qmd_k6, qmd_l6, qmd_gf7, qmd_k7, qmd_l7, qmd_gf10, qmd_k8, qmd_l8, qmd_gf11, qmd_k9, qmd_l9, qmd_gf12, qmd_gf3, qmd_pf3, qmd_gf5, qmd_pf5, qmd_gf8, qmd_pf8, qmd_gf9, qmd_pf9, wrI_row, cpI_row, row_s, row_n, row_ss, row_sw, upd_s, upd_n, ad_inj, ad_z, ad_z2, Nat.reduceEqDiff, reduceCtorEq, List.cons_append, List.nil_append, Option.toList_some, Option.toList_none, Int.toNat_natCast, List.length_cons, List.length_nil, Int.cast_ofNat_Int, Nat.reduceAdd, Nat.reduceLeDiff, Nat.reduceLT, Nat.reduceMul, Int.reduceAdd, Int.reduceSub, Int.reduceMul, Int.reduceNeg, Int.reduceLT, Int.reduceLE, Int.reduceEq, Int.reduceToNat, eq_self, true_and, and_true, true_or, or_true, false_or, or_false, if_true, if_false, not_true_eq_false, not_false_eq_true, and_self, ne_eq, hM, x4, x4', zM3, f2]
      (repeat' (first | apply And.intro | split)) <;> first | omega | exact q
    · rw [row_n (by unfold ad; omega), row_n (by unfold ad; omega)]
      exact x2
    · intro i hi
      replace hi : i < if X.2.1 = 5 then 5 else X.2.1 + 1 := hi
      rw [if_neg e] at hi
      show SRM _ (if X.2.1 = 5 then (if i < 4 then X.2.2.1 (i + 1) else X.1) else (if i = X.2.1 then X.1 else X.2.2.1 i))
      rw [if_neg e, row_n (by unfold ad; omega), row_s]
      by_cases a1 : i = X.2.1
      · rw [if_pos a1]
        refine x2.eq w1 (fun j hj => ?_)
        rw [cpR_in (by omega) (by omega), show 0 + (953 * i + j - 953 * X.2.1) = j by omega]
      · rw [if_neg a1]
        refine (x3 i (by omega)).eq (w3 i (by omega)) (fun j hj => ?_)
        rw [cpR_out (by omega)]
    · rw [row_s, upd_s]
      show (X.2.1 : Int) + 1 = ((if X.2.1 = 5 then 5 else X.2.1 + 1 : Nat) : Int)
      rw [if_neg e]
      omega
    · rw [row_s, upd_n (by omega)]
      exact x5
    · intro j hj
      rw [row_n (by unfold ad; omega), row_n (by unfold ad; omega)]
      exact x6 j hj
    · intro x z1 z2
      rw [row_n z1, row_n z2]
    · intro k z
      rw [row_s, upd_n z]
end MRP
