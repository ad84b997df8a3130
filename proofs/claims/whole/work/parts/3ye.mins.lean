/-! THE REFERENCE'S SEGMENTS: opens, closes, inserts, insert, remove, stretch -/
def pnR (r A B : Nat → Int) : Nat → Int := fun y => if 119 ≤ y ∧ y < 218 then A (y - 119) else if 218 ≤ y ∧ y < 317 then B (y - 218) else r y
def flM (r : Nat → Int) (s t : Nat) : Nat → Int := fun y => if s ≤ y ∧ y < t then -1 else r y
def opM (r : Nat → Int) (f m F : Nat) : Nat → Int := flM (mvR r f m F) f (f + m)
section PNR
variable {r A B : Nat → Int}
theorem pnR_id : pnR r (fun j => r (119 + j)) (fun j => r (218 + j)) = r := by
  funext y
  unfold pnR
  by_cases c : 119 ≤ y ∧ y < 218
  · rw [if_pos c]
    show r (119 + (y - 119)) = r y
    rw [show 119 + (y - 119) = y by omega]
  · rw [if_neg c]
    by_cases c2 : 218 ≤ y ∧ y < 317
    · rw [if_pos c2]
      show r (218 + (y - 218)) = r y
      rw [show 218 + (y - 218) = y by omega]
    · rw [if_neg c2]
theorem pnR_p {k : Nat} (h : k < 99) : pnR r A B (119 + k) = A k := by
  unfold pnR
  rw [if_pos (by omega), show 119 + k - 119 = k by omega]
theorem pnR_d {k : Nat} (h : k < 99) : pnR r A B (218 + k) = B k := by
  unfold pnR
  rw [if_neg (by omega), if_pos (by omega), show 218 + k - 218 = k by omega]
theorem pnR_o {y : Nat} (h : y < 119 ∨ 317 ≤ y) : pnR r A B y = r y := by
  unfold pnR
  rw [if_neg (by omega), if_neg (by omega)]
theorem pnR_up {k : Nat} {v : Int} (h : k < 99) : upd1 (pnR r A B) (119 + k) v = pnR r (upd1 A k v) B := by
  funext y
  unfold pnR upd1
  by_cases c : y = 119 + k
  · rw [if_pos c, if_pos (by omega), if_pos (by omega)]
  · rw [if_neg c]
    dsimp only
    by_cases c2 : 119 ≤ y ∧ y < 218
    · rw [if_pos c2, if_pos c2, if_neg (by omega)]
    · rw [if_neg c2, if_neg c2]
theorem pnR_ud {k : Nat} {v : Int} (h : k < 99) : upd1 (pnR r A B) (218 + k) v = pnR r A (upd1 B k v) := by
  funext y
  unfold pnR upd1
  by_cases c : y = 218 + k
  · rw [if_pos c, if_neg (by omega), if_pos (by omega), if_pos (by omega)]
  · rw [if_neg c]
    dsimp only
    by_cases c2 : 119 ≤ y ∧ y < 218
    · rw [if_pos c2, if_pos c2]
    · rw [if_neg c2, if_neg c2]
      by_cases c3 : 218 ≤ y ∧ y < 317
      · rw [if_pos c3, if_pos c3, if_neg (by omega)]
      · rw [if_neg c3, if_neg c3]
theorem flM_0 {s : Nat} : flM r s s = r := by
  funext y
  unfold flM
  rw [if_neg (by omega)]
theorem flM_st {s t : Nat} (h : s ≤ t) : upd1 (flM r s t) t (-1) = flM r s (t + 1) := by
  funext y
  unfold flM upd1
  by_cases h1 : y = t
  · rw [if_pos h1, if_pos (by omega)]
  · rw [if_neg h1]
    dsimp only
    by_cases h2 : s ≤ y ∧ y < t
    · rw [if_pos h2, if_pos (by omega)]
    · rw [if_neg h2, if_neg (by omega)]
theorem opM_v {f m F j : Nat} (hj : j < F + m) : opM r f m F j = opnR r f m j := by
  unfold opM flM mvR opnR
  by_cases c1 : j < f
  · rw [if_neg (by omega), if_neg (by omega), if_pos c1]
  · by_cases c2 : j < f + m
    · rw [if_pos (by omega), if_neg c1, if_pos c2]
    · rw [if_neg (by omega), if_pos (by omega), if_neg c1, if_neg c2]
theorem clR_v {f m F j : Nat} (hj : j + m < F) : clR r f m F j = clsR r f m j := by
  unfold clR clsR
  by_cases c1 : j < f
  · rw [if_neg (by omega), if_pos c1]
  · rw [if_pos (by omega), if_neg c1]
end PNR
/-- a page's view, place by place -/
theorem lrm_mk {R : Nat → Int} {U : Vw} (hU : WFV (-1) U) (h0 : R 0 = U 0 0) (h5 : R 58 = U 5 0) (h1 : ∀ j : Nat, (j : Int) < U 0 0 → R (1 + 2 * j) = U 1 j ∧ R (2 + 2 * j) = U 2 j) (h3 : ∀ j, j < 36 → R (17 + j) = U 3 j) (h4 : ∀ j, j < 5 → R (53 + j) = U 4 j) (h6 : ∀ j : Nat, (j : Int) < U 5 0 → R (59 + 2 * j) = U 6 j ∧ R (60 + 2 * j) = U 7 j) (h9 : ∀ j : Nat, (j : Int) < U 8 0 → R (119 + j) = U 9 j ∧ R (218 + j) = U 10 j) : LR (-1) (vwM R) U := by
  have b0 := hU.1
  have b5 := hU.2.2.2.2.1
  have b8 := hU.2.2.2.2.2.2.1
  refine ⟨h0, h5, ?_, fun j hj => ⟨?_, ?_⟩, fun j hj => ?_, fun j hj => ?_, fun j hj => ⟨?_, ?_⟩, fun j hj => ⟨?_, ?_⟩⟩
  · show smM R (R 58).toNat = U 8 0
    rw [h5, ← hU.2.2.2.2.2.2.2.1]
    have : ∀ n : Nat, (n : Int) ≤ U 5 0 → smM R n = sumL U n := by
      intro n
      induction n with
      | zero => intro _; rfl
      | succ n ih =>
        intro hn
        simp only [smM, sumL]
        rw [ih (by omega), (h6 n (by omega)).2]
    exact this _ (by omega)
  · exact (if_pos (show j < 8 by omega)).trans (h1 j hj).1
  · exact (if_pos (show j < 8 by omega)).trans (h1 j hj).2
  · exact (if_pos hj).trans (h3 j hj)
  · exact (if_pos hj).trans (h4 j hj)
  · exact (if_pos (show j < 30 by omega)).trans (h6 j hj).1
  · exact (if_pos (show j < 30 by omega)).trans (h6 j hj).2
  · rw [nn_1]
    exact (if_pos (show j < 99 by omega)).trans (h9 j hj).1
  · rw [nn_1]
    exact (if_pos (show j < 99 by omega)).trans (h9 j hj).2
section MPT
variable {R : Nat → Int} {U : Vw}
theorem p_1 (h : LR (-1) (vwM R) U) (hU : WFV (-1) U) {j : Nat} (hj : (j : Int) < U 0 0) : R (1 + 2 * j) = U 1 j ∧ R (2 + 2 * j) = U 2 j := by
  have e1 := m_op h hU (m := j) (by omega) hj
  have e2 := m_wd h hU (m := j) (by omega) hj
  rw [show (1 + 2 * (j : Int)).toNat = 1 + 2 * j by omega, Int.toNat_natCast] at e1
  rw [show (1 + 2 * (j : Int) + 1).toNat = 2 + 2 * j by omega, Int.toNat_natCast] at e2
  exact ⟨e1, e2⟩
theorem p_6 (h : LR (-1) (vwM R) U) (hU : WFV (-1) U) {j : Nat} (hj : (j : Int) < U 5 0) : R (59 + 2 * j) = U 6 j ∧ R (60 + 2 * j) = U 7 j := by
  have e1 := m_kd h hU (s := j) (by omega) hj
  have e2 := m_ln h hU (s := j) (by omega) hj
  rw [show (59 + 2 * (j : Int)).toNat = 59 + 2 * j by omega, Int.toNat_natCast] at e1
  rw [show (59 + 2 * (j : Int) + 1).toNat = 60 + 2 * j by omega, Int.toNat_natCast] at e2
  exact ⟨e1, e2⟩
theorem p_9 (h : LR (-1) (vwM R) U) (hU : WFV (-1) U) {j : Nat} (hj : (j : Int) < U 8 0) : R (119 + j) = U 9 j ∧ R (218 + j) = U 10 j := by
  have e1 := m_pn h hU (f := j) (by omega) hj
  have e2 := m_dr h hU (f := j) (by omega) hj
  rw [show (119 + (j : Int)).toNat = 119 + j by omega, Int.toNat_natCast] at e1
  rw [show (218 + (j : Int)).toNat = 218 + j by omega, Int.toNat_natCast] at e2
  exact ⟨e1, e2⟩
end MPT
section MSG
variable {zt : Nat → Nat} {g : Nat → Nat → Int} {ρ : Ri} {b : Nat} {U : Vw}
theorem opens_fill (hb : kdI ρ b 0) (hl : lnA ρ b = 953) {f m F : Nat} (hm : f + m ≤ 99) {r A B : Nat → Int} {Q : Option AV → Sto → Prop} (hQ : Q none (setRow g b (pnR r (flM A f (f + m)) (flM B f (f + m))), ρ)) :
    ∀ (d t : Nat), t + d = f + m → f ≤ t → Wp zt 110 (P 110 54) [some (AR b), some (AI f), some (AI m), some (AI F), some (AI t)] [] (setRow g b (pnR r (flM A f t) (flM B f t)), ρ) Q := by
  intro d
  induction d with
  | zero =>
    intro t ht hf
    have e : t = f + m := by omega
    subst e
    rw [P_M_opens_54]
    simp only [m_M_opens, b_M_opens_0, P_M_opens_51, b_M_opens_51, P_M_opens_85, b_M_opens_85, wp_aln0, wp_bipush, wp_goto, wp_iadd, wp_iald, wp_iast, wp_icge, wp_iclt, wp_iconst, wp_il4, wp_iln1, wp_iln2, wp_iln3, wp_inc4, wp_is4, wp_isub, wp_nop, wp_ret, wp_sipush, wrI_row, cpI_row, row_s, row_n, row_ss, row_sw, upd_s, upd_n, ad_inj, ad_z, ad_z2, Nat.reduceEqDiff, reduceCtorEq, List.cons_append, List.nil_append, Option.toList_some, Option.toList_none, Int.toNat_natCast, List.length_cons, List.length_nil, Int.cast_ofNat_Int, Nat.reduceAdd, Nat.reduceLeDiff, Nat.reduceLT, Nat.reduceMul, Int.reduceAdd, Int.reduceSub, Int.reduceMul, Int.reduceNeg, Int.reduceLT, Int.reduceLE, Int.reduceEq, Int.reduceToNat, eq_self, true_and, and_true, true_or, or_true, false_or, or_false, if_true, if_false, not_true_eq_false, not_false_eq_true, and_self, ne_eq, b_M_opens_54]
    (repeat' (first | apply And.intro | split)) <;> first | omega | exact hQ | (rw [b2_t (by omega)] at hQ; exact hQ) | (rw [b2_f (by omega)] at hQ; exact hQ)
  | succ d ih =>
    intro t ht hf
    have i1 := ih (t + 1) (by omega) (by omega)
    rw [← flM_st hf, ← flM_st hf] at i1
    have e1 : (119 + (t : Int)).toNat = 119 + t := by omega
    have e2 : (218 + (t : Int)).toNat = 218 + t := by omega
    have u1 := fun (A B : Nat → Int) (v : Int) => pnR_up (r := r) (A := A) (B := B) (k := t) (v := v) (by omega)
    have u2 := fun (A B : Nat → Int) (v : Int) => pnR_ud (r := r) (A := A) (B := B) (k := t) (v := v) (by omega)
    rw [P_M_opens_54]
    simp only [m_M_opens, b_M_opens_0, P_M_opens_51, b_M_opens_51, P_M_opens_85, b_M_opens_85, wp_aln0, wp_bipush, wp_goto, wp_iadd, wp_iald, wp_iast, wp_icge, wp_iclt, wp_iconst, wp_il4, wp_iln1, wp_iln2, wp_iln3, wp_inc4, wp_is4, wp_isub, wp_nop, wp_ret, wp_sipush, wrI_row, cpI_row, row_s, row_n, row_ss, row_sw, upd_s, upd_n, ad_inj, ad_z, ad_z2, Nat.reduceEqDiff, reduceCtorEq, List.cons_append, List.nil_append, Option.toList_some, Option.toList_none, Int.toNat_natCast, List.length_cons, List.length_nil, Int.cast_ofNat_Int, Nat.reduceAdd, Nat.reduceLeDiff, Nat.reduceLT, Nat.reduceMul, Int.reduceAdd, Int.reduceSub, Int.reduceMul, Int.reduceNeg, Int.reduceLT, Int.reduceLE, Int.reduceEq, Int.reduceToNat, eq_self, true_and, and_true, true_or, or_true, false_or, or_false, if_true, if_false, not_true_eq_false, not_false_eq_true, and_self, ne_eq, b_M_opens_54, hb, hl, e1, e2, u1, u2]
    (repeat' (first | apply And.intro | split)) <;> first | omega | exact i1 | (rw [b2_t (by omega)] at i1; exact i1) | (rw [b2_f (by omega)] at i1; exact i1)
theorem opens_loop (hb : kdI ρ b 0) (hl : lnA ρ b = 953) {f m F : Nat} (hF : F + m ≤ 99) (hf : f ≤ F) {r A B : Nat → Int} {Q : Option AV → Sto → Prop} (hQ : Q none (setRow g b (pnR r (opM A f m F) (opM B f m F)), ρ)) :
    ∀ (d f1 : Nat), f1 = f + d → f1 ≤ F → Wp zt 110 (P 110 5) [some (AR b), some (AI f), some (AI m), some (AI F), some (AI ((f1 : Int) - 1))] [] (setRow g b (pnR r (mvR A f1 m F) (mvR B f1 m F)), ρ) Q := by
  intro d
  induction d with
  | zero =>
    intro f1 h1 h2
    have e : f1 = f := by omega
    subst e
    have i1 := opens_fill (zt := zt) (g := g) (F := F) hb hl (f := f1) (m := m) (by omega) (r := r) (A := mvR A f1 m F) (B := mvR B f1 m F) hQ m f1 (by omega) (Nat.le_refl _)
    rw [flM_0, flM_0] at i1
    rw [P_M_opens_5]
    simp only [m_M_opens, b_M_opens_0, P_M_opens_51, b_M_opens_51, P_M_opens_85, b_M_opens_85, wp_aln0, wp_bipush, wp_goto, wp_iadd, wp_iald, wp_iast, wp_icge, wp_iclt, wp_iconst, wp_il4, wp_iln1, wp_iln2, wp_iln3, wp_inc4, wp_is4, wp_isub, wp_nop, wp_ret, wp_sipush, wrI_row, cpI_row, row_s, row_n, row_ss, row_sw, upd_s, upd_n, ad_inj, ad_z, ad_z2, Nat.reduceEqDiff, reduceCtorEq, List.cons_append, List.nil_append, Option.toList_some, Option.toList_none, Int.toNat_natCast, List.length_cons, List.length_nil, Int.cast_ofNat_Int, Nat.reduceAdd, Nat.reduceLeDiff, Nat.reduceLT, Nat.reduceMul, Int.reduceAdd, Int.reduceSub, Int.reduceMul, Int.reduceNeg, Int.reduceLT, Int.reduceLE, Int.reduceEq, Int.reduceToNat, eq_self, true_and, and_true, true_or, or_true, false_or, or_false, if_true, if_false, not_true_eq_false, not_false_eq_true, and_self, ne_eq, b_M_opens_5]
    (repeat' (first | apply And.intro | split)) <;> first | omega | exact i1 | (rw [b2_t (by omega)] at i1; exact i1) | (rw [b2_f (by omega)] at i1; exact i1)
  | succ d ih =>
    intro f1 h1 h2
    obtain ⟨f2, rfl⟩ : ∃ f2, f1 = f2 + 1 := ⟨f1 - 1, by omega⟩
    have i1 := ih f2 (by omega) (by omega)
    rw [← mvR_st (show f2 < F by omega), ← mvR_st (show f2 < F by omega)] at i1
    have e1 : ((f2 + 1 : Nat) : Int) - 1 = (f2 : Int) := by omega
    have i2 : (119 + (f2 : Int)).toNat = 119 + f2 := by omega
    have i3 : (218 + (f2 : Int)).toNat = 218 + f2 := by omega
    have i4 : (119 + (f2 : Int) + (m : Int)).toNat = 119 + (f2 + m) := by omega
    have i5 : (218 + (f2 : Int) + (m : Int)).toNat = 218 + (f2 + m) := by omega
    have u1 := fun (A B : Nat → Int) (v : Int) => pnR_up (r := r) (A := A) (B := B) (k := f2 + m) (v := v) (by omega)
    have u2 := fun (A B : Nat → Int) (v : Int) => pnR_ud (r := r) (A := A) (B := B) (k := f2 + m) (v := v) (by omega)
    have v1 := fun (A B : Nat → Int) => pnR_p (r := r) (A := A) (B := B) (k := f2) (by omega)
    have v2 := fun (A B : Nat → Int) => pnR_d (r := r) (A := A) (B := B) (k := f2) (by omega)
    rw [P_M_opens_5, e1]
    simp only [m_M_opens, b_M_opens_0, P_M_opens_51, b_M_opens_51, P_M_opens_85, b_M_opens_85, wp_aln0, wp_bipush, wp_goto, wp_iadd, wp_iald, wp_iast, wp_icge, wp_iclt, wp_iconst, wp_il4, wp_iln1, wp_iln2, wp_iln3, wp_inc4, wp_is4, wp_isub, wp_nop, wp_ret, wp_sipush, wrI_row, cpI_row, row_s, row_n, row_ss, row_sw, upd_s, upd_n, ad_inj, ad_z, ad_z2, Nat.reduceEqDiff, reduceCtorEq, List.cons_append, List.nil_append, Option.toList_some, Option.toList_none, Int.toNat_natCast, List.length_cons, List.length_nil, Int.cast_ofNat_Int, Nat.reduceAdd, Nat.reduceLeDiff, Nat.reduceLT, Nat.reduceMul, Int.reduceAdd, Int.reduceSub, Int.reduceMul, Int.reduceNeg, Int.reduceLT, Int.reduceLE, Int.reduceEq, Int.reduceToNat, eq_self, true_and, and_true, true_or, or_true, false_or, or_false, if_true, if_false, not_true_eq_false, not_false_eq_true, and_self, ne_eq, b_M_opens_5, hb, hl, i2, i3, i4, i5, u1, u2, v1, v2]
    (repeat' (first | apply And.intro | split)) <;> first | omega | exact i1 | (rw [b2_t (by omega)] at i1; exact i1) | (rw [b2_f (by omega)] at i1; exact i1)
theorem opens_ok (hb : kdI ρ b 0) (hl : lnA ρ b = 953) {f m F : Nat} (hF : F + m ≤ 99) (hf : f ≤ F) {f' m' F' : Int} (ef : f' = f) (em : m' = m) (eF : F' = F) (Q : Option AV → Sto → Prop) : WpM zt 110 [AR b, AI f', AI m', AI F'] (g, ρ) Q ↔ Q none (setRow g b (pnR (g b) (opM (fun j => g b (119 + j)) f m F) (opM (fun j => g b (218 + j)) f m F)), ρ) := by
  refine wpm_iff (fun Q hQ => ?_) Q
  subst ef em eF
  have h1 := opens_loop (zt := zt) (g := g) hb hl hF hf hQ (F - f) F (by omega) (Nat.le_refl _)
  rw [mvR_0, mvR_0, pnR_id, row_id] at h1
  simp only [m_M_opens, b_M_opens_0, P_M_opens_51, b_M_opens_51, P_M_opens_54, b_M_opens_54, P_M_opens_85, b_M_opens_85, wp_aln0, wp_bipush, wp_goto, wp_iadd, wp_iald, wp_iast, wp_icge, wp_iclt, wp_iconst, wp_il4, wp_iln1, wp_iln2, wp_iln3, wp_inc4, wp_is4, wp_isub, wp_nop, wp_ret, wp_sipush, wrI_row, cpI_row, row_s, row_n, row_ss, row_sw, upd_s, upd_n, ad_inj, ad_z, ad_z2, Nat.reduceEqDiff, reduceCtorEq, List.cons_append, List.nil_append, Option.toList_some, Option.toList_none, Int.toNat_natCast, List.length_cons, List.length_nil, Int.cast_ofNat_Int, Nat.reduceAdd, Nat.reduceLeDiff, Nat.reduceLT, Nat.reduceMul, Int.reduceAdd, Int.reduceSub, Int.reduceMul, Int.reduceNeg, Int.reduceLT, Int.reduceLE, Int.reduceEq, Int.reduceToNat, eq_self, true_and, and_true, true_or, or_true, false_or, or_false, if_true, if_false, not_true_eq_false, not_false_eq_true, and_self, ne_eq]
  exact h1
theorem closes_loop (hb : kdI ρ b 0) (hl : lnA ρ b = 953) {f m F : Nat} (hF : F ≤ 99) {r A B : Nat → Int} {Q : Option AV → Sto → Prop} (hQ : Q none (setRow g b (pnR r (clR A f m F) (clR B f m F)), ρ)) :
    ∀ (d k : Nat), k + m + d = F → f ≤ k → Wp zt 111 (P 111 3) [some (AR b), some (AI f), some (AI m), some (AI F), some (AI k)] [] (setRow g b (pnR r (clR A f m (k + m)) (clR B f m (k + m))), ρ) Q := by
  intro d
  induction d with
  | zero =>
    intro k h1 h2
    have e : k + m = F := by omega
    rw [e]
    rw [P_M_closes_3]
    simp only [m_M_closes, b_M_closes_0, P_M_closes_51, b_M_closes_51, wp_aln0, wp_bipush, wp_goto, wp_iadd, wp_iald, wp_iast, wp_icge, wp_il4, wp_iln1, wp_iln2, wp_iln3, wp_inc4, wp_is4, wp_isub, wp_nop, wp_ret, wp_sipush, wrI_row, cpI_row, row_s, row_n, row_ss, row_sw, upd_s, upd_n, ad_inj, ad_z, ad_z2, Nat.reduceEqDiff, reduceCtorEq, List.cons_append, List.nil_append, Option.toList_some, Option.toList_none, Int.toNat_natCast, List.length_cons, List.length_nil, Int.cast_ofNat_Int, Nat.reduceAdd, Nat.reduceLeDiff, Nat.reduceLT, Nat.reduceMul, Int.reduceAdd, Int.reduceSub, Int.reduceMul, Int.reduceNeg, Int.reduceLT, Int.reduceLE, Int.reduceEq, Int.reduceToNat, eq_self, true_and, and_true, true_or, or_true, false_or, or_false, if_true, if_false, not_true_eq_false, not_false_eq_true, and_self, ne_eq, b_M_closes_3]
    (repeat' (first | apply And.intro | split)) <;> first | omega | exact hQ | (rw [b2_t (by omega)] at hQ; exact hQ) | (rw [b2_f (by omega)] at hQ; exact hQ)
  | succ d ih =>
    intro k h1 h2
    have i1 := ih (k + 1) (by omega) (by omega)
    rw [show k + 1 + m = k + m + 1 by omega, ← clR_st (show f + m ≤ k + m by omega), ← clR_st (show f + m ≤ k + m by omega), show k + m - m = k by omega] at i1
    have i2 : (119 + (k : Int)).toNat = 119 + k := by omega
    have i3 : (218 + (k : Int)).toNat = 218 + k := by omega
    have i4 : (119 + (k : Int) + (m : Int)).toNat = 119 + (k + m) := by omega
    have i5 : (218 + (k : Int) + (m : Int)).toNat = 218 + (k + m) := by omega
    have u1 := fun (A B : Nat → Int) (v : Int) => pnR_up (r := r) (A := A) (B := B) (k := k) (v := v) (by omega)
    have u2 := fun (A B : Nat → Int) (v : Int) => pnR_ud (r := r) (A := A) (B := B) (k := k) (v := v) (by omega)
    have v1 := fun (A B : Nat → Int) => pnR_p (r := r) (A := A) (B := B) (k := k + m) (by omega)
    have v2 := fun (A B : Nat → Int) => pnR_d (r := r) (A := A) (B := B) (k := k + m) (by omega)
    rw [P_M_closes_3]
    simp only [m_M_closes, b_M_closes_0, P_M_closes_51, b_M_closes_51, wp_aln0, wp_bipush, wp_goto, wp_iadd, wp_iald, wp_iast, wp_icge, wp_il4, wp_iln1, wp_iln2, wp_iln3, wp_inc4, wp_is4, wp_isub, wp_nop, wp_ret, wp_sipush, wrI_row, cpI_row, row_s, row_n, row_ss, row_sw, upd_s, upd_n, ad_inj, ad_z, ad_z2, Nat.reduceEqDiff, reduceCtorEq, List.cons_append, List.nil_append, Option.toList_some, Option.toList_none, Int.toNat_natCast, List.length_cons, List.length_nil, Int.cast_ofNat_Int, Nat.reduceAdd, Nat.reduceLeDiff, Nat.reduceLT, Nat.reduceMul, Int.reduceAdd, Int.reduceSub, Int.reduceMul, Int.reduceNeg, Int.reduceLT, Int.reduceLE, Int.reduceEq, Int.reduceToNat, eq_self, true_and, and_true, true_or, or_true, false_or, or_false, if_true, if_false, not_true_eq_false, not_false_eq_true, and_self, ne_eq, b_M_closes_3, hb, hl, i2, i3, i4, i5, u1, u2, v1, v2]
    (repeat' (first | apply And.intro | split)) <;> first | omega | exact i1 | (rw [b2_t (by omega)] at i1; exact i1) | (rw [b2_f (by omega)] at i1; exact i1)
theorem closes_ok (hb : kdI ρ b 0) (hl : lnA ρ b = 953) {f m F : Nat} (hF : F ≤ 99) (hf : f + m ≤ F) {f' m' F' : Int} (ef : f' = f) (em : m' = m) (eF : F' = F) (Q : Option AV → Sto → Prop) : WpM zt 111 [AR b, AI f', AI m', AI F'] (g, ρ) Q ↔ Q none (setRow g b (pnR (g b) (clR (fun j => g b (119 + j)) f m F) (clR (fun j => g b (218 + j)) f m F)), ρ) := by
  refine wpm_iff (fun Q hQ => ?_) Q
  subst ef em eF
  have h1 := closes_loop (zt := zt) (g := g) hb hl hF hQ (F - f - m) f (by omega) (Nat.le_refl _)
  rw [clR_0, clR_0, pnR_id, row_id] at h1
  simp only [m_M_closes, b_M_closes_0, P_M_closes_51, b_M_closes_51, wp_aln0, wp_bipush, wp_goto, wp_iadd, wp_iald, wp_iast, wp_icge, wp_il4, wp_iln1, wp_iln2, wp_iln3, wp_inc4, wp_is4, wp_isub, wp_nop, wp_ret, wp_sipush, wrI_row, cpI_row, row_s, row_n, row_ss, row_sw, upd_s, upd_n, ad_inj, ad_z, ad_z2, Nat.reduceEqDiff, reduceCtorEq, List.cons_append, List.nil_append, Option.toList_some, Option.toList_none, Int.toNat_natCast, List.length_cons, List.length_nil, Int.cast_ofNat_Int, Nat.reduceAdd, Nat.reduceLeDiff, Nat.reduceLT, Nat.reduceMul, Int.reduceAdd, Int.reduceSub, Int.reduceMul, Int.reduceNeg, Int.reduceLT, Int.reduceLE, Int.reduceEq, Int.reduceToNat, eq_self, true_and, and_true, true_or, or_true, false_or, or_false, if_true, if_false, not_true_eq_false, not_false_eq_true, and_self, ne_eq]
  exact h1
end MSG
