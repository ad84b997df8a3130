/-! THE SCENE'S WRITING METHODS -/
/-- what lay from f on lies m further -/
def mvR (r : Nat → Int) (f m F : Nat) : Nat → Int := fun y => if f + m ≤ y ∧ y < F + m then r (y - m) else r y
def flR (r : Nat → Int) (s t : Nat) : Nat → Int := fun y => if s ≤ y ∧ y < t then -99 else r y
def opR (r : Nat → Int) (f m F : Nat) : Nat → Int := flR (mvR r f m F) f (f + m)
def clR (r : Nat → Int) (f m t : Nat) : Nat → Int := fun y => if f ≤ y ∧ y + m < t then r (y + m) else r y
def shR (r : Nat → Int) (s G : Nat) : Nat → Int := fun y => if s < y ∧ y ≤ G then r (y - 1) else r y
theorem mvR_0 {r : Nat → Int} {m F : Nat} : mvR r F m F = r := by
  funext y
  unfold mvR
  rw [if_neg (by omega)]
theorem mvR_st {r : Nat → Int} {f m F : Nat} (h : f < F) : upd1 (mvR r (f + 1) m F) (f + m) (mvR r (f + 1) m F f) = mvR r f m F := by
  funext y
  unfold mvR upd1
  rw [if_neg (show ¬ (f + 1 + m ≤ f ∧ f < F + m) by omega)]
  by_cases h1 : y = f + m
  · rw [if_pos h1, if_pos (by omega)]
    congr 1
    omega
  · rw [if_neg h1]
    dsimp only
    by_cases h2 : f + 1 + m ≤ y ∧ y < F + m
    · rw [if_pos h2, if_pos (by omega)]
    · rw [if_neg h2, if_neg (by omega)]
theorem flR_0 {r : Nat → Int} {s : Nat} : flR r s s = r := by
  funext y
  unfold flR
  rw [if_neg (by omega)]
theorem flR_st {r : Nat → Int} {s t : Nat} (h : s ≤ t) : upd1 (flR r s t) t (-99) = flR r s (t + 1) := by
  funext y
  unfold flR upd1
  by_cases h1 : y = t
  · rw [if_pos h1, if_pos (by omega)]
  · rw [if_neg h1]
    dsimp only
    by_cases h2 : s ≤ y ∧ y < t
    · rw [if_pos h2, if_pos (by omega)]
    · rw [if_neg h2, if_neg (by omega)]
theorem clR_0 {r : Nat → Int} {f m : Nat} : clR r f m (f + m) = r := by
  funext y
  unfold clR
  rw [if_neg (by omega)]
theorem clR_st {r : Nat → Int} {f m t : Nat} (h : f + m ≤ t) : upd1 (clR r f m t) (t - m) (clR r f m t t) = clR r f m (t + 1) := by
  funext y
  unfold clR upd1
  rw [if_neg (show ¬ (f ≤ t ∧ t + m < t) by omega)]
  by_cases h1 : y = t - m
  · rw [if_pos h1, if_pos (by omega)]
    congr 1
    omega
  · rw [if_neg h1]
    dsimp only
    by_cases h2 : f ≤ y ∧ y + m < t
    · rw [if_pos h2, if_pos (by omega)]
    · rw [if_neg h2, if_neg (by omega)]
theorem shR_0 {r : Nat → Int} {G : Nat} : shR r G G = r := by
  funext y
  unfold shR
  rw [if_neg (by omega)]
theorem shR_st {r : Nat → Int} {s G : Nat} (h : s + 1 ≤ G) : upd1 (shR r (s + 1) G) (s + 1) (shR r (s + 1) G s) = shR r s G := by
  funext y
  unfold shR upd1
  rw [if_neg (show ¬ (s + 1 < s ∧ s ≤ G) by omega)]
  by_cases h1 : y = s + 1
  · rw [if_pos h1, if_pos (by omega)]
    congr 1
    omega
  · rw [if_neg h1]
    dsimp only
    by_cases h2 : s + 1 < y ∧ y ≤ G
    · rw [if_pos h2, if_pos (by omega)]
    · rw [if_neg h2, if_neg (by omega)]
/-- a scene with m new frames from f on -/
def openF (g : Nat → Nat → Int) (a f m : Nat) : Nat → Nat → Int := setRow (setRow (setRow g (ad a 7) (opR (g (ad a 7)) f m (g a 8).toNat)) (ad a 8) (opR (g (ad a 8)) f m (g a 8).toNat)) a (upd1 (g a) 8 (g a 8 + m))
def closeF (g : Nat → Nat → Int) (a f m : Nat) : Nat → Nat → Int := setRow (setRow (setRow g (ad a 7) (clR (g (ad a 7)) f m (g a 8).toNat)) (ad a 8) (clR (g (ad a 8)) f m (g a 8).toNat)) a (upd1 (g a) 8 (g a 8 - m))
section SCW
variable {zt : Nat → Nat} {g : Nat → Nat → Int} {ρ : Ri} {a : Nat}
theorem openFrames_fill (hS : isSc ρ a) {f m : Nat} (hm : f + m ≤ 99) {R S : Nat → Int} {g0 : Nat → Nat → Int} {Q : Option AV → Sto → Prop} (hQ : Q none (setRow (setRow (setRow g0 (ad a 7) (flR R f (f + m))) (ad a 8) (flR S f (f + m))) a (upd1 (g0 a) 8 (g0 a 8 + m)), ρ)) :
    ∀ (d t : Nat), t + d = f + m → f ≤ t → Wp zt 43 (P 43 48) [some (AR a), some (AI f), some (AI m), some (AI t)] [] (setRow (setRow g0 (ad a 7) (flR R f t)) (ad a 8) (flR S f t), ρ) Q := by
  intro d
  induction d with
  | zero =>
    intro t ht hf
    have e : t = f + m := by omega
    subst e
    rw [P_S_openFrames_48]
    simp only [m_S_openFrames, b_S_openFrames_0, P_S_openFrames_46, b_S_openFrames_46, P_S_openFrames_77, b_S_openFrames_77, wp_aln0, wp_bipush, wp_dup, wp_goto, wp_iadd, wp_iald, wp_iast, wp_icge, wp_iclt, wp_iconst, wp_iln1, wp_iln2, wp_iln3, wp_inc3, wp_isn3, wp_isub, wp_nop, wp_ret, qsc_kd, qsc_k1, qsc_l1, qsc_gf1, qsc_k2, qsc_l2, qsc_gf2, qsc_k3, qsc_l3, qsc_gf3, qsc_k4, qsc_l4, qsc_gf4, qsc_k5, qsc_l5, qsc_gf6, qsc_k6, qsc_l6, qsc_gf7, qsc_k7, qsc_l7, qsc_gf9, qsc_k8, qsc_l8, qsc_gf10, qsc_gf0, qsc_pf0, qsc_gf5, qsc_pf5, qsc_gf8, qsc_pf8, wrI_row, cpI_row, row_s, row_n, row_ss, row_sw, upd_s, upd_n, ad_inj, ad_z, ad_z2, Nat.reduceEqDiff, reduceCtorEq, List.cons_append, List.nil_append, Option.toList_some, Option.toList_none, Int.toNat_natCast, List.length_cons, List.length_nil, Int.cast_ofNat_Int, Nat.reduceAdd, Nat.reduceLeDiff, Nat.reduceLT, Nat.reduceMul, Int.reduceAdd, Int.reduceSub, Int.reduceMul, Int.reduceNeg, Int.reduceLT, Int.reduceLE, Int.reduceEq, Int.reduceToNat, eq_self, true_and, and_true, true_or, or_true, false_or, or_false, if_true, if_false, not_true_eq_false, not_false_eq_true, and_self, ne_eq, b_S_openFrames_48, hS]
    (repeat' (first | apply And.intro | split)) <;> first | omega | exact hQ | (rw [b2_t (by omega)] at hQ; exact hQ) | (rw [b2_f (by omega)] at hQ; exact hQ)
  | succ d ih =>
    intro t ht hf
    have i1 := ih (t + 1) (by omega) (by omega)
    rw [← flR_st hf, ← flR_st hf] at i1
    rw [P_S_openFrames_48]
    simp only [m_S_openFrames, b_S_openFrames_0, P_S_openFrames_46, b_S_openFrames_46, P_S_openFrames_77, b_S_openFrames_77, wp_aln0, wp_bipush, wp_dup, wp_goto, wp_iadd, wp_iald, wp_iast, wp_icge, wp_iclt, wp_iconst, wp_iln1, wp_iln2, wp_iln3, wp_inc3, wp_isn3, wp_isub, wp_nop, wp_ret, qsc_kd, qsc_k1, qsc_l1, qsc_gf1, qsc_k2, qsc_l2, qsc_gf2, qsc_k3, qsc_l3, qsc_gf3, qsc_k4, qsc_l4, qsc_gf4, qsc_k5, qsc_l5, qsc_gf6, qsc_k6, qsc_l6, qsc_gf7, qsc_k7, qsc_l7, qsc_gf9, qsc_k8, qsc_l8, qsc_gf10, qsc_gf0, qsc_pf0, qsc_gf5, qsc_pf5, qsc_gf8, qsc_pf8, wrI_row, cpI_row, row_s, row_n, row_ss, row_sw, upd_s, upd_n, ad_inj, ad_z, ad_z2, Nat.reduceEqDiff, reduceCtorEq, List.cons_append, List.nil_append, Option.toList_some, Option.toList_none, Int.toNat_natCast, List.length_cons, List.length_nil, Int.cast_ofNat_Int, Nat.reduceAdd, Nat.reduceLeDiff, Nat.reduceLT, Nat.reduceMul, Int.reduceAdd, Int.reduceSub, Int.reduceMul, Int.reduceNeg, Int.reduceLT, Int.reduceLE, Int.reduceEq, Int.reduceToNat, eq_self, true_and, and_true, true_or, or_true, false_or, or_false, if_true, if_false, not_true_eq_false, not_false_eq_true, and_self, ne_eq, b_S_openFrames_48, hS]
    (repeat' (first | apply And.intro | split)) <;> first | omega | exact i1 | (rw [b2_t (by omega)] at i1; exact i1) | (rw [b2_f (by omega)] at i1; exact i1)
theorem openFrames_loop (hS : isSc ρ a) {f m : Nat} (hF0 : 0 ≤ g a 8) (hF : g a 8 + m ≤ 99) (hf : (f : Int) ≤ g a 8) {Q : Option AV → Sto → Prop} (hQ : Q none (openF g a f m, ρ)) :
    ∀ (d f1 : Nat), f1 = f + d → (f1 : Int) ≤ g a 8 → Wp zt 43 (P 43 7) [some (AR a), some (AI f), some (AI m), some (AI ((f1 : Int) - 1))] [] (setRow (setRow g (ad a 7) (mvR (g (ad a 7)) f1 m (g a 8).toNat)) (ad a 8) (mvR (g (ad a 8)) f1 m (g a 8).toNat), ρ) Q := by
  intro d
  induction d with
  | zero =>
    intro f1 h1 h2
    have e : f1 = f := by omega
    subst e
    have i1 := openFrames_fill (zt := zt) (g0 := g) hS (f := f1) (m := m) (by omega) (R := mvR (g (ad a 7)) f1 m (g a 8).toNat) (S := mvR (g (ad a 8)) f1 m (g a 8).toNat) hQ m f1 (by omega) (Nat.le_refl _)
    rw [flR_0, flR_0] at i1
    rw [P_S_openFrames_7]
    simp only [m_S_openFrames, b_S_openFrames_0, P_S_openFrames_46, b_S_openFrames_46, P_S_openFrames_77, b_S_openFrames_77, wp_aln0, wp_bipush, wp_dup, wp_goto, wp_iadd, wp_iald, wp_iast, wp_icge, wp_iclt, wp_iconst, wp_iln1, wp_iln2, wp_iln3, wp_inc3, wp_isn3, wp_isub, wp_nop, wp_ret, qsc_kd, qsc_k1, qsc_l1, qsc_gf1, qsc_k2, qsc_l2, qsc_gf2, qsc_k3, qsc_l3, qsc_gf3, qsc_k4, qsc_l4, qsc_gf4, qsc_k5, qsc_l5, qsc_gf6, qsc_k6, qsc_l6, qsc_gf7, qsc_k7, qsc_l7, qsc_gf9, qsc_k8, qsc_l8, qsc_gf10, qsc_gf0, qsc_pf0, qsc_gf5, qsc_pf5, qsc_gf8, qsc_pf8, wrI_row, cpI_row, row_s, row_n, row_ss, row_sw, upd_s, upd_n, ad_inj, ad_z, ad_z2, Nat.reduceEqDiff, reduceCtorEq, List.cons_append, List.nil_append, Option.toList_some, Option.toList_none, Int.toNat_natCast, List.length_cons, List.length_nil, Int.cast_ofNat_Int, Nat.reduceAdd, Nat.reduceLeDiff, Nat.reduceLT, Nat.reduceMul, Int.reduceAdd, Int.reduceSub, Int.reduceMul, Int.reduceNeg, Int.reduceLT, Int.reduceLE, Int.reduceEq, Int.reduceToNat, eq_self, true_and, and_true, true_or, or_true, false_or, or_false, if_true, if_false, not_true_eq_false, not_false_eq_true, and_self, ne_eq, b_S_openFrames_7, hS]
    (repeat' (first | apply And.intro | split)) <;> first | omega | exact i1 | (rw [b2_t (by omega)] at i1; exact i1) | (rw [b2_f (by omega)] at i1; exact i1)
  | succ d ih =>
    intro f1 h1 h2
    obtain ⟨f2, rfl⟩ : ∃ f2, f1 = f2 + 1 := ⟨f1 - 1, by omega⟩
    have i1 := ih f2 (by omega) (by omega)
    rw [← mvR_st (show f2 < (g a 8).toNat by omega), ← mvR_st (show f2 < (g a 8).toNat by omega)] at i1
    have e1 : ((f2 + 1 : Nat) : Int) - 1 = (f2 : Int) := by omega
    have e2 : ((f2 : Int) + (m : Int)).toNat = f2 + m := by omega
    rw [P_S_openFrames_7, e1]
    simp only [m_S_openFrames, b_S_openFrames_0, P_S_openFrames_46, b_S_openFrames_46, P_S_openFrames_77, b_S_openFrames_77, wp_aln0, wp_bipush, wp_dup, wp_goto, wp_iadd, wp_iald, wp_iast, wp_icge, wp_iclt, wp_iconst, wp_iln1, wp_iln2, wp_iln3, wp_inc3, wp_isn3, wp_isub, wp_nop, wp_ret, qsc_kd, qsc_k1, qsc_l1, qsc_gf1, qsc_k2, qsc_l2, qsc_gf2, qsc_k3, qsc_l3, qsc_gf3, qsc_k4, qsc_l4, qsc_gf4, qsc_k5, qsc_l5, qsc_gf6, qsc_k6, qsc_l6, qsc_gf7, qsc_k7, qsc_l7, qsc_gf9, qsc_k8, qsc_l8, qsc_gf10, qsc_gf0, qsc_pf0, qsc_gf5, qsc_pf5, qsc_gf8, qsc_pf8, wrI_row, cpI_row, row_s, row_n, row_ss, row_sw, upd_s, upd_n, ad_inj, ad_z, ad_z2, Nat.reduceEqDiff, reduceCtorEq, List.cons_append, List.nil_append, Option.toList_some, Option.toList_none, Int.toNat_natCast, List.length_cons, List.length_nil, Int.cast_ofNat_Int, Nat.reduceAdd, Nat.reduceLeDiff, Nat.reduceLT, Nat.reduceMul, Int.reduceAdd, Int.reduceSub, Int.reduceMul, Int.reduceNeg, Int.reduceLT, Int.reduceLE, Int.reduceEq, Int.reduceToNat, eq_self, true_and, and_true, true_or, or_true, false_or, or_false, if_true, if_false, not_true_eq_false, not_false_eq_true, and_self, ne_eq, b_S_openFrames_7, hS, e2]
    (repeat' (first | apply And.intro | split)) <;> first | omega | exact i1 | (rw [b2_t (by omega)] at i1; exact i1) | (rw [b2_f (by omega)] at i1; exact i1)
theorem openFrames_ok (hS : isSc ρ a) {f m : Nat} (hF0 : 0 ≤ g a 8) (hF : g a 8 + m ≤ 99) (hf : (f : Int) ≤ g a 8) (Q : Option AV → Sto → Prop) : WpM zt 43 [AR a, AI f, AI m] (g, ρ) Q ↔ Q none (openF g a f m, ρ) := by
  refine wpm_iff (fun Q hQ => ?_) Q
  obtain ⟨F, hFe⟩ := Int.eq_ofNat_of_zero_le hF0
  have h1 := openFrames_loop (zt := zt) hS hF0 hF hf hQ (F - f) F (by omega) (by omega)
  have e : (g a 8).toNat = F := by omega
  rw [e, mvR_0, mvR_0, row_id, row_id] at h1
  simp only [m_S_openFrames, b_S_openFrames_0, P_S_openFrames_46, b_S_openFrames_46, P_S_openFrames_48, b_S_openFrames_48, P_S_openFrames_77, b_S_openFrames_77, wp_aln0, wp_bipush, wp_dup, wp_goto, wp_iadd, wp_iald, wp_iast, wp_icge, wp_iclt, wp_iconst, wp_iln1, wp_iln2, wp_iln3, wp_inc3, wp_isn3, wp_isub, wp_nop, wp_ret, qsc_kd, qsc_k1, qsc_l1, qsc_gf1, qsc_k2, qsc_l2, qsc_gf2, qsc_k3, qsc_l3, qsc_gf3, qsc_k4, qsc_l4, qsc_gf4, qsc_k5, qsc_l5, qsc_gf6, qsc_k6, qsc_l6, qsc_gf7, qsc_k7, qsc_l7, qsc_gf9, qsc_k8, qsc_l8, qsc_gf10, qsc_gf0, qsc_pf0, qsc_gf5, qsc_pf5, qsc_gf8, qsc_pf8, wrI_row, cpI_row, row_s, row_n, row_ss, row_sw, upd_s, upd_n, ad_inj, ad_z, ad_z2, Nat.reduceEqDiff, reduceCtorEq, List.cons_append, List.nil_append, Option.toList_some, Option.toList_none, Int.toNat_natCast, List.length_cons, List.length_nil, Int.cast_ofNat_Int, Nat.reduceAdd, Nat.reduceLeDiff, Nat.reduceLT, Nat.reduceMul, Int.reduceAdd, Int.reduceSub, Int.reduceMul, Int.reduceNeg, Int.reduceLT, Int.reduceLE, Int.reduceEq, Int.reduceToNat, eq_self, true_and, and_true, true_or, or_true, false_or, or_false, if_true, if_false, not_true_eq_false, not_false_eq_true, and_self, ne_eq, hS, hFe]
  exact h1
theorem closeFrames_loop (hS : isSc ρ a) {f m : Nat} (hF : g a 8 ≤ 99) {Q : Option AV → Sto → Prop} (hQ : Q none (closeF g a f m, ρ)) :
    ∀ (d t : Nat), (t : Int) + d = g a 8 → f + m ≤ t → Wp zt 44 (P 44 4) [some (AR a), some (AI f), some (AI m), some (AI t)] [] (setRow (setRow g (ad a 7) (clR (g (ad a 7)) f m t)) (ad a 8) (clR (g (ad a 8)) f m t), ρ) Q := by
  intro d
  induction d with
  | zero =>
    intro t h1 h2
    have e : (g a 8).toNat = t := by omega
    unfold closeF at hQ
    rw [e] at hQ
    rw [P_S_closeFrames_4]
    simp only [m_S_closeFrames, b_S_closeFrames_0, P_S_closeFrames_46, b_S_closeFrames_46, wp_aln0, wp_dup, wp_goto, wp_iadd, wp_iald, wp_iast, wp_icge, wp_iln1, wp_iln2, wp_iln3, wp_inc3, wp_isn3, wp_isub, wp_nop, wp_ret, qsc_kd, qsc_k1, qsc_l1, qsc_gf1, qsc_k2, qsc_l2, qsc_gf2, qsc_k3, qsc_l3, qsc_gf3, qsc_k4, qsc_l4, qsc_gf4, qsc_k5, qsc_l5, qsc_gf6, qsc_k6, qsc_l6, qsc_gf7, qsc_k7, qsc_l7, qsc_gf9, qsc_k8, qsc_l8, qsc_gf10, qsc_gf0, qsc_pf0, qsc_gf5, qsc_pf5, qsc_gf8, qsc_pf8, wrI_row, cpI_row, row_s, row_n, row_ss, row_sw, upd_s, upd_n, ad_inj, ad_z, ad_z2, Nat.reduceEqDiff, reduceCtorEq, List.cons_append, List.nil_append, Option.toList_some, Option.toList_none, Int.toNat_natCast, List.length_cons, List.length_nil, Int.cast_ofNat_Int, Nat.reduceAdd, Nat.reduceLeDiff, Nat.reduceLT, Nat.reduceMul, Int.reduceAdd, Int.reduceSub, Int.reduceMul, Int.reduceNeg, Int.reduceLT, Int.reduceLE, Int.reduceEq, Int.reduceToNat, eq_self, true_and, and_true, true_or, or_true, false_or, or_false, if_true, if_false, not_true_eq_false, not_false_eq_true, and_self, ne_eq, b_S_closeFrames_4, hS]
    (repeat' (first | apply And.intro | split)) <;> first | omega | exact hQ | (rw [b2_t (by omega)] at hQ; exact hQ) | (rw [b2_f (by omega)] at hQ; exact hQ)
  | succ d ih =>
    intro t h1 h2
    have i1 := ih (t + 1) (by omega) (by omega)
    rw [← clR_st h2, ← clR_st h2] at i1
    have e2 : ((t : Int) - (m : Int)).toNat = t - m := by omega
    rw [P_S_closeFrames_4]
    simp only [m_S_closeFrames, b_S_closeFrames_0, P_S_closeFrames_46, b_S_closeFrames_46, wp_aln0, wp_dup, wp_goto, wp_iadd, wp_iald, wp_iast, wp_icge, wp_iln1, wp_iln2, wp_iln3, wp_inc3, wp_isn3, wp_isub, wp_nop, wp_ret, qsc_kd, qsc_k1, qsc_l1, qsc_gf1, qsc_k2, qsc_l2, qsc_gf2, qsc_k3, qsc_l3, qsc_gf3, qsc_k4, qsc_l4, qsc_gf4, qsc_k5, qsc_l5, qsc_gf6, qsc_k6, qsc_l6, qsc_gf7, qsc_k7, qsc_l7, qsc_gf9, qsc_k8, qsc_l8, qsc_gf10, qsc_gf0, qsc_pf0, qsc_gf5, qsc_pf5, qsc_gf8, qsc_pf8, wrI_row, cpI_row, row_s, row_n, row_ss, row_sw, upd_s, upd_n, ad_inj, ad_z, ad_z2, Nat.reduceEqDiff, reduceCtorEq, List.cons_append, List.nil_append, Option.toList_some, Option.toList_none, Int.toNat_natCast, List.length_cons, List.length_nil, Int.cast_ofNat_Int, Nat.reduceAdd, Nat.reduceLeDiff, Nat.reduceLT, Nat.reduceMul, Int.reduceAdd, Int.reduceSub, Int.reduceMul, Int.reduceNeg, Int.reduceLT, Int.reduceLE, Int.reduceEq, Int.reduceToNat, eq_self, true_and, and_true, true_or, or_true, false_or, or_false, if_true, if_false, not_true_eq_false, not_false_eq_true, and_self, ne_eq, b_S_closeFrames_4, hS, e2]
    (repeat' (first | apply And.intro | split)) <;> first | omega | exact i1 | (rw [b2_t (by omega)] at i1; exact i1) | (rw [b2_f (by omega)] at i1; exact i1)
theorem closeFrames_ok (hS : isSc ρ a) {f m : Nat} (hF : g a 8 ≤ 99) (hf : (f : Int) + m ≤ g a 8) (Q : Option AV → Sto → Prop) : WpM zt 44 [AR a, AI f, AI m] (g, ρ) Q ↔ Q none (closeF g a f m, ρ) := by
  refine wpm_iff (fun Q hQ => ?_) Q
  have h1 := closeFrames_loop (zt := zt) hS hF hQ (g a 8 - f - m).toNat (f + m) (by omega) (Nat.le_refl _)
  rw [clR_0, clR_0, row_id, row_id] at h1
  simp only [m_S_closeFrames, b_S_closeFrames_0, P_S_closeFrames_46, b_S_closeFrames_46, wp_aln0, wp_dup, wp_goto, wp_iadd, wp_iald, wp_iast, wp_icge, wp_iln1, wp_iln2, wp_iln3, wp_inc3, wp_isn3, wp_isub, wp_nop, wp_ret, qsc_kd, qsc_k1, qsc_l1, qsc_gf1, qsc_k2, qsc_l2, qsc_gf2, qsc_k3, qsc_l3, qsc_gf3, qsc_k4, qsc_l4, qsc_gf4, qsc_k5, qsc_l5, qsc_gf6, qsc_k6, qsc_l6, qsc_gf7, qsc_k7, qsc_l7, qsc_gf9, qsc_k8, qsc_l8, qsc_gf10, qsc_gf0, qsc_pf0, qsc_gf5, qsc_pf5, qsc_gf8, qsc_pf8, wrI_row, cpI_row, row_s, row_n, row_ss, row_sw, upd_s, upd_n, ad_inj, ad_z, ad_z2, Nat.reduceEqDiff, reduceCtorEq, List.cons_append, List.nil_append, Option.toList_some, Option.toList_none, Int.toNat_natCast, List.length_cons, List.length_nil, Int.cast_ofNat_Int, Nat.reduceAdd, Nat.reduceLeDiff, Nat.reduceLT, Nat.reduceMul, Int.reduceAdd, Int.reduceSub, Int.reduceMul, Int.reduceNeg, Int.reduceLT, Int.reduceLE, Int.reduceEq, Int.reduceToNat, eq_self, true_and, and_true, true_or, or_true, false_or, or_false, if_true, if_false, not_true_eq_false, not_false_eq_true, and_self, ne_eq, hS]
  exact h1
theorem openF_5 {f m : Nat} : openF g a f m a 5 = g a 5 := by
  simp only [openF, row_s, upd1]
  rfl
theorem openF_r {f m j : Nat} (h : j ≠ 7) (h2 : j ≠ 8) (h3 : j ≠ 0) : openF g a f m (ad a j) = g (ad a j) := by
  unfold openF
  rw [row_n (by rw [ad_z]; exact h3), row_n (by rw [ad_inj]; exact h2), row_n (by rw [ad_inj]; exact h)]
theorem closeF_5 {f m : Nat} : closeF g a f m a 5 = g a 5 := by
  simp only [closeF, row_s, upd1]
  rfl
theorem closeF_r {f m j : Nat} (h : j ≠ 7) (h2 : j ≠ 8) (h3 : j ≠ 0) : closeF g a f m (ad a j) = g (ad a j) := by
  unfold closeF
  rw [row_n (by rw [ad_z]; exact h3), row_n (by rw [ad_inj]; exact h2), row_n (by rw [ad_inj]; exact h)]
/-- a scene with a new segment of m frames at s -/
def openS (g : Nat → Nat → Int) (a s : Nat) (kd : Int) (m : Nat) : Nat → Nat → Int := setRow (setRow (setRow (openF g a (sumL (vwC g a) s).toNat m) (ad a 5) (upd1 (shR (g (ad a 5)) s (g a 5).toNat) s kd)) (ad a 6) (upd1 (shR (g (ad a 6)) s (g a 5).toNat) s m)) a (upd1 (openF g a (sumL (vwC g a) s).toNat m a) 5 (g a 5 + 1))
theorem openSegment_loop (hS : isSc ρ a) {s m : Nat} {kd : Int} (hG0 : 0 ≤ g a 5) (hG : g a 5 ≤ 29) (hs : (s : Int) ≤ g a 5) {Q : Option AV → Sto → Prop} {g0 : Nat → Nat → Int} (h5 : g0 a 5 = g a 5) (hQ : Q none (setRow (setRow (setRow g0 (ad a 5) (upd1 (shR (g0 (ad a 5)) s (g a 5).toNat) s kd)) (ad a 6) (upd1 (shR (g0 (ad a 6)) s (g a 5).toNat) s m)) a (upd1 (g0 a) 5 (g a 5 + 1)), ρ)) :
    ∀ (d t : Nat), t = s + d → (t : Int) ≤ g a 5 → Wp zt 41 (P 41 16) [some (AR a), some (AI s), some (AI kd), some (AI m), some (AI t)] [] (setRow (setRow g0 (ad a 5) (shR (g0 (ad a 5)) t (g a 5).toNat)) (ad a 6) (shR (g0 (ad a 6)) t (g a 5).toNat), ρ) Q := by
  intro d
  induction d with
  | zero =>
    intro t h1 h2
    have e : t = s := by omega
    subst e
    rw [P_S_openSegment_16]
    simp only [m_S_openSegment, b_S_openSegment_0, P_S_openSegment_60, b_S_openSegment_60, wp_aln0, wp_cv1, wp_cv2, wp_cv3, wp_cv4, wp_cv5, wp_cv6, wp_cv7, wp_dup, wp_goto, wp_iadd, wp_iald, wp_iast, wp_icle, wp_iconst, wp_il4, wp_iln1, wp_iln2, wp_iln3, wp_inc4, wp_is4, wp_isub, wp_nop, wp_ret, qsc_kd, qsc_k1, qsc_l1, qsc_gf1, qsc_k2, qsc_l2, qsc_gf2, qsc_k3, qsc_l3, qsc_gf3, qsc_k4, qsc_l4, qsc_gf4, qsc_k5, qsc_l5, qsc_gf6, qsc_k6, qsc_l6, qsc_gf7, qsc_k7, qsc_l7, qsc_gf9, qsc_k8, qsc_l8, qsc_gf10, qsc_gf0, qsc_pf0, qsc_gf5, qsc_pf5, qsc_gf8, qsc_pf8, wrI_row, cpI_row, row_s, row_n, row_ss, row_sw, upd_s, upd_n, ad_inj, ad_z, ad_z2, Nat.reduceEqDiff, reduceCtorEq, List.cons_append, List.nil_append, Option.toList_some, Option.toList_none, Int.toNat_natCast, List.length_cons, List.length_nil, Int.cast_ofNat_Int, Nat.reduceAdd, Nat.reduceLeDiff, Nat.reduceLT, Nat.reduceMul, Int.reduceAdd, Int.reduceSub, Int.reduceMul, Int.reduceNeg, Int.reduceLT, Int.reduceLE, Int.reduceEq, Int.reduceToNat, eq_self, true_and, and_true, true_or, or_true, false_or, or_false, if_true, if_false, not_true_eq_false, not_false_eq_true, and_self, ne_eq, b_S_openSegment_16, hS, h5]
    (repeat' (first | apply And.intro | split)) <;> first | omega | exact hQ | (rw [b2_t (by omega)] at hQ; exact hQ) | (rw [b2_f (by omega)] at hQ; exact hQ)
  | succ d ih =>
    intro t h1 h2
    obtain ⟨t2, rfl⟩ : ∃ t2, t = t2 + 1 := ⟨t - 1, by omega⟩
    have i1 := ih t2 (by omega) (by omega)
    rw [← shR_st (show t2 + 1 ≤ (g a 5).toNat by omega), ← shR_st (show t2 + 1 ≤ (g a 5).toNat by omega)] at i1
    have e1 : (((t2 + 1 : Nat) : Int) + -1) = (t2 : Int) := by omega
    have e2 : (((t2 + 1 : Nat) : Int) - 1).toNat = t2 := by omega
    rw [P_S_openSegment_16]
    simp only [m_S_openSegment, b_S_openSegment_0, P_S_openSegment_60, b_S_openSegment_60, wp_aln0, wp_cv1, wp_cv2, wp_cv3, wp_cv4, wp_cv5, wp_cv6, wp_cv7, wp_dup, wp_goto, wp_iadd, wp_iald, wp_iast, wp_icle, wp_iconst, wp_il4, wp_iln1, wp_iln2, wp_iln3, wp_inc4, wp_is4, wp_isub, wp_nop, wp_ret, qsc_kd, qsc_k1, qsc_l1, qsc_gf1, qsc_k2, qsc_l2, qsc_gf2, qsc_k3, qsc_l3, qsc_gf3, qsc_k4, qsc_l4, qsc_gf4, qsc_k5, qsc_l5, qsc_gf6, qsc_k6, qsc_l6, qsc_gf7, qsc_k7, qsc_l7, qsc_gf9, qsc_k8, qsc_l8, qsc_gf10, qsc_gf0, qsc_pf0, qsc_gf5, qsc_pf5, qsc_gf8, qsc_pf8, wrI_row, cpI_row, row_s, row_n, row_ss, row_sw, upd_s, upd_n, ad_inj, ad_z, ad_z2, Nat.reduceEqDiff, reduceCtorEq, List.cons_append, List.nil_append, Option.toList_some, Option.toList_none, Int.toNat_natCast, List.length_cons, List.length_nil, Int.cast_ofNat_Int, Nat.reduceAdd, Nat.reduceLeDiff, Nat.reduceLT, Nat.reduceMul, Int.reduceAdd, Int.reduceSub, Int.reduceMul, Int.reduceNeg, Int.reduceLT, Int.reduceLE, Int.reduceEq, Int.reduceToNat, eq_self, true_and, and_true, true_or, or_true, false_or, or_false, if_true, if_false, not_true_eq_false, not_false_eq_true, and_self, ne_eq, b_S_openSegment_16, hS, e1, e2]
    (repeat' (first | apply And.intro | split)) <;> first | omega | exact i1 | (rw [b2_t (by omega)] at i1; exact i1) | (rw [b2_f (by omega)] at i1; exact i1)
theorem openSegment_ok (hS : isSc ρ a) (hW : WFV (-99) (vwC g a)) {s m : Nat} {kd : Int} (hG : g a 5 ≤ 29) (hs : (s : Int) ≤ g a 5) (hF : g a 8 + m ≤ 99) (Q : Option AV → Sto → Prop) : WpM zt 41 [AR a, AI s, AI kd, AI m] (g, ρ) Q ↔ Q none (openS g a s kd m, ρ) := by
  refine wpm_iff (fun Q hQ => ?_) Q
  have hG0 := w_G hW
  have hF0 := w_F hW
  have hb := sumL_mono (V := vwC g a) (m := g a 5) (fun j hj => w_ln hW hj) s hs
  obtain ⟨F, hFe⟩ := Int.eq_ofNat_of_zero_le (show 0 ≤ sumL (vwC g a) s by omega)
  have hle : sumL (vwC g a) s ≤ g a 8 := by
    have h1 := sumL_le (V := vwC g a) (m := g a 5) (fun j hj => w_ln hW hj) (s := s) ((g a 5).toNat - s) (by omega)
    rw [show s + ((g a 5).toNat - s) = (g a 5).toNat by omega, w_sum hW] at h1
    omega
  obtain ⟨G, hGe⟩ := Int.eq_ofNat_of_zero_le hG0.1
  have eF : (sumL (vwC g a) s).toNat = F := by omega
  unfold openS at hQ
  rw [eF, ← openF_r (g := g) (a := a) (f := F) (m := m) (j := 5) (by decide) (by decide) (by decide), ← openF_r (g := g) (a := a) (f := F) (m := m) (j := 6) (by decide) (by decide) (by decide)] at hQ
  have h1 := openSegment_loop (zt := zt) hS hG0.1 hG hs (g0 := openF g a F m) openF_5 hQ (G - s) G (by omega) (by omega)
  have eG : (g a 5).toNat = G := by omega
  rw [eG, shR_0, shR_0, row_id, row_id] at h1
  have o1 := openFrames_ok (zt := zt) (g := g) hS (f := F) (m := m) hF0.1 hF (by omega)
  have f1 := firstFrameOf_ok (zt := zt) hS hW (s := (s : Int)) (by omega) hs
  simp only [m_S_openSegment, b_S_openSegment_0, P_S_openSegment_60, b_S_openSegment_60, wp_aln0, wp_cv1, wp_cv2, wp_cv3, wp_cv4, wp_cv5, wp_cv6, wp_cv7, wp_dup, wp_goto, wp_iadd, wp_iald, wp_iast, wp_icle, wp_iconst, wp_il4, wp_iln1, wp_iln2, wp_iln3, wp_inc4, wp_is4, wp_isub, wp_nop, wp_ret, qsc_kd, qsc_k1, qsc_l1, qsc_gf1, qsc_k2, qsc_l2, qsc_gf2, qsc_k3, qsc_l3, qsc_gf3, qsc_k4, qsc_l4, qsc_gf4, qsc_k5, qsc_l5, qsc_gf6, qsc_k6, qsc_l6, qsc_gf7, qsc_k7, qsc_l7, qsc_gf9, qsc_k8, qsc_l8, qsc_gf10, qsc_gf0, qsc_pf0, qsc_gf5, qsc_pf5, qsc_gf8, qsc_pf8, wrI_row, cpI_row, row_s, row_n, row_ss, row_sw, upd_s, upd_n, ad_inj, ad_z, ad_z2, Nat.reduceEqDiff, reduceCtorEq, List.cons_append, List.nil_append, Option.toList_some, Option.toList_none, Int.toNat_natCast, List.length_cons, List.length_nil, Int.cast_ofNat_Int, Nat.reduceAdd, Nat.reduceLeDiff, Nat.reduceLT, Nat.reduceMul, Int.reduceAdd, Int.reduceSub, Int.reduceMul, Int.reduceNeg, Int.reduceLT, Int.reduceLE, Int.reduceEq, Int.reduceToNat, eq_self, true_and, and_true, true_or, or_true, false_or, or_false, if_true, if_false, not_true_eq_false, not_false_eq_true, and_self, ne_eq, hS, f1, hFe, o1, openF_5, hGe]
  exact h1
def csR (r : Nat → Int) (s i : Nat) : Nat → Int := fun y => if s ≤ y ∧ y + 1 < i then r (y + 1) else r y
theorem csR_0 {r : Nat → Int} {s : Nat} : csR r s (s + 1) = r := by
  funext y
  unfold csR
  rw [if_neg (by omega)]
theorem csR_st {r : Nat → Int} {s i : Nat} (h : s + 1 ≤ i) : upd1 (csR r s i) (i - 1) (csR r s i i) = csR r s (i + 1) := by
  funext y
  unfold csR upd1
  rw [if_neg (show ¬ (s ≤ i ∧ i + 1 < i) by omega)]
  by_cases h1 : y = i - 1
  · rw [if_pos h1, if_pos (by omega)]
    congr 1
    omega
  · rw [if_neg h1]
    dsimp only
    by_cases h2 : s ≤ y ∧ y + 1 < i
    · rw [if_pos h2, if_pos (by omega)]
    · rw [if_neg h2, if_neg (by omega)]
/-- a scene without its segment s -/
def closeS (g : Nat → Nat → Int) (a s : Nat) : Nat → Nat → Int := setRow (setRow (setRow (closeF g a (sumL (vwC g a) s).toNat (g (ad a 6) s).toNat) (ad a 5) (csR (g (ad a 5)) s (g a 5).toNat)) (ad a 6) (csR (g (ad a 6)) s (g a 5).toNat)) a (upd1 (closeF g a (sumL (vwC g a) s).toNat (g (ad a 6) s).toNat a) 5 (g a 5 - 1))
theorem closeSegment_loop (hS : isSc ρ a) {s : Nat} (hG : g a 5 ≤ 30) {Q : Option AV → Sto → Prop} {g0 : Nat → Nat → Int} (h5 : g0 a 5 = g a 5) (hQ : Q none (setRow (setRow (setRow g0 (ad a 5) (csR (g0 (ad a 5)) s (g a 5).toNat)) (ad a 6) (csR (g0 (ad a 6)) s (g a 5).toNat)) a (upd1 (g0 a) 5 (g a 5 - 1)), ρ)) :
    ∀ (d t : Nat), (t : Int) + d = g a 5 → s + 1 ≤ t → Wp zt 42 (P 42 19) [some (AR a), some (AI s), some (AI t)] [] (setRow (setRow g0 (ad a 5) (csR (g0 (ad a 5)) s t)) (ad a 6) (csR (g0 (ad a 6)) s t), ρ) Q := by
  intro d
  induction d with
  | zero =>
    intro t h1 h2
    have e : (g a 5).toNat = t := by omega
    rw [e] at hQ
    rw [P_S_closeSegment_19]
    simp only [m_S_closeSegment, b_S_closeSegment_0, P_S_closeSegment_61, b_S_closeSegment_61, wp_aln0, wp_cv1, wp_cv2, wp_cv3, wp_cv4, wp_cv5, wp_cv6, wp_cv7, wp_dup, wp_goto, wp_iadd, wp_iald, wp_iast, wp_icge, wp_iconst, wp_iln1, wp_iln2, wp_inc2, wp_isn2, wp_isub, wp_nop, wp_ret, qsc_kd, qsc_k1, qsc_l1, qsc_gf1, qsc_k2, qsc_l2, qsc_gf2, qsc_k3, qsc_l3, qsc_gf3, qsc_k4, qsc_l4, qsc_gf4, qsc_k5, qsc_l5, qsc_gf6, qsc_k6, qsc_l6, qsc_gf7, qsc_k7, qsc_l7, qsc_gf9, qsc_k8, qsc_l8, qsc_gf10, qsc_gf0, qsc_pf0, qsc_gf5, qsc_pf5, qsc_gf8, qsc_pf8, wrI_row, cpI_row, row_s, row_n, row_ss, row_sw, upd_s, upd_n, ad_inj, ad_z, ad_z2, Nat.reduceEqDiff, reduceCtorEq, List.cons_append, List.nil_append, Option.toList_some, Option.toList_none, Int.toNat_natCast, List.length_cons, List.length_nil, Int.cast_ofNat_Int, Nat.reduceAdd, Nat.reduceLeDiff, Nat.reduceLT, Nat.reduceMul, Int.reduceAdd, Int.reduceSub, Int.reduceMul, Int.reduceNeg, Int.reduceLT, Int.reduceLE, Int.reduceEq, Int.reduceToNat, eq_self, true_and, and_true, true_or, or_true, false_or, or_false, if_true, if_false, not_true_eq_false, not_false_eq_true, and_self, ne_eq, b_S_closeSegment_19, hS, h5]
    (repeat' (first | apply And.intro | split)) <;> first | omega | exact hQ | (rw [b2_t (by omega)] at hQ; exact hQ) | (rw [b2_f (by omega)] at hQ; exact hQ)
  | succ d ih =>
    intro t h1 h2
    have i1 := ih (t + 1) (by omega) (by omega)
    rw [← csR_st h2, ← csR_st h2] at i1
    have e2 : ((t : Int) - 1).toNat = t - 1 := by omega
    rw [P_S_closeSegment_19]
    simp only [m_S_closeSegment, b_S_closeSegment_0, P_S_closeSegment_61, b_S_closeSegment_61, wp_aln0, wp_cv1, wp_cv2, wp_cv3, wp_cv4, wp_cv5, wp_cv6, wp_cv7, wp_dup, wp_goto, wp_iadd, wp_iald, wp_iast, wp_icge, wp_iconst, wp_iln1, wp_iln2, wp_inc2, wp_isn2, wp_isub, wp_nop, wp_ret, qsc_kd, qsc_k1, qsc_l1, qsc_gf1, qsc_k2, qsc_l2, qsc_gf2, qsc_k3, qsc_l3, qsc_gf3, qsc_k4, qsc_l4, qsc_gf4, qsc_k5, qsc_l5, qsc_gf6, qsc_k6, qsc_l6, qsc_gf7, qsc_k7, qsc_l7, qsc_gf9, qsc_k8, qsc_l8, qsc_gf10, qsc_gf0, qsc_pf0, qsc_gf5, qsc_pf5, qsc_gf8, qsc_pf8, wrI_row, cpI_row, row_s, row_n, row_ss, row_sw, upd_s, upd_n, ad_inj, ad_z, ad_z2, Nat.reduceEqDiff, reduceCtorEq, List.cons_append, List.nil_append, Option.toList_some, Option.toList_none, Int.toNat_natCast, List.length_cons, List.length_nil, Int.cast_ofNat_Int, Nat.reduceAdd, Nat.reduceLeDiff, Nat.reduceLT, Nat.reduceMul, Int.reduceAdd, Int.reduceSub, Int.reduceMul, Int.reduceNeg, Int.reduceLT, Int.reduceLE, Int.reduceEq, Int.reduceToNat, eq_self, true_and, and_true, true_or, or_true, false_or, or_false, if_true, if_false, not_true_eq_false, not_false_eq_true, and_self, ne_eq, b_S_closeSegment_19, hS, e2, h5]
    (repeat' (first | apply And.intro | split)) <;> first | omega | exact i1 | (rw [b2_t (by omega)] at i1; exact i1) | (rw [b2_f (by omega)] at i1; exact i1)
theorem closeSegment_ok (hS : isSc ρ a) (hW : WFV (-99) (vwC g a)) {s : Nat} (hs : (s : Int) < g a 5) (Q : Option AV → Sto → Prop) : WpM zt 42 [AR a, AI s] (g, ρ) Q ↔ Q none (closeS g a s, ρ) := by
  refine wpm_iff (fun Q hQ => ?_) Q
  have hG0 := w_G hW
  have hF0 := w_F hW
  have hln := w_ln hW hs
  have hb := sumL_mono (V := vwC g a) (m := g a 5) (fun j hj => w_ln hW hj) s (by omega)
  obtain ⟨F, hFe⟩ := Int.eq_ofNat_of_zero_le (show 0 ≤ sumL (vwC g a) s by omega)
  obtain ⟨m, hme⟩ := Int.eq_ofNat_of_zero_le (show 0 ≤ g (ad a 6) s by omega)
  have hle : sumL (vwC g a) s + g (ad a 6) s ≤ g a 8 := by
    have h1 := sumL_le (V := vwC g a) (m := g a 5) (fun j hj => w_ln hW hj) (s := s + 1) ((g a 5).toNat - (s + 1)) (by omega)
    rw [show s + 1 + ((g a 5).toNat - (s + 1)) = (g a 5).toNat by omega, w_sum hW] at h1
    have h2 : sumL (vwC g a) (s + 1) = sumL (vwC g a) s + g (ad a 6) s := rfl
    omega
  have eF : (sumL (vwC g a) s).toNat = F := by omega
  have em : (g (ad a 6) s).toNat = m := by omega
  unfold closeS at hQ
  rw [eF, em, ← closeF_r (g := g) (a := a) (f := F) (m := m) (j := 5) (by decide) (by decide) (by decide), ← closeF_r (g := g) (a := a) (f := F) (m := m) (j := 6) (by decide) (by decide) (by decide)] at hQ
  have h1 := closeSegment_loop (zt := zt) hS hG0.2 (g0 := closeF g a F m) closeF_5 hQ ((g a 5).toNat - (s + 1)) (s + 1) (by omega) (Nat.le_refl _)
  rw [csR_0, csR_0, row_id, row_id] at h1
  have o1 := closeFrames_ok (zt := zt) (g := g) hS (f := F) (m := m) hF0.2 (by omega)
  have f1 := firstFrameOf_ok (zt := zt) hS hW (s := (s : Int)) (by omega) (by omega)
  simp only [m_S_closeSegment, b_S_closeSegment_0, P_S_closeSegment_61, b_S_closeSegment_61, wp_aln0, wp_cv1, wp_cv2, wp_cv3, wp_cv4, wp_cv5, wp_cv6, wp_cv7, wp_dup, wp_goto, wp_iadd, wp_iald, wp_iast, wp_icge, wp_iconst, wp_iln1, wp_iln2, wp_inc2, wp_isn2, wp_isub, wp_nop, wp_ret, qsc_kd, qsc_k1, qsc_l1, qsc_gf1, qsc_k2, qsc_l2, qsc_gf2, qsc_k3, qsc_l3, qsc_gf3, qsc_k4, qsc_l4, qsc_gf4, qsc_k5, qsc_l5, qsc_gf6, qsc_k6, qsc_l6, qsc_gf7, qsc_k7, qsc_l7, qsc_gf9, qsc_k8, qsc_l8, qsc_gf10, qsc_gf0, qsc_pf0, qsc_gf5, qsc_pf5, qsc_gf8, qsc_pf8, wrI_row, cpI_row, row_s, row_n, row_ss, row_sw, upd_s, upd_n, ad_inj, ad_z, ad_z2, Nat.reduceEqDiff, reduceCtorEq, List.cons_append, List.nil_append, Option.toList_some, Option.toList_none, Int.toNat_natCast, List.length_cons, List.length_nil, Int.cast_ofNat_Int, Nat.reduceAdd, Nat.reduceLeDiff, Nat.reduceLT, Nat.reduceMul, Int.reduceAdd, Int.reduceSub, Int.reduceMul, Int.reduceNeg, Int.reduceLT, Int.reduceLE, Int.reduceEq, Int.reduceToNat, eq_self, true_and, and_true, true_or, or_true, false_or, or_false, if_true, if_false, not_true_eq_false, not_false_eq_true, and_self, ne_eq, hS, f1, hFe, hme, o1, closeF_5]
  (repeat' (first | apply And.intro | split)) <;> first | omega | exact h1 | (rw [b2_t (by omega)] at h1; exact h1) | (rw [b2_f (by omega)] at h1; exact h1)
end SCW
