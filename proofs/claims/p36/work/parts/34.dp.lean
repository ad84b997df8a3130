/-! THE PLANS' LEAST SUMS, the specification: F frames, M mouths, the hold h, the costs c f m (1000000: barred), close mouths cl -/
def minB (p : Nat → Bool) (v : Nat → Int) : Nat → Int
  | 0 => 1000000
  | n + 1 => if p n = true then min (minB p v n) (v n) else minB p v n
theorem minB_b {p : Nat → Bool} {v : Nat → Int} (h : ∀ j, 0 ≤ v j) : ∀ n, 0 ≤ minB p v n ∧ minB p v n ≤ 1000000
  | 0 => by simp only [minB]; omega
  | n + 1 => by
    have h1 := minB_b (p := p) h n
    have h2 := h n
    simp only [minB]
    split <;> omega
/-- what d frames at the end cost at least, in the mouth m with its run r at the first of them -/
def Rv (F M h : Nat) (c : Nat → Nat → Int) (cl : Nat → Nat → Bool) : Nat → Nat → Nat → Int
  | 0 => fun _ _ => 0
  | d + 1 => fun m r => min 1000000 (c (F - (d + 1)) m + (if d = 0 then 0 else if r = h - 1 then min (Rv F M h c cl d m (min (r + 1) (h - 1))) (minB (fun o => !(o == m) && cl m o) (fun o => Rv F M h c cl d o 0) M) else Rv F M h c cl d m (min (r + 1) (h - 1))))
theorem Rv_b {F M h : Nat} {c : Nat → Nat → Int} {cl : Nat → Nat → Bool} (hc : ∀ f m, 0 ≤ c f m) : ∀ d m r, 0 ≤ Rv F M h c cl d m r ∧ Rv F M h c cl d m r ≤ 1000000
  | 0, m, r => by simp only [Rv]; omega
  | d + 1, m, r => by
    have h1 := hc (F - (d + 1)) m
    have h2 := fun m r => Rv_b (F := F) (M := M) (h := h) (cl := cl) hc d m r
    have h3 := minB_b (p := fun o => !(o == m) && cl m o) (v := fun o => Rv F M h c cl d o 0) (fun o => (h2 o 0).1) M
    have h4 := h2 m (min (r + 1) (h - 1))
    simp only [Rv]
    split
    · omega
    · split <;> omega
/-- the least sum of all: 1000000 where there is no plan -/
def totV (F M h : Nat) (c : Nat → Nat → Int) (cl : Nat → Nat → Bool) : Int := minB (fun _ => true) (fun m => Rv F M h c cl F m 0) M
/-- the least sum as it is told -/
def lstV (F M h : Nat) (c : Nat → Nat → Int) (cl : Nat → Nat → Bool) : Int := if F = 0 then 0 else if totV F M h c cl < 1000000 then totV F M h c cl else -99
def blkR (r : Nat → Int) (p : Nat) (v : Nat → Int) (n : Nat) : Nat → Int := fun y => if p ≤ y ∧ y < p + n then v (y - p) else r y
theorem blkR_0 {r v : Nat → Int} {p : Nat} : blkR r p v 0 = r := by
  funext y
  unfold blkR
  rw [if_neg (by omega)]
theorem blkR_st {r v : Nat → Int} {p n : Nat} {x : Int} (h : x = v n) : upd1 (blkR r p v n) (p + n) x = blkR r p v (n + 1) := by
  funext y
  unfold blkR upd1
  by_cases h1 : y = p + n
  · rw [if_pos h1, if_pos (by omega), h]
    congr 1
    omega
  · rw [if_neg h1]
    dsimp only
    by_cases h2 : p ≤ y ∧ y < p + n
    · rw [if_pos h2, if_pos (by omega)]
    · rw [if_neg h2, if_neg (by omega)]
theorem blkR_in {r v : Nat → Int} {p n j : Nat} (h : j < n) : blkR r p v n (p + j) = v j := by
  unfold blkR
  rw [if_pos (by omega)]
  congr 1
  omega
theorem blkR_out {r v : Nat → Int} {p n y : Nat} (h : ¬ (p ≤ y ∧ y < p + n)) : blkR r p v n y = r y := if_neg h
def barR (r : Nat → Int) (f : Nat) (x : Int) (n : Nat) : Nat → Int := fun y => if f * 8 ≤ y ∧ y < f * 8 + n ∧ ¬ (y : Int) = (f * 8 : Nat) + x then 1000000 else r y
/-- the planner's numbers, costs and close mouths -/
def plI (g : Nat → Nat → Int) (w F M h : Nat) (c : Nat → Nat → Int) (cl : Nat → Nat → Bool) : Prop := g w 6 = F ∧ g w 7 = M ∧ g w 8 = h ∧ (∀ f m, f < F → m < M → g (ad w 2) (f * 8 + m) = c f m) ∧ ∀ x y, x < M → y < M → g (ad w 3) (x * 8 + y) = if cl x y = true then 1 else 0
/-- the rest row from frame f on -/
def rsI (R : Nat → Int) (F M h : Nat) (c : Nat → Nat → Int) (cl : Nat → Nat → Bool) (f : Nat) : Prop := ∀ f' m r, f ≤ f' → f' < F → m < M → r < h → R ((f' * 8 + m) * 3 + r) = Rv F M h c cl (F - f') m r
section PLN
variable {zt : Nat → Nat} {g : Nat → Nat → Int} {ρ : Ri} {w F M h : Nat} {c : Nat → Nat → Int} {cl : Nat → Nat → Bool}
theorem longer_ok (hA : isPl ρ w) (hh : g w 8 = h) (h1 : 1 ≤ h) (h3 : h ≤ 3) {r : Nat} (hr : r < h) (Q : Option AV → Sto → Prop) : WpM zt 11 [AR w, AI r] (g, ρ) Q ↔ Q (some (AI (min (r + 1) (h - 1) : Nat))) (g, ρ) := by
  refine wpm_iff (fun Q hQ => ?_) Q
  have e : ((min (r + 1) (h - 1) : Nat) : Int) = min ((r : Int) + 1) ((h : Int) - 1) := by omega
  rw [e] at hQ
  simp only [m_P_longer, b_P_longer_0, wp_abs, wp_aln0, wp_copy, wp_cs1, wp_cs2, wp_cs3, wp_cs4, wp_cs5, wp_cs6, wp_cs7, wp_iadd, wp_iconst, wp_iln1, wp_iret, wp_isub, wp_max, wp_min, wp_zret, qpl_kd, qpl_k1, qpl_l1, qpl_gf0, qpl_k2, qpl_l2, qpl_gf1, qpl_k3, qpl_l3, qpl_gf2, qpl_k4, qpl_l4, qpl_gf3, qpl_k5, qpl_l5, qpl_gf4, qpl_k6, qpl_l6, qpl_gf5, qpl_gf6, qpl_pf6, qpl_gf7, qpl_pf7, qpl_gf8, qpl_pf8, wrI_row, cpI_row, row_s, row_n, row_ss, row_sw, upd_s, upd_n, ad_inj, ad_z, ad_z2, Nat.reduceEqDiff, reduceCtorEq, List.cons_append, List.nil_append, Option.toList_some, Option.toList_none, Int.toNat_natCast, List.length_cons, List.length_nil, Int.cast_ofNat_Int, Nat.reduceAdd, Nat.reduceLeDiff, Nat.reduceLT, Nat.reduceMul, Int.reduceAdd, Int.reduceSub, Int.reduceMul, Int.reduceNeg, Int.reduceLT, Int.reduceLE, Int.reduceEq, Int.reduceToNat, eq_self, true_and, and_true, true_or, or_true, false_or, or_false, if_true, if_false, not_true_eq_false, not_false_eq_true, and_self, ne_eq, hA, hh]
  (repeat' (first | apply And.intro | split)) <;> first | omega | exact hQ | (rw [b2_t (by omega)] at hQ; exact hQ) | (rw [b2_f (by omega)] at hQ; exact hQ)
theorem barOthers_loop (hA : isPl ρ w) (hM : g w 7 = M) (hM8 : M ≤ 8) {f : Nat} (hf : f < 99) {x : Int} (hx : -1000 ≤ x ∧ x ≤ 1000) {Q : Option AV → Sto → Prop} (hQ : Q none (setRow g (ad w 2) (barR (g (ad w 2)) f x M), ρ)) :
    ∀ (d m : Nat), m + d = M → Wp zt 7 (P 7 2) [some (AR w), some (AI f), some (AI x), some (AI m)] [] (setRow g (ad w 2) (barR (g (ad w 2)) f x m), ρ) Q := by
  intro d
  induction d with
  | zero =>
    intro m hm
    have e : M = m := by omega
    subst e
    rw [P_P_barOthers_2]
    simp only [m_P_barOthers, b_P_barOthers_0, P_P_barOthers_28, b_P_barOthers_28, P_P_barOthers_34, b_P_barOthers_34, wp_aln0, wp_bipush, wp_goto, wp_iadd, wp_iast, wp_iceq, wp_icge, wp_iconst, wp_iln1, wp_iln2, wp_iln3, wp_imul, wp_inc3, wp_isn3, wp_ldc, wp_nop, wp_ret, qpl_kd, qpl_k1, qpl_l1, qpl_gf0, qpl_k2, qpl_l2, qpl_gf1, qpl_k3, qpl_l3, qpl_gf2, qpl_k4, qpl_l4, qpl_gf3, qpl_k5, qpl_l5, qpl_gf4, qpl_k6, qpl_l6, qpl_gf5, qpl_gf6, qpl_pf6, qpl_gf7, qpl_pf7, qpl_gf8, qpl_pf8, wrI_row, cpI_row, row_s, row_n, row_ss, row_sw, upd_s, upd_n, ad_inj, ad_z, ad_z2, Nat.reduceEqDiff, reduceCtorEq, List.cons_append, List.nil_append, Option.toList_some, Option.toList_none, Int.toNat_natCast, List.length_cons, List.length_nil, Int.cast_ofNat_Int, Nat.reduceAdd, Nat.reduceLeDiff, Nat.reduceLT, Nat.reduceMul, Int.reduceAdd, Int.reduceSub, Int.reduceMul, Int.reduceNeg, Int.reduceLT, Int.reduceLE, Int.reduceEq, Int.reduceToNat, eq_self, true_and, and_true, true_or, or_true, false_or, or_false, if_true, if_false, not_true_eq_false, not_false_eq_true, and_self, ne_eq, b_P_barOthers_2, hA, hM]
    (repeat' (first | apply And.intro | split)) <;> first | omega | exact hQ | (rw [b2_t (by omega)] at hQ; exact hQ) | (rw [b2_f (by omega)] at hQ; exact hQ)
  | succ d ih =>
    intro m hm
    have i1 := ih (m + 1) (by omega)
    have e2 : ((f : Int) * 8 + (m : Int)).toNat = f * 8 + m := by omega
    by_cases hc : (m : Int) = x
    · have e1 : barR (g (ad w 2)) f x (m + 1) = barR (g (ad w 2)) f x m := by
        funext y
        unfold barR
        by_cases h1 : f * 8 ≤ y ∧ y < f * 8 + m ∧ ¬ (y : Int) = (f * 8 : Nat) + x
        · rw [if_pos h1, if_pos (by omega)]
        · rw [if_neg h1, if_neg (by omega)]
      rw [e1] at i1
      rw [P_P_barOthers_2]
      simp only [m_P_barOthers, b_P_barOthers_0, P_P_barOthers_28, b_P_barOthers_28, P_P_barOthers_34, b_P_barOthers_34, wp_aln0, wp_bipush, wp_goto, wp_iadd, wp_iast, wp_iceq, wp_icge, wp_iconst, wp_iln1, wp_iln2, wp_iln3, wp_imul, wp_inc3, wp_isn3, wp_ldc, wp_nop, wp_ret, qpl_kd, qpl_k1, qpl_l1, qpl_gf0, qpl_k2, qpl_l2, qpl_gf1, qpl_k3, qpl_l3, qpl_gf2, qpl_k4, qpl_l4, qpl_gf3, qpl_k5, qpl_l5, qpl_gf4, qpl_k6, qpl_l6, qpl_gf5, qpl_gf6, qpl_pf6, qpl_gf7, qpl_pf7, qpl_gf8, qpl_pf8, wrI_row, cpI_row, row_s, row_n, row_ss, row_sw, upd_s, upd_n, ad_inj, ad_z, ad_z2, Nat.reduceEqDiff, reduceCtorEq, List.cons_append, List.nil_append, Option.toList_some, Option.toList_none, Int.toNat_natCast, List.length_cons, List.length_nil, Int.cast_ofNat_Int, Nat.reduceAdd, Nat.reduceLeDiff, Nat.reduceLT, Nat.reduceMul, Int.reduceAdd, Int.reduceSub, Int.reduceMul, Int.reduceNeg, Int.reduceLT, Int.reduceLE, Int.reduceEq, Int.reduceToNat, eq_self, true_and, and_true, true_or, or_true, false_or, or_false, if_true, if_false, not_true_eq_false, not_false_eq_true, and_self, ne_eq, b_P_barOthers_2, hA, hM, hc]
      rw [show ((m + 1 : Nat) : Int) = x + 1 by omega] at i1
      (repeat' (first | apply And.intro | split)) <;> first | omega | exact i1 | (rw [b2_t (by omega)] at i1; exact i1) | (rw [b2_f (by omega)] at i1; exact i1)
    · have e1 : barR (g (ad w 2)) f x (m + 1) = upd1 (barR (g (ad w 2)) f x m) (f * 8 + m) 1000000 := by
        funext y
        unfold barR upd1
        by_cases h0 : y = f * 8 + m
        · rw [if_pos h0, if_pos (by omega)]
        · rw [if_neg h0]
          dsimp only
          by_cases h1 : f * 8 ≤ y ∧ y < f * 8 + m ∧ ¬ (y : Int) = (f * 8 : Nat) + x
          · rw [if_pos h1, if_pos (by omega)]
          · rw [if_neg h1, if_neg (by omega)]
      rw [e1] at i1
      rw [P_P_barOthers_2]
      simp only [m_P_barOthers, b_P_barOthers_0, P_P_barOthers_28, b_P_barOthers_28, P_P_barOthers_34, b_P_barOthers_34, wp_aln0, wp_bipush, wp_goto, wp_iadd, wp_iast, wp_iceq, wp_icge, wp_iconst, wp_iln1, wp_iln2, wp_iln3, wp_imul, wp_inc3, wp_isn3, wp_ldc, wp_nop, wp_ret, qpl_kd, qpl_k1, qpl_l1, qpl_gf0, qpl_k2, qpl_l2, qpl_gf1, qpl_k3, qpl_l3, qpl_gf2, qpl_k4, qpl_l4, qpl_gf3, qpl_k5, qpl_l5, qpl_gf4, qpl_k6, qpl_l6, qpl_gf5, qpl_gf6, qpl_pf6, qpl_gf7, qpl_pf7, qpl_gf8, qpl_pf8, wrI_row, cpI_row, row_s, row_n, row_ss, row_sw, upd_s, upd_n, ad_inj, ad_z, ad_z2, Nat.reduceEqDiff, reduceCtorEq, List.cons_append, List.nil_append, Option.toList_some, Option.toList_none, Int.toNat_natCast, List.length_cons, List.length_nil, Int.cast_ofNat_Int, Nat.reduceAdd, Nat.reduceLeDiff, Nat.reduceLT, Nat.reduceMul, Int.reduceAdd, Int.reduceSub, Int.reduceMul, Int.reduceNeg, Int.reduceLT, Int.reduceLE, Int.reduceEq, Int.reduceToNat, eq_self, true_and, and_true, true_or, or_true, false_or, or_false, if_true, if_false, not_true_eq_false, not_false_eq_true, and_self, ne_eq, b_P_barOthers_2, hA, hM, hc, e2]
      (repeat' (first | apply And.intro | split)) <;> first | omega | exact i1 | (rw [b2_t (by omega)] at i1; exact i1) | (rw [b2_f (by omega)] at i1; exact i1)
theorem barOthers_ok (hA : isPl ρ w) (hM : g w 7 = M) (hM8 : M ≤ 8) {f : Nat} (hf : f < 99) {x : Int} (hx : -1000 ≤ x ∧ x ≤ 1000) (Q : Option AV → Sto → Prop) : WpM zt 7 [AR w, AI f, AI x] (g, ρ) Q ↔ Q none (setRow g (ad w 2) (barR (g (ad w 2)) f x M), ρ) := by
  refine wpm_iff (fun Q hQ => ?_) Q
  have h1 := barOthers_loop (zt := zt) hA hM hM8 hf hx hQ M 0 (by omega)
  have e : barR (g (ad w 2)) f x 0 = g (ad w 2) := by
    funext y
    unfold barR
    rw [if_neg (by omega)]
  rw [e, row_id] at h1
  simp only [m_P_barOthers, b_P_barOthers_0, P_P_barOthers_28, b_P_barOthers_28, P_P_barOthers_34, b_P_barOthers_34, wp_aln0, wp_bipush, wp_goto, wp_iadd, wp_iast, wp_iceq, wp_icge, wp_iconst, wp_iln1, wp_iln2, wp_iln3, wp_imul, wp_inc3, wp_isn3, wp_ldc, wp_nop, wp_ret, qpl_kd, qpl_k1, qpl_l1, qpl_gf0, qpl_k2, qpl_l2, qpl_gf1, qpl_k3, qpl_l3, qpl_gf2, qpl_k4, qpl_l4, qpl_gf3, qpl_k5, qpl_l5, qpl_gf4, qpl_k6, qpl_l6, qpl_gf5, qpl_gf6, qpl_pf6, qpl_gf7, qpl_pf7, qpl_gf8, qpl_pf8, wrI_row, cpI_row, row_s, row_n, row_ss, row_sw, upd_s, upd_n, ad_inj, ad_z, ad_z2, Nat.reduceEqDiff, reduceCtorEq, List.cons_append, List.nil_append, Option.toList_some, Option.toList_none, Int.toNat_natCast, List.length_cons, List.length_nil, Int.cast_ofNat_Int, Nat.reduceAdd, Nat.reduceLeDiff, Nat.reduceLT, Nat.reduceMul, Int.reduceAdd, Int.reduceSub, Int.reduceMul, Int.reduceNeg, Int.reduceLT, Int.reduceLE, Int.reduceEq, Int.reduceToNat, eq_self, true_and, and_true, true_or, or_true, false_or, or_false, if_true, if_false, not_true_eq_false, not_false_eq_true, and_self, ne_eq, hA]
  exact h1
theorem leastOfLeaving_loop (hA : isPl ρ w) (hP : plI g w F M h c cl) (hM8 : M ≤ 8) {m f : Nat} (hm : m < M) (hf : f < 99) {v : Nat → Int} (hv : ∀ j, 0 ≤ v j ∧ v j ≤ 1000000) (hR : ∀ o, o < M → g (ad w 4) ((f * 8 + o) * 3) = v o) {Q : Option AV → Sto → Prop} (hQ : Q (some (AI (minB (fun o => !(o == m) && cl m o) v M))) (g, ρ)) :
    ∀ (d n : Nat), n + d = M → Wp zt 10 (P 10 6) [some (AR w), some (AI m), some (AI f), some (AI (minB (fun o => !(o == m) && cl m o) v n)), some (AI n)] [] (g, ρ) Q := by
  obtain ⟨p1, p2, p3, p4, p5⟩ := hP
  intro d
  induction d with
  | zero =>
    intro n hn
    have e : M = n := by omega
    subst e
    rw [P_P_leastOfLeaving_6]
    simp only [m_P_leastOfLeaving, b_P_leastOfLeaving_0, P_P_leastOfLeaving_55, b_P_leastOfLeaving_55, P_P_leastOfLeaving_61, b_P_leastOfLeaving_61, wp_abs, wp_aln0, wp_bald, wp_bipush, wp_copy, wp_cs1, wp_cs2, wp_cs3, wp_cs4, wp_cs5, wp_cs6, wp_cs7, wp_goto, wp_iadd, wp_iald, wp_iceq, wp_icge, wp_iconst, wp_il4, wp_iln1, wp_iln2, wp_iln3, wp_imul, wp_inc4, wp_iret, wp_is4, wp_isn3, wp_izeq, wp_ldc, wp_max, wp_min, wp_nop, wp_zret, qpl_kd, qpl_k1, qpl_l1, qpl_gf0, qpl_k2, qpl_l2, qpl_gf1, qpl_k3, qpl_l3, qpl_gf2, qpl_k4, qpl_l4, qpl_gf3, qpl_k5, qpl_l5, qpl_gf4, qpl_k6, qpl_l6, qpl_gf5, qpl_gf6, qpl_pf6, qpl_gf7, qpl_pf7, qpl_gf8, qpl_pf8, wrI_row, cpI_row, row_s, row_n, row_ss, row_sw, upd_s, upd_n, ad_inj, ad_z, ad_z2, Nat.reduceEqDiff, reduceCtorEq, List.cons_append, List.nil_append, Option.toList_some, Option.toList_none, Int.toNat_natCast, List.length_cons, List.length_nil, Int.cast_ofNat_Int, Nat.reduceAdd, Nat.reduceLeDiff, Nat.reduceLT, Nat.reduceMul, Int.reduceAdd, Int.reduceSub, Int.reduceMul, Int.reduceNeg, Int.reduceLT, Int.reduceLE, Int.reduceEq, Int.reduceToNat, eq_self, true_and, and_true, true_or, or_true, false_or, or_false, if_true, if_false, not_true_eq_false, not_false_eq_true, and_self, ne_eq, b_P_leastOfLeaving_6, hA, p2]
    (repeat' (first | apply And.intro | split)) <;> first | omega | exact hQ | (rw [b2_t (by omega)] at hQ; exact hQ) | (rw [b2_f (by omega)] at hQ; exact hQ)
  | succ d ih =>
    intro n hn
    have i1 := ih (n + 1) (by omega)
    have hb := minB_b (p := fun o => !(o == m) && cl m o) (v := v) (fun j => (hv j).1) n
    have hvn := hv n
    have e2 : ((m : Int) * 8 + (n : Int)).toNat = m * 8 + n := by omega
    have e3 : (((f : Int) * 8 + (n : Int)) * 3).toNat = (f * 8 + n) * 3 := by omega
    have r1 := hR n (by omega)
    have r2 := p5 m n hm (by omega)
    simp only [minB] at i1
    by_cases hc : n = m
    · rw [if_neg (by simp [hc])] at i1
      have hc2 : (n : Int) = (m : Int) := by omega
      rw [P_P_leastOfLeaving_6]
      simp only [m_P_leastOfLeaving, b_P_leastOfLeaving_0, P_P_leastOfLeaving_55, b_P_leastOfLeaving_55, P_P_leastOfLeaving_61, b_P_leastOfLeaving_61, wp_abs, wp_aln0, wp_bald, wp_bipush, wp_copy, wp_cs1, wp_cs2, wp_cs3, wp_cs4, wp_cs5, wp_cs6, wp_cs7, wp_goto, wp_iadd, wp_iald, wp_iceq, wp_icge, wp_iconst, wp_il4, wp_iln1, wp_iln2, wp_iln3, wp_imul, wp_inc4, wp_iret, wp_is4, wp_isn3, wp_izeq, wp_ldc, wp_max, wp_min, wp_nop, wp_zret, qpl_kd, qpl_k1, qpl_l1, qpl_gf0, qpl_k2, qpl_l2, qpl_gf1, qpl_k3, qpl_l3, qpl_gf2, qpl_k4, qpl_l4, qpl_gf3, qpl_k5, qpl_l5, qpl_gf4, qpl_k6, qpl_l6, qpl_gf5, qpl_gf6, qpl_pf6, qpl_gf7, qpl_pf7, qpl_gf8, qpl_pf8, wrI_row, cpI_row, row_s, row_n, row_ss, row_sw, upd_s, upd_n, ad_inj, ad_z, ad_z2, Nat.reduceEqDiff, reduceCtorEq, List.cons_append, List.nil_append, Option.toList_some, Option.toList_none, Int.toNat_natCast, List.length_cons, List.length_nil, Int.cast_ofNat_Int, Nat.reduceAdd, Nat.reduceLeDiff, Nat.reduceLT, Nat.reduceMul, Int.reduceAdd, Int.reduceSub, Int.reduceMul, Int.reduceNeg, Int.reduceLT, Int.reduceLE, Int.reduceEq, Int.reduceToNat, eq_self, true_and, and_true, true_or, or_true, false_or, or_false, if_true, if_false, not_true_eq_false, not_false_eq_true, and_self, ne_eq, b_P_leastOfLeaving_6, hA, p2, hc2]
      rw [show ((n + 1 : Nat) : Int) = (m : Int) + 1 by omega] at i1
      (repeat' (first | apply And.intro | split)) <;> first | omega | exact i1 | (rw [b2_t (by omega)] at i1; exact i1) | (rw [b2_f (by omega)] at i1; exact i1)
    · have hc2 : ¬ (n : Int) = (m : Int) := by omega
      by_cases hcl : cl m n = true
      · rw [if_pos (by simp [hc, hcl])] at i1
        rw [if_pos hcl] at r2
        rw [P_P_leastOfLeaving_6]
        simp only [m_P_leastOfLeaving, b_P_leastOfLeaving_0, P_P_leastOfLeaving_55, b_P_leastOfLeaving_55, P_P_leastOfLeaving_61, b_P_leastOfLeaving_61, wp_abs, wp_aln0, wp_bald, wp_bipush, wp_copy, wp_cs1, wp_cs2, wp_cs3, wp_cs4, wp_cs5, wp_cs6, wp_cs7, wp_goto, wp_iadd, wp_iald, wp_iceq, wp_icge, wp_iconst, wp_il4, wp_iln1, wp_iln2, wp_iln3, wp_imul, wp_inc4, wp_iret, wp_is4, wp_isn3, wp_izeq, wp_ldc, wp_max, wp_min, wp_nop, wp_zret, qpl_kd, qpl_k1, qpl_l1, qpl_gf0, qpl_k2, qpl_l2, qpl_gf1, qpl_k3, qpl_l3, qpl_gf2, qpl_k4, qpl_l4, qpl_gf3, qpl_k5, qpl_l5, qpl_gf4, qpl_k6, qpl_l6, qpl_gf5, qpl_gf6, qpl_pf6, qpl_gf7, qpl_pf7, qpl_gf8, qpl_pf8, wrI_row, cpI_row, row_s, row_n, row_ss, row_sw, upd_s, upd_n, ad_inj, ad_z, ad_z2, Nat.reduceEqDiff, reduceCtorEq, List.cons_append, List.nil_append, Option.toList_some, Option.toList_none, Int.toNat_natCast, List.length_cons, List.length_nil, Int.cast_ofNat_Int, Nat.reduceAdd, Nat.reduceLeDiff, Nat.reduceLT, Nat.reduceMul, Int.reduceAdd, Int.reduceSub, Int.reduceMul, Int.reduceNeg, Int.reduceLT, Int.reduceLE, Int.reduceEq, Int.reduceToNat, eq_self, true_and, and_true, true_or, or_true, false_or, or_false, if_true, if_false, not_true_eq_false, not_false_eq_true, and_self, ne_eq, b_P_leastOfLeaving_6, hA, p2, hc2, e2, e3, r1, r2]
        (repeat' (first | apply And.intro | split)) <;> first | omega | exact i1 | (rw [b2_t (by omega)] at i1; exact i1) | (rw [b2_f (by omega)] at i1; exact i1)
      · rw [if_neg (by simp [hc, hcl])] at i1
        rw [if_neg hcl] at r2
        rw [P_P_leastOfLeaving_6]
        simp only [m_P_leastOfLeaving, b_P_leastOfLeaving_0, P_P_leastOfLeaving_55, b_P_leastOfLeaving_55, P_P_leastOfLeaving_61, b_P_leastOfLeaving_61, wp_abs, wp_aln0, wp_bald, wp_bipush, wp_copy, wp_cs1, wp_cs2, wp_cs3, wp_cs4, wp_cs5, wp_cs6, wp_cs7, wp_goto, wp_iadd, wp_iald, wp_iceq, wp_icge, wp_iconst, wp_il4, wp_iln1, wp_iln2, wp_iln3, wp_imul, wp_inc4, wp_iret, wp_is4, wp_isn3, wp_izeq, wp_ldc, wp_max, wp_min, wp_nop, wp_zret, qpl_kd, qpl_k1, qpl_l1, qpl_gf0, qpl_k2, qpl_l2, qpl_gf1, qpl_k3, qpl_l3, qpl_gf2, qpl_k4, qpl_l4, qpl_gf3, qpl_k5, qpl_l5, qpl_gf4, qpl_k6, qpl_l6, qpl_gf5, qpl_gf6, qpl_pf6, qpl_gf7, qpl_pf7, qpl_gf8, qpl_pf8, wrI_row, cpI_row, row_s, row_n, row_ss, row_sw, upd_s, upd_n, ad_inj, ad_z, ad_z2, Nat.reduceEqDiff, reduceCtorEq, List.cons_append, List.nil_append, Option.toList_some, Option.toList_none, Int.toNat_natCast, List.length_cons, List.length_nil, Int.cast_ofNat_Int, Nat.reduceAdd, Nat.reduceLeDiff, Nat.reduceLT, Nat.reduceMul, Int.reduceAdd, Int.reduceSub, Int.reduceMul, Int.reduceNeg, Int.reduceLT, Int.reduceLE, Int.reduceEq, Int.reduceToNat, eq_self, true_and, and_true, true_or, or_true, false_or, or_false, if_true, if_false, not_true_eq_false, not_false_eq_true, and_self, ne_eq, b_P_leastOfLeaving_6, hA, p2, hc2, e2, e3, r1, r2]
        (repeat' (first | apply And.intro | split)) <;> first | omega | exact i1 | (rw [b2_t (by omega)] at i1; exact i1) | (rw [b2_f (by omega)] at i1; exact i1)
theorem leastOfLeaving_ok (hA : isPl ρ w) (hP : plI g w F M h c cl) (hM8 : M ≤ 8) {m f : Nat} (hm : m < M) (hf : f < 99) {v : Nat → Int} (hv : ∀ j, 0 ≤ v j ∧ v j ≤ 1000000) (hR : ∀ o, o < M → g (ad w 4) ((f * 8 + o) * 3) = v o) (Q : Option AV → Sto → Prop) : WpM zt 10 [AR w, AI m, AI f] (g, ρ) Q ↔ Q (some (AI (minB (fun o => !(o == m) && cl m o) v M))) (g, ρ) := by
  refine wpm_iff (fun Q hQ => ?_) Q
  have h1 := leastOfLeaving_loop (zt := zt) hA hP hM8 hm hf hv hR hQ M 0 (by omega)
  simp only [m_P_leastOfLeaving, b_P_leastOfLeaving_0, P_P_leastOfLeaving_55, b_P_leastOfLeaving_55, P_P_leastOfLeaving_61, b_P_leastOfLeaving_61, wp_abs, wp_aln0, wp_bald, wp_bipush, wp_copy, wp_cs1, wp_cs2, wp_cs3, wp_cs4, wp_cs5, wp_cs6, wp_cs7, wp_goto, wp_iadd, wp_iald, wp_iceq, wp_icge, wp_iconst, wp_il4, wp_iln1, wp_iln2, wp_iln3, wp_imul, wp_inc4, wp_iret, wp_is4, wp_isn3, wp_izeq, wp_ldc, wp_max, wp_min, wp_nop, wp_zret, qpl_kd, qpl_k1, qpl_l1, qpl_gf0, qpl_k2, qpl_l2, qpl_gf1, qpl_k3, qpl_l3, qpl_gf2, qpl_k4, qpl_l4, qpl_gf3, qpl_k5, qpl_l5, qpl_gf4, qpl_k6, qpl_l6, qpl_gf5, qpl_gf6, qpl_pf6, qpl_gf7, qpl_pf7, qpl_gf8, qpl_pf8, wrI_row, cpI_row, row_s, row_n, row_ss, row_sw, upd_s, upd_n, ad_inj, ad_z, ad_z2, Nat.reduceEqDiff, reduceCtorEq, List.cons_append, List.nil_append, Option.toList_some, Option.toList_none, Int.toNat_natCast, List.length_cons, List.length_nil, Int.cast_ofNat_Int, Nat.reduceAdd, Nat.reduceLeDiff, Nat.reduceLT, Nat.reduceMul, Int.reduceAdd, Int.reduceSub, Int.reduceMul, Int.reduceNeg, Int.reduceLT, Int.reduceLE, Int.reduceEq, Int.reduceToNat, eq_self, true_and, and_true, true_or, or_true, false_or, or_false, if_true, if_false, not_true_eq_false, not_false_eq_true, and_self, ne_eq, hA]
  exact h1
end PLN
