/-! THE PLANNER'S choose -/
theorem plI_row1 {g : Nat → Nat → Int} {w F M h : Nat} {c : Nat → Nat → Int} {cl : Nat → Nat → Bool} (hP : plI g w F M h c cl) (R : Nat → Int) : plI (setRow g (ad w 1) R) w F M h c cl := by
  obtain ⟨p1, p2, p3, p4, p5⟩ := hP
  have e0 : setRow g (ad w 1) R w = g w := row_n (by rw [ad_z2]; decide)
  have e2 : setRow g (ad w 1) R (ad w 2) = g (ad w 2) := row_n (by rw [ad_inj]; decide)
  have e3 : setRow g (ad w 1) R (ad w 3) = g (ad w 3) := row_n (by rw [ad_inj]; decide)
  unfold plI
  rw [e0, e2, e3]
  exact ⟨p1, p2, p3, p4, p5⟩
/-- the plan's row as the first n frames stand in it -/
def plnR (r : Nat → Int) (F M h : Nat) (c : Nat → Nat → Int) (cl : Nat → Nat → Bool) (n : Nat) : Nat → Int := fun y => if y < n then ((plnV F M h c cl y).1 : Nat) else r y
theorem plnR_0 {r : Nat → Int} {F M h : Nat} {c : Nat → Nat → Int} {cl : Nat → Nat → Bool} : plnR r F M h c cl 0 = r := by
  funext y
  unfold plnR
  rw [if_neg (by omega)]
theorem plnR_st {r : Nat → Int} {F M h : Nat} {c : Nat → Nat → Int} {cl : Nat → Nat → Bool} {n : Nat} : upd1 (plnR r F M h c cl n) n ((plnV F M h c cl n).1 : Nat) = plnR r F M h c cl (n + 1) := by
  funext y
  unfold plnR upd1
  by_cases h1 : y = n
  · subst h1
    rw [if_pos rfl, if_pos (by omega)]
  · rw [if_neg h1]
    dsimp only
    by_cases h2 : y < n
    · rw [if_pos h2, if_pos (by omega)]
    · rw [if_neg h2, if_neg (by omega)]
theorem lstV_b {F M h : Nat} {c : Nat → Nat → Int} {cl : Nat → Nat → Bool} (hc : ∀ f m, 0 ≤ c f m) : -99 ≤ lstV F M h c cl ∧ lstV F M h c cl < 1000000 := by
  have h1 := minB_b (p := fun _ => true) (v := fun m => Rv F M h c cl F m 0) (fun o => (Rv_b hc F o 0).1) M
  unfold lstV totV
  split
  · omega
  · split <;> omega
section PLD
variable {zt : Nat → Nat} {g : Nat → Nat → Int} {ρ : Ri} {w F M h : Nat} {c : Nat → Nat → Int} {cl : Nat → Nat → Bool}
theorem choose_loop (hA : isPl ρ w) (hP : plI g w F M h c cl) (hM8 : M ≤ 8) (hM1 : 1 ≤ M) (h1 : 1 ≤ h) (h3 : h ≤ 3) (hF : F ≤ 99) (hc : ∀ f m, 0 ≤ c f m ∧ c f m ≤ 1000000) (hR : rsI (g (ad w 4)) F M h c cl 0) {Q : Option AV → Sto → Prop} (hQ : Q (some (AI 1)) (setRow g (ad w 1) (plnR (g (ad w 1)) F M h c cl F), ρ)) :
    ∀ (d n : Nat), n + d = F → Wp zt 15 (P 15 15) [some (AR w), some (AI (if n = 0 then 0 else (plnV F M h c cl (n - 1)).2 : Nat)), some (AI n)] [] (setRow g (ad w 1) (plnR (g (ad w 1)) F M h c cl n), ρ) Q := by
  obtain ⟨p1, p2, p3, p4, p5⟩ := id hP
  intro d
  induction d with
  | zero =>
    intro n hn
    have e : n = F := by omega
    subst e
    rw [P_P_choose_15]
    simp only [m_P_choose, b_P_choose_0, P_P_choose_11, b_P_choose_11, P_P_choose_39, b_P_choose_39, P_P_choose_53, b_P_choose_53, P_P_choose_83, b_P_choose_83, P_P_choose_84, b_P_choose_84, P_P_choose_91, b_P_choose_91, wp_aln0, wp_bipush, wp_cv1, wp_cv2, wp_cv3, wp_cv4, wp_cv5, wp_cv6, wp_cv7, wp_goto, wp_iald, wp_iast, wp_icge, wp_icne, wp_iconst, wp_iln1, wp_iln2, wp_inc2, wp_iret, wp_isn1, wp_isn2, wp_isub, wp_izle, wp_izne, wp_nop, wp_zret, qpl_kd, qpl_k1, qpl_l1, qpl_gf0, qpl_k2, qpl_l2, qpl_gf1, qpl_k3, qpl_l3, qpl_gf2, qpl_k4, qpl_l4, qpl_gf3, qpl_k5, qpl_l5, qpl_gf4, qpl_k6, qpl_l6, qpl_gf5, qpl_gf6, qpl_pf6, qpl_gf7, qpl_pf7, qpl_gf8, qpl_pf8, wrI_row, cpI_row, row_s, row_n, row_ss, row_sw, upd_s, upd_n, ad_inj, ad_z, ad_z2, Nat.reduceEqDiff, reduceCtorEq, List.cons_append, List.nil_append, Option.toList_some, Option.toList_none, Int.toNat_natCast, List.length_cons, List.length_nil, Int.cast_ofNat_Int, Nat.reduceAdd, Nat.reduceLeDiff, Nat.reduceLT, Nat.reduceMul, Int.reduceAdd, Int.reduceSub, Int.reduceMul, Int.reduceNeg, Int.reduceLT, Int.reduceLE, Int.reduceEq, Int.reduceToNat, eq_self, true_and, and_true, true_or, or_true, false_or, or_false, if_true, if_false, not_true_eq_false, not_false_eq_true, and_self, ne_eq, b_P_choose_15, hA, p1]
    (repeat' (first | apply And.intro | split)) <;> first | omega | exact hQ
  | succ d ih =>
    intro n hn
    have i1 := ih (n + 1) (by omega)
    rw [if_neg (by omega), Nat.add_sub_cancel, ← plnR_st] at i1
    have hR2 : rsI (setRow g (ad w 1) (plnR (g (ad w 1)) F M h c cl n) (ad w 4)) F M h c cl 0 := by
      rw [row_n (by rw [ad_inj]; decide)]
      exact hR
    have hP2 := plI_row1 hP (plnR (g (ad w 1)) F M h c cl n)
    cases n with
    | zero =>
      have hbf := bestFirst_ok (zt := zt) (ρ := ρ) (g := setRow g (ad w 1) (plnR (g (ad w 1)) F M h c cl 0)) hA hP2.2.1 hM8 hM1 (v := fun m => Rv F M h c cl F m 0) (fun j => Rv_b (fun f m => (hc f m).1) F j 0) (fun m hm => by
        have := hR2 0 m 0 (Nat.le_refl _) (by omega) hm (by omega)
        simpa using this)
      simp only [plnV] at i1
      rw [P_P_choose_15]
      simp only [m_P_choose, b_P_choose_0, P_P_choose_11, b_P_choose_11, P_P_choose_39, b_P_choose_39, P_P_choose_53, b_P_choose_53, P_P_choose_83, b_P_choose_83, P_P_choose_84, b_P_choose_84, P_P_choose_91, b_P_choose_91, wp_aln0, wp_bipush, wp_cv1, wp_cv2, wp_cv3, wp_cv4, wp_cv5, wp_cv6, wp_cv7, wp_goto, wp_iald, wp_iast, wp_icge, wp_icne, wp_iconst, wp_iln1, wp_iln2, wp_inc2, wp_iret, wp_isn1, wp_isn2, wp_isub, wp_izle, wp_izne, wp_nop, wp_zret, qpl_kd, qpl_k1, qpl_l1, qpl_gf0, qpl_k2, qpl_l2, qpl_gf1, qpl_k3, qpl_l3, qpl_gf2, qpl_k4, qpl_l4, qpl_gf3, qpl_k5, qpl_l5, qpl_gf4, qpl_k6, qpl_l6, qpl_gf5, qpl_gf6, qpl_pf6, qpl_gf7, qpl_pf7, qpl_gf8, qpl_pf8, wrI_row, cpI_row, row_s, row_n, row_ss, row_sw, upd_s, upd_n, ad_inj, ad_z, ad_z2, Nat.reduceEqDiff, reduceCtorEq, List.cons_append, List.nil_append, Option.toList_some, Option.toList_none, Int.toNat_natCast, List.length_cons, List.length_nil, Int.cast_ofNat_Int, Nat.reduceAdd, Nat.reduceLeDiff, Nat.reduceLT, Nat.reduceMul, Int.reduceAdd, Int.reduceSub, Int.reduceMul, Int.reduceNeg, Int.reduceLT, Int.reduceLE, Int.reduceEq, Int.reduceToNat, eq_self, true_and, and_true, true_or, or_true, false_or, or_false, if_true, if_false, not_true_eq_false, not_false_eq_true, and_self, ne_eq, b_P_choose_15, hA, p1, hbf]
      (repeat' (first | apply And.intro | split)) <;> first | omega | exact i1
    | succ k =>
      obtain ⟨hb1, hb2⟩ := plnV_b (F := F) (c := c) (cl := cl) (h := h) (by omega : 0 < M) (by omega) k
      have hbn := bestNext_ok (zt := zt) (ρ := ρ) (g := setRow g (ad w 1) (plnR (g (ad w 1)) F M h c cl (k + 1))) hA hP2 hM8 h1 h3 hF hc hR2 (f := k + 1) (last := (plnV F M h c cl k).1) (r := (plnV F M h c cl k).2) (by omega) hb1 hb2
      have hlg := longer_ok (zt := zt) (ρ := ρ) (w := w) (h := h) (g := setRow g (ad w 1) (plnR (g (ad w 1)) F M h c cl (k + 1))) hA hP2.2.2.1 h1 h3 (r := (plnV F M h c cl k).2) hb2
      have hlg2 := longer_ok (zt := zt) (ρ := ρ) (w := w) (h := h) (g := setRow g (ad w 1) (upd1 (plnR (g (ad w 1)) F M h c cl (k + 1)) (k + 1) ((plnV F M h c cl (k + 1)).1 : Nat))) hA ((congrFun (row_n (by rw [ad_z2]; decide)) 8).trans p3) h1 h3 (r := (plnV F M h c cl k).2) hb2
      have hbB := nbV_lt (s := sNV F M h c cl (k + 1) (plnV F M h c cl k).1 (plnV F M h c cl k).2) hb1 M (Nat.le_refl _)
      have rd : plnR (g (ad w 1)) F M h c cl (k + 1) k = ((plnV F M h c cl k).1 : Nat) := if_pos (by omega)
      have e9 : (((k + 1 : Nat) : Int)).toNat = k + 1 := by omega
      have e8 : ((((k + 1 : Nat) : Int)) - 1).toNat = k := by omega
      have rd2 : upd1 (plnR (g (ad w 1)) F M h c cl (k + 1)) (k + 1) ((plnV F M h c cl (k + 1)).1 : Nat) k = ((plnV F M h c cl k).1 : Nat) := by
        rw [plnR_st]
        exact if_pos (by omega)
      have rd3 : upd1 (plnR (g (ad w 1)) F M h c cl (k + 1)) (k + 1) ((plnV F M h c cl (k + 1)).1 : Nat) (k + 1) = ((plnV F M h c cl (k + 1)).1 : Nat) := if_pos rfl
      simp only [plnV] at i1 hlg2 rd2 rd3
      simp only [if_neg (Nat.succ_ne_zero k), Nat.add_sub_cancel] at ih ⊢
      generalize hL : (plnV F M h c cl k).1 = L at *
      generalize hr : (plnV F M h c cl k).2 = rr at *
      generalize hB : nbV (sNV F M h c cl (k + 1) L rr) L M = B at *
      have hk0 : ¬ ((k + 1 : Nat) : Int) = 0 := by omega
      generalize hk : ((k + 1 : Nat) : Int) = kk at *
      rw [show ((k + 1 + 1 : Nat) : Int) = kk + 1 by omega] at i1
      rw [P_P_choose_15]
      by_cases hBL : B = L
      · rw [if_pos hBL] at i1
        subst hBL
        simp only [m_P_choose, b_P_choose_0, P_P_choose_11, b_P_choose_11, P_P_choose_39, b_P_choose_39, P_P_choose_53, b_P_choose_53, P_P_choose_83, b_P_choose_83, P_P_choose_84, b_P_choose_84, P_P_choose_91, b_P_choose_91, wp_aln0, wp_bipush, wp_cv1, wp_cv2, wp_cv3, wp_cv4, wp_cv5, wp_cv6, wp_cv7, wp_goto, wp_iald, wp_iast, wp_icge, wp_icne, wp_iconst, wp_iln1, wp_iln2, wp_inc2, wp_iret, wp_isn1, wp_isn2, wp_isub, wp_izle, wp_izne, wp_nop, wp_zret, qpl_kd, qpl_k1, qpl_l1, qpl_gf0, qpl_k2, qpl_l2, qpl_gf1, qpl_k3, qpl_l3, qpl_gf2, qpl_k4, qpl_l4, qpl_gf3, qpl_k5, qpl_l5, qpl_gf4, qpl_k6, qpl_l6, qpl_gf5, qpl_gf6, qpl_pf6, qpl_gf7, qpl_pf7, qpl_gf8, qpl_pf8, wrI_row, cpI_row, row_s, row_n, row_ss, row_sw, upd_s, upd_n, ad_inj, ad_z, ad_z2, Nat.reduceEqDiff, reduceCtorEq, List.cons_append, List.nil_append, Option.toList_some, Option.toList_none, Int.toNat_natCast, List.length_cons, List.length_nil, Int.cast_ofNat_Int, Nat.reduceAdd, Nat.reduceLeDiff, Nat.reduceLT, Nat.reduceMul, Int.reduceAdd, Int.reduceSub, Int.reduceMul, Int.reduceNeg, Int.reduceLT, Int.reduceLE, Int.reduceEq, Int.reduceToNat, eq_self, true_and, and_true, true_or, or_true, false_or, or_false, if_true, if_false, not_true_eq_false, not_false_eq_true, and_self, ne_eq, b_P_choose_15, hA, p1, hbn, hlg, e8, e9, hlg2, rd, rd2, rd3, hk0]
        (repeat' (first | apply And.intro | split)) <;> first | omega | exact i1
      · rw [if_neg hBL] at i1
        have hBL2 : ¬ (B : Int) = (L : Int) := by omega
        simp only [m_P_choose, b_P_choose_0, P_P_choose_11, b_P_choose_11, P_P_choose_39, b_P_choose_39, P_P_choose_53, b_P_choose_53, P_P_choose_83, b_P_choose_83, P_P_choose_84, b_P_choose_84, P_P_choose_91, b_P_choose_91, wp_aln0, wp_bipush, wp_cv1, wp_cv2, wp_cv3, wp_cv4, wp_cv5, wp_cv6, wp_cv7, wp_goto, wp_iald, wp_iast, wp_icge, wp_icne, wp_iconst, wp_iln1, wp_iln2, wp_inc2, wp_iret, wp_isn1, wp_isn2, wp_isub, wp_izle, wp_izne, wp_nop, wp_zret, qpl_kd, qpl_k1, qpl_l1, qpl_gf0, qpl_k2, qpl_l2, qpl_gf1, qpl_k3, qpl_l3, qpl_gf2, qpl_k4, qpl_l4, qpl_gf3, qpl_k5, qpl_l5, qpl_gf4, qpl_k6, qpl_l6, qpl_gf5, qpl_gf6, qpl_pf6, qpl_gf7, qpl_pf7, qpl_gf8, qpl_pf8, wrI_row, cpI_row, row_s, row_n, row_ss, row_sw, upd_s, upd_n, ad_inj, ad_z, ad_z2, Nat.reduceEqDiff, reduceCtorEq, List.cons_append, List.nil_append, Option.toList_some, Option.toList_none, Int.toNat_natCast, List.length_cons, List.length_nil, Int.cast_ofNat_Int, Nat.reduceAdd, Nat.reduceLeDiff, Nat.reduceLT, Nat.reduceMul, Int.reduceAdd, Int.reduceSub, Int.reduceMul, Int.reduceNeg, Int.reduceLT, Int.reduceLE, Int.reduceEq, Int.reduceToNat, eq_self, true_and, and_true, true_or, or_true, false_or, or_false, if_true, if_false, not_true_eq_false, not_false_eq_true, and_self, ne_eq, b_P_choose_15, hA, p1, hbn, hlg, e8, e9, hlg2, rd, rd2, rd3, hk0, hBL2]
        (repeat' (first | apply And.intro | split)) <;> first | omega | exact i1
theorem choose_ok (hA : isPl ρ w) (hP : plI g w F M h c cl) (hM8 : M ≤ 8) (hM1 : 1 ≤ M) (h1 : 1 ≤ h) (h3 : h ≤ 3) (hF : F ≤ 99) (hc : ∀ f m, 0 ≤ c f m ∧ c f m ≤ 1000000) {Q : Option AV → Sto → Prop} (hQ : ∀ R : Nat → Int, rsI R F M h c cl 0 → if lstV F M h c cl = -99 then Q (some (AI 0)) (setRow g (ad w 4) R, ρ) else Q (some (AI 1)) (setRow (setRow g (ad w 4) R) (ad w 1) (plnR (g (ad w 1)) F M h c cl F), ρ)) : WpM zt 15 [AR w] (g, ρ) Q := by
  simp only [m_P_choose, b_P_choose_0, P_P_choose_11, b_P_choose_11, P_P_choose_39, b_P_choose_39, P_P_choose_53, b_P_choose_53, P_P_choose_83, b_P_choose_83, P_P_choose_84, b_P_choose_84, P_P_choose_91, b_P_choose_91, wp_aln0, wp_bipush, wp_cv1, wp_cv2, wp_cv3, wp_cv4, wp_cv5, wp_cv6, wp_cv7, wp_goto, wp_iald, wp_iast, wp_icge, wp_icne, wp_iconst, wp_iln1, wp_iln2, wp_inc2, wp_iret, wp_isn1, wp_isn2, wp_isub, wp_izle, wp_izne, wp_nop, wp_zret, qpl_kd, qpl_k1, qpl_l1, qpl_gf0, qpl_k2, qpl_l2, qpl_gf1, qpl_k3, qpl_l3, qpl_gf2, qpl_k4, qpl_l4, qpl_gf3, qpl_k5, qpl_l5, qpl_gf4, qpl_k6, qpl_l6, qpl_gf5, qpl_gf6, qpl_pf6, qpl_gf7, qpl_pf7, qpl_gf8, qpl_pf8, wrI_row, cpI_row, row_s, row_n, row_ss, row_sw, upd_s, upd_n, ad_inj, ad_z, ad_z2, Nat.reduceEqDiff, reduceCtorEq, List.cons_append, List.nil_append, Option.toList_some, Option.toList_none, Int.toNat_natCast, List.length_cons, List.length_nil, Int.cast_ofNat_Int, Nat.reduceAdd, Nat.reduceLeDiff, Nat.reduceLT, Nat.reduceMul, Int.reduceAdd, Int.reduceSub, Int.reduceMul, Int.reduceNeg, Int.reduceLT, Int.reduceLE, Int.reduceEq, Int.reduceToNat, eq_self, true_and, and_true, true_or, or_true, false_or, or_false, if_true, if_false, not_true_eq_false, not_false_eq_true, and_self, ne_eq, hA]
  refine leastFromEnd_ok hA hP hM8 h1 h3 hF hc (fun R hR => ?_)
  have hq := hQ R hR
  have k1 := fun q => choose_loop (zt := zt) (ρ := ρ) (g := setRow g (ad w 4) R) (Q := Q) hA (plI_row4 hP R) hM8 hM1 h1 h3 hF hc (by rw [row_s]; exact hR) q F 0 (by omega)
  rw [plnR_0, row_id, row_n (by rw [ad_inj]; decide)] at k1
  have hb := lstV_b (F := F) (M := M) (h := h) (cl := cl) (fun f m => (hc f m).1)
  split at hq
  · simp only [m_P_choose, b_P_choose_0, P_P_choose_11, b_P_choose_11, P_P_choose_39, b_P_choose_39, P_P_choose_53, b_P_choose_53, P_P_choose_83, b_P_choose_83, P_P_choose_84, b_P_choose_84, P_P_choose_91, b_P_choose_91, wp_aln0, wp_bipush, wp_cv1, wp_cv2, wp_cv3, wp_cv4, wp_cv5, wp_cv6, wp_cv7, wp_goto, wp_iald, wp_iast, wp_icge, wp_icne, wp_iconst, wp_iln1, wp_iln2, wp_inc2, wp_iret, wp_isn1, wp_isn2, wp_isub, wp_izle, wp_izne, wp_nop, wp_zret, qpl_kd, qpl_k1, qpl_l1, qpl_gf0, qpl_k2, qpl_l2, qpl_gf1, qpl_k3, qpl_l3, qpl_gf2, qpl_k4, qpl_l4, qpl_gf3, qpl_k5, qpl_l5, qpl_gf4, qpl_k6, qpl_l6, qpl_gf5, qpl_gf6, qpl_pf6, qpl_gf7, qpl_pf7, qpl_gf8, qpl_pf8, wrI_row, cpI_row, row_s, row_n, row_ss, row_sw, upd_s, upd_n, ad_inj, ad_z, ad_z2, Nat.reduceEqDiff, reduceCtorEq, List.cons_append, List.nil_append, Option.toList_some, Option.toList_none, Int.toNat_natCast, List.length_cons, List.length_nil, Int.cast_ofNat_Int, Nat.reduceAdd, Nat.reduceLeDiff, Nat.reduceLT, Nat.reduceMul, Int.reduceAdd, Int.reduceSub, Int.reduceMul, Int.reduceNeg, Int.reduceLT, Int.reduceLE, Int.reduceEq, Int.reduceToNat, eq_self, true_and, and_true, true_or, or_true, false_or, or_false, if_true, if_false, not_true_eq_false, not_false_eq_true, and_self, ne_eq, hA]
    (repeat' (first | apply And.intro | split)) <;> first | omega | exact hq
  · simp only [m_P_choose, b_P_choose_0, P_P_choose_11, b_P_choose_11, P_P_choose_39, b_P_choose_39, P_P_choose_53, b_P_choose_53, P_P_choose_83, b_P_choose_83, P_P_choose_84, b_P_choose_84, P_P_choose_91, b_P_choose_91, wp_aln0, wp_bipush, wp_cv1, wp_cv2, wp_cv3, wp_cv4, wp_cv5, wp_cv6, wp_cv7, wp_goto, wp_iald, wp_iast, wp_icge, wp_icne, wp_iconst, wp_iln1, wp_iln2, wp_inc2, wp_iret, wp_isn1, wp_isn2, wp_isub, wp_izle, wp_izne, wp_nop, wp_zret, qpl_kd, qpl_k1, qpl_l1, qpl_gf0, qpl_k2, qpl_l2, qpl_gf1, qpl_k3, qpl_l3, qpl_gf2, qpl_k4, qpl_l4, qpl_gf3, qpl_k5, qpl_l5, qpl_gf4, qpl_k6, qpl_l6, qpl_gf5, qpl_gf6, qpl_pf6, qpl_gf7, qpl_pf7, qpl_gf8, qpl_pf8, wrI_row, cpI_row, row_s, row_n, row_ss, row_sw, upd_s, upd_n, ad_inj, ad_z, ad_z2, Nat.reduceEqDiff, reduceCtorEq, List.cons_append, List.nil_append, Option.toList_some, Option.toList_none, Int.toNat_natCast, List.length_cons, List.length_nil, Int.cast_ofNat_Int, Nat.reduceAdd, Nat.reduceLeDiff, Nat.reduceLT, Nat.reduceMul, Int.reduceAdd, Int.reduceSub, Int.reduceMul, Int.reduceNeg, Int.reduceLT, Int.reduceLE, Int.reduceEq, Int.reduceToNat, eq_self, true_and, and_true, true_or, or_true, false_or, or_false, if_true, if_false, not_true_eq_false, not_false_eq_true, and_self, ne_eq, hA]
    (repeat' (first | apply And.intro | split)) <;> first | omega | exact k1 hq
end PLD
