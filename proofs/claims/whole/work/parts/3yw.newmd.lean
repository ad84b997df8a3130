/-! THE REFERENCE'S CONSTRUCTOR -/
section NMI
variable {zt : Nat → Nat} {g : Nat → Nat → Int} {ρ : Ri} {Q : Option AV → Sto → Prop} {a : Nat}
theorem M_alloc {cs : List RI} (hs : ρ.2.1 a = some (16, 13)) (ht : ρ.2.2.1 = a + 1)
    (kk : ∀ (g' : Nat → Nat → Int) (ρ' : Ri), isMd ρ' a → g' (ad a 1) = (fun _ => 0) → g' a = g a → NwP g ρ a 10 9563 g' ρ' → Wp zt 86 cs [some (AR a), none] [] (g', ρ') Q) :
    Wp zt 86 ((.aload_n 0, []) :: (.sipush 953, []) :: (.newarray .int, [0]) :: (.putfield 7, [6, 0]) :: (.aload_n 0, []) :: (.sipush 953, []) :: (.newarray .int, [0]) :: (.putfield 13, [6, 1]) :: (.aload_n 0, []) :: (.sipush 4765, []) :: (.newarray .int, [0]) :: (.putfield 16, [6, 2]) :: (.aload_n 0, []) :: (.bipush 120, []) :: (.newarray .int, [0]) :: (.putfield 19, [6, 4]) :: (.aload_n 0, []) :: (.bipush 99, []) :: (.newarray .int, [0]) :: (.putfield 22, [6, 6]) :: (.aload_n 0, []) :: (.bipush 99, []) :: (.newarray .boolean, [1]) :: (.putfield 25, [6, 7]) :: (.aload_n 0, []) :: (.sipush 2376, []) :: (.newarray .int, [0]) :: (.putfield 29, [6, 10]) :: (.aload_n 0, []) :: (.bipush 99, []) :: (.newarray .int, [0]) :: (.putfield 32, [6, 11]) :: (.aload_n 0, []) :: (.bipush 99, []) :: (.newarray .int, [0]) :: (.putfield 35, [6, 12]) :: cs) [some (AR a), none] [] (g, ρ) Q := by
  refine nw_field (t := a + 1) (n := 953) rfl hs rfl ht (by omega) (by omega) ?_
  refine nw_field (t := a + 2) (n := 953) rfl ((nwC_o (by omega)).trans hs) rfl rfl (by omega) (by omega) ?_
  refine nw_field (t := a + 3) (n := 4765) rfl ((nwC_o (by omega)).trans ((nwC_o (by omega)).trans hs)) rfl rfl (by omega) (by omega) ?_
  refine nw_field (t := a + 4) (n := 120) rfl ((nwC_o (by omega)).trans ((nwC_o (by omega)).trans ((nwC_o (by omega)).trans hs))) rfl rfl (by omega) (by omega) ?_
  refine nw_field (t := a + 5) (n := 99) rfl ((nwC_o (by omega)).trans ((nwC_o (by omega)).trans ((nwC_o (by omega)).trans ((nwC_o (by omega)).trans hs)))) rfl rfl (by omega) (by omega) ?_
  refine nw_field (t := a + 6) (n := 99) rfl ((nwC_o (by omega)).trans ((nwC_o (by omega)).trans ((nwC_o (by omega)).trans ((nwC_o (by omega)).trans ((nwC_o (by omega)).trans hs))))) rfl rfl (by omega) (by omega) ?_
  refine nw_field (t := a + 7) (n := 2376) rfl ((nwC_o (by omega)).trans ((nwC_o (by omega)).trans ((nwC_o (by omega)).trans ((nwC_o (by omega)).trans ((nwC_o (by omega)).trans ((nwC_o (by omega)).trans hs)))))) rfl rfl (by omega) (by omega) ?_
  refine nw_field (t := a + 8) (n := 99) rfl ((nwC_o (by omega)).trans ((nwC_o (by omega)).trans ((nwC_o (by omega)).trans ((nwC_o (by omega)).trans ((nwC_o (by omega)).trans ((nwC_o (by omega)).trans ((nwC_o (by omega)).trans hs))))))) rfl rfl (by omega) (by omega) ?_
  refine nw_field (t := a + 9) (n := 99) rfl ((nwC_o (by omega)).trans ((nwC_o (by omega)).trans ((nwC_o (by omega)).trans ((nwC_o (by omega)).trans ((nwC_o (by omega)).trans ((nwC_o (by omega)).trans ((nwC_o (by omega)).trans ((nwC_o (by omega)).trans hs)))))))) rfl rfl (by omega) (by omega) ?_
  refine kk _ _ ?_ ?_ ?_ ⟨rfl, ?_, fun x hx => ⟨?_, ?_, ?_⟩⟩
  · have e : ∀ j, ad a j = a + j := fun j => rfl
    unfold isMd
    simp only [e, stF, nwC, wrR]
    simp [hs]
  · have e : ad a 1 = a + 1 := rfl
    rw [e, row_n (by omega), row_n (by omega), row_n (by omega), row_n (by omega), row_n (by omega), row_n (by omega), row_n (by omega), row_n (by omega), row_s]
  · rw [row_n (by omega), row_n (by omega), row_n (by omega), row_n (by omega), row_n (by omega), row_n (by omega), row_n (by omega), row_n (by omega), row_n (by omega)]
  · show ρ.2.2.2 + 953 + 953 + 4765 + 120 + 99 + 99 + 2376 + 99 + 99 = ρ.2.2.2 + 9563
    omega
  · rw [stF_x (by omega), nwC_r (by omega), stF_x (by omega), nwC_r (by omega), stF_x (by omega), nwC_r (by omega), stF_x (by omega), nwC_r (by omega), stF_x (by omega), nwC_r (by omega), stF_x (by omega), nwC_r (by omega), stF_x (by omega), nwC_r (by omega), stF_x (by omega), nwC_r (by omega), stF_x (by omega), nwC_r (by omega)]
  · exact (nwC_o (by omega)).trans ((nwC_o (by omega)).trans ((nwC_o (by omega)).trans ((nwC_o (by omega)).trans ((nwC_o (by omega)).trans ((nwC_o (by omega)).trans ((nwC_o (by omega)).trans ((nwC_o (by omega)).trans (nwC_o (by omega)))))))))
  · rw [row_n (by omega), row_n (by omega), row_n (by omega), row_n (by omega), row_n (by omega), row_n (by omega), row_n (by omega), row_n (by omega), row_n (by omega)]
/-- the page with n kinds of sounds -/
def filK (R : Nat → Int) (n : Nat) : Nat → Int := fun y => if 17 ≤ y ∧ y < 17 + 4 * n then ([3, 4, 1, 1] : List Int).getD ((y - 17) % 4) 0 else R y
theorem filK_0 {R : Nat → Int} : filK R 0 = R := by
  funext y
  exact if_neg (by omega)
theorem filK_st {R : Nat → Int} {n : Nat} : upd1 (upd1 (upd1 (upd1 (filK R n) (17 + 4 * n) 3) (17 + 4 * n + 1) 4) (17 + 4 * n + 2) 1) (17 + 4 * n + 3) 1 = filK R (n + 1) := by
  funext y
  unfold filK upd1
  by_cases e3 : y = 17 + 4 * n + 3
  · have e : (y - 17) % 4 = 3 := by omega
    rw [if_pos e3, if_pos (by omega), e]
    rfl
  · rw [if_neg e3]
    try dsimp only
    by_cases e2 : y = 17 + 4 * n + 2
    · have e : (y - 17) % 4 = 2 := by omega
      rw [if_pos e2, if_pos (by omega), e]
      rfl
    · rw [if_neg e2]
      try dsimp only
      by_cases e1 : y = 17 + 4 * n + 1
      · have e : (y - 17) % 4 = 1 := by omega
        rw [if_pos e1, if_pos (by omega), e]
        rfl
      · rw [if_neg e1]
        try dsimp only
        by_cases e0 : y = 17 + 4 * n
        · have e : (y - 17) % 4 = 0 := by omega
          rw [if_pos e0, if_pos (by omega), e]
          rfl
        · rw [if_neg e0]
          try dsimp only
          by_cases c : 17 ≤ y ∧ y < 17 + 4 * n
          · rw [if_pos c, if_pos (by omega)]
          · rw [if_neg c, if_neg (by omega)]
def iniR : Nat → Int := upd1 (upd1 (upd1 (upd1 (upd1 (filK (upd1 (upd1 (fun _ => 0) 0 1) 2 4) 9) 53 3) 54 1) 55 5) 56 40) 57 8
theorem iniR_v (y : Nat) : iniR y = if y = 57 then 8 else if y = 56 then 40 else if y = 55 then 5 else if y = 54 then 1 else if y = 53 then 3 else if 17 ≤ y ∧ y < 17 + 4 * 9 then ([3, 4, 1, 1] : List Int).getD ((y - 17) % 4) 0 else if y = 2 then 4 else if y = 0 then 1 else 0 := rfl
theorem iniR_lr : LR (-1) (vwM iniR) iniV := by
  refine lrm_mk iniV_wf rfl rfl (fun j hj => ?_) (fun j hj => ?_) (fun j hj => ?_) (fun j hj => ?_) (fun j hj => ?_)
  · have h : (j : Int) < 1 := hj
    have e : j = 0 := by omega
    subst e
    exact ⟨rfl, rfl⟩
  · rw [iniR_v, if_neg (by omega), if_neg (by omega), if_neg (by omega), if_neg (by omega), if_neg (by omega), if_pos (by omega), show 17 + j - 17 = j by omega]
    rfl
  · rcases (by omega : j = 0 ∨ j = 1 ∨ j = 2 ∨ j = 3 ∨ j = 4) with rfl | rfl | rfl | rfl | rfl <;> rfl
  · have h : (j : Int) < 0 := hj
    omega
  · have h : (j : Int) < 0 := hj
    omega
theorem M_kinds (hM : isMd ρ a) {R : Nat → Int} (hQ : ∀ o : Option AV, Wp zt 86 (P 86 162) [some (AR a), o] [] (setRow g (ad a 1) (filK R 9), ρ) Q) :
    ∀ (d i : Nat), i + d = 9 → Wp zt 86 (P 86 96) [some (AR a), some (AI i)] [] (setRow g (ad a 1) (filK R i), ρ) Q := by
  intro d
  induction d with
  | zero =>
    intro i hi
    have e : i = 9 := by omega
    subst e
    have q := hQ (some (AI 9))
    rw [P_M_init_96]
    simp only [m_M_init, b_M_init_0, wp_aln0, wp_bipush, wp_ci1, wp_ci2, wp_ci3, wp_ci4, wp_ci5, wp_ci6, wp_ci7, wp_goto, wp_iadd, wp_iast, wp_icge, wp_iconst, wp_iln1, wp_imul, wp_inc1, wp_isn1, wp_nop, wp_ret, wp_sipush, qmd_kd, qmd_k1, qmd_l1, qmd_gf0, qmd_k2, qmd_l2, qmd_gf1, qmd_k3, qmd_l3, qmd_gf2, qmd_k4, qmd_l4, qmd_gf4, qmd_k5, qmd_l5, qmd_gf6, qmd_k6, qmd_l6, qmd_gf7, qmd_k7, qmd_l7, qmd_gf10, qmd_k8, qmd_l8, qmd_gf11, qmd_k9, qmd_l9, qmd_gf12, qmd_gf3, qmd_pf3, qmd_gf5, qmd_pf5, qmd_gf8, qmd_pf8, qmd_gf9, qmd_pf9, wrI_row, cpI_row, row_s, row_n, row_ss, row_sw, upd_s, upd_n, ad_inj, ad_z, ad_z2, Nat.reduceEqDiff, reduceCtorEq, List.cons_append, List.nil_append, Option.toList_some, Option.toList_none, Int.toNat_natCast, List.length_cons, List.length_nil, Int.cast_ofNat_Int, Nat.reduceAdd, Nat.reduceLeDiff, Nat.reduceLT, Nat.reduceMul, Int.reduceAdd, Int.reduceSub, Int.reduceMul, Int.reduceNeg, Int.reduceLT, Int.reduceLE, Int.reduceEq, Int.reduceToNat, eq_self, true_and, and_true, true_or, or_true, false_or, or_false, if_true, if_false, not_true_eq_false, not_false_eq_true, and_self, ne_eq, b_M_init_96, hM]
    (repeat' (first | apply And.intro | split)) <;> first | omega | exact q
  | succ d ih =>
    intro i hi
    have i1 := ih (i + 1) (by omega)
    rw [← filK_st] at i1
    have hl : ¬ (9 : Int) ≤ (i : Int) := by omega
    have e0 : (17 + 4 * (i : Int)).toNat = 17 + 4 * i := by omega
    have e1 : (17 + 4 * (i : Int) + 1).toNat = 17 + 4 * i + 1 := by omega
    have e2 : (17 + 4 * (i : Int) + 2).toNat = 17 + 4 * i + 2 := by omega
    have e3 : (17 + 4 * (i : Int) + 3).toNat = 17 + 4 * i + 3 := by omega
    rw [P_M_init_96]
    simp only [m_M_init, b_M_init_0, wp_aln0, wp_bipush, wp_ci1, wp_ci2, wp_ci3, wp_ci4, wp_ci5, wp_ci6, wp_ci7, wp_goto, wp_iadd, wp_iast, wp_icge, wp_iconst, wp_iln1, wp_imul, wp_inc1, wp_isn1, wp_nop, wp_ret, wp_sipush, qmd_kd, qmd_k1, qmd_l1, qmd_gf0, qmd_k2, qmd_l2, qmd_gf1, qmd_k3, qmd_l3, qmd_gf2, qmd_k4, qmd_l4, qmd_gf4, qmd_k5, qmd_l5, qmd_gf6, qmd_k6, qmd_l6, qmd_gf7, qmd_k7, qmd_l7, qmd_gf10, qmd_k8, qmd_l8, qmd_gf11, qmd_k9, qmd_l9, qmd_gf12, qmd_gf3, qmd_pf3, qmd_gf5, qmd_pf5, qmd_gf8, qmd_pf8, qmd_gf9, qmd_pf9, wrI_row, cpI_row, row_s, row_n, row_ss, row_sw, upd_s, upd_n, ad_inj, ad_z, ad_z2, Nat.reduceEqDiff, reduceCtorEq, List.cons_append, List.nil_append, Option.toList_some, Option.toList_none, Int.toNat_natCast, List.length_cons, List.length_nil, Int.cast_ofNat_Int, Nat.reduceAdd, Nat.reduceLeDiff, Nat.reduceLT, Nat.reduceMul, Int.reduceAdd, Int.reduceSub, Int.reduceMul, Int.reduceNeg, Int.reduceLT, Int.reduceLE, Int.reduceEq, Int.reduceToNat, eq_self, true_and, and_true, true_or, or_true, false_or, or_false, if_true, if_false, not_true_eq_false, not_false_eq_true, and_self, ne_eq, b_M_init_96, hM, hl, e0, e1, e2, e3]
    (repeat' (first | apply And.intro | split)) <;> first | omega | exact i1
theorem M_init_ok (hs : ρ.2.1 a = some (16, 13)) (ht : ρ.2.2.1 = a + 1) (hg : ∀ k, g a k = 0) (hQ : ∀ (g' : Nat → Nat → Int) (ρ' : Ri), RepM g' ρ' a iniX → NwP g ρ a 10 9563 g' ρ' → Q none (g', ρ')) : WpM zt 86 [AR a] (g, ρ) Q := by
  rw [m_M_init]
  unfold b_M_init_0
  rw [wp_aln0, wp_obj (by simp)]
  refine M_alloc hs ht (fun g1 ρ1 hM y1 y2 y3 => ?_)
  obtain ⟨n1, n2, n3⟩ := y3
  have k96 := M_kinds (zt := zt) (g := g1) hM (R := upd1 (upd1 (fun _ => 0) 0 1) 2 4) (Q := Q) (fun o => by
    have q := hQ (setRow g1 (ad a 1) iniR) ρ1 ⟨hM, by
      rw [row_s]
      exact ⟨iniR_lr, rfl, rfl, fun z => Bool.noConfusion z, fun z => Bool.noConfusion z⟩, fun i hi => absurd hi (Nat.not_lt_zero i), by
      rw [row_n (by unfold ad; omega), y2]
      exact hg 3, by
      rw [row_n (by unfold ad; omega), y2]
      exact hg 5, fun j hj => absurd hj (Nat.not_lt_zero j)⟩ ⟨n1, n2, fun x hx => ⟨(n3 x hx).1, (n3 x hx).2.1, by
      rw [row_n (by unfold ad; omega)]
      exact (n3 x hx).2.2⟩⟩
    unfold iniR at q
    rw [P_M_init_162]
    simp only [m_M_init, b_M_init_0, wp_aln0, wp_bipush, wp_ci1, wp_ci2, wp_ci3, wp_ci4, wp_ci5, wp_ci6, wp_ci7, wp_goto, wp_iadd, wp_iast, wp_icge, wp_iconst, wp_iln1, wp_imul, wp_inc1, wp_isn1, wp_nop, wp_ret, wp_sipush, qmd_kd, qmd_k1, qmd_l1, qmd_gf0, qmd_k2, qmd_l2, qmd_gf1, qmd_k3, qmd_l3, qmd_gf2, qmd_k4, qmd_l4, qmd_gf4, qmd_k5, qmd_l5, qmd_gf6, qmd_k6, qmd_l6, qmd_gf7, qmd_k7, qmd_l7, qmd_gf10, qmd_k8, qmd_l8, qmd_gf11, qmd_k9, qmd_l9, qmd_gf12, qmd_gf3, qmd_pf3, qmd_gf5, qmd_pf5, qmd_gf8, qmd_pf8, qmd_gf9, qmd_pf9, wrI_row, cpI_row, row_s, row_n, row_ss, row_sw, upd_s, upd_n, ad_inj, ad_z, ad_z2, Nat.reduceEqDiff, reduceCtorEq, List.cons_append, List.nil_append, Option.toList_some, Option.toList_none, Int.toNat_natCast, List.length_cons, List.length_nil, Int.cast_ofNat_Int, Nat.reduceAdd, Nat.reduceLeDiff, Nat.reduceLT, Nat.reduceMul, Int.reduceAdd, Int.reduceSub, Int.reduceMul, Int.reduceNeg, Int.reduceLT, Int.reduceLE, Int.reduceEq, Int.reduceToNat, eq_self, true_and, and_true, true_or, or_true, false_or, or_false, if_true, if_false, not_true_eq_false, not_false_eq_true, and_self, ne_eq, b_M_init_162, hM]
    (repeat' (first | apply And.intro | split)) <;> first | omega | exact q) 9 0 (by omega)
  rw [filK_0] at k96
  simp only [m_M_init, b_M_init_0, wp_aln0, wp_bipush, wp_ci1, wp_ci2, wp_ci3, wp_ci4, wp_ci5, wp_ci6, wp_ci7, wp_goto, wp_iadd, wp_iast, wp_icge, wp_iconst, wp_iln1, wp_imul, wp_inc1, wp_isn1, wp_nop, wp_ret, wp_sipush, qmd_kd, qmd_k1, qmd_l1, qmd_gf0, qmd_k2, qmd_l2, qmd_gf1, qmd_k3, qmd_l3, qmd_gf2, qmd_k4, qmd_l4, qmd_gf4, qmd_k5, qmd_l5, qmd_gf6, qmd_k6, qmd_l6, qmd_gf7, qmd_k7, qmd_l7, qmd_gf10, qmd_k8, qmd_l8, qmd_gf11, qmd_k9, qmd_l9, qmd_gf12, qmd_gf3, qmd_pf3, qmd_gf5, qmd_pf5, qmd_gf8, qmd_pf8, qmd_gf9, qmd_pf9, wrI_row, cpI_row, row_s, row_n, row_ss, row_sw, upd_s, upd_n, ad_inj, ad_z, ad_z2, Nat.reduceEqDiff, reduceCtorEq, List.cons_append, List.nil_append, Option.toList_some, Option.toList_none, Int.toNat_natCast, List.length_cons, List.length_nil, Int.cast_ofNat_Int, Nat.reduceAdd, Nat.reduceLeDiff, Nat.reduceLT, Nat.reduceMul, Int.reduceAdd, Int.reduceSub, Int.reduceMul, Int.reduceNeg, Int.reduceLT, Int.reduceLE, Int.reduceEq, Int.reduceToNat, eq_self, true_and, and_true, true_or, or_true, false_or, or_false, if_true, if_false, not_true_eq_false, not_false_eq_true, and_self, ne_eq, hM, y1]
  (repeat' (first | apply And.intro | split)) <;> first | omega | exact k96
end NMI
