/-! CONSTRUCTORS of the planner, the reader, the scene -/
section NPI
variable {zt : Nat → Nat} {g : Nat → Nat → Int} {ρ : Ri} {Q : Option AV → Sto → Prop} {a : Nat}
theorem P_init_ok (hs : ρ.2.1 a = some (11, 9)) (ht : ρ.2.2.1 = a + 1) (hQ : ∀ (g' : Nat → Nat → Int) (ρ' : Ri), isPl ρ' a → NwP g ρ a 7 3379 g' ρ' → Q none (g', ρ')) : WpM zt 3 [AR a] (g, ρ) Q := by
  rw [m_P_init]
  unfold b_P_init_0
  rw [wp_aln0, wp_obj (by simp)]
  refine nw_field (t := a + 1) (n := 99) rfl hs rfl ht (by omega) (by omega) ?_
  refine nw_field (t := a + 2) (n := 792) rfl ((nwC_o (by omega)).trans hs) rfl rfl (by omega) (by omega) ?_
  refine nw_field (t := a + 3) (n := 64) rfl ((nwC_o (by omega)).trans ((nwC_o (by omega)).trans hs)) rfl rfl (by omega) (by omega) ?_
  refine nw_field (t := a + 4) (n := 2376) rfl ((nwC_o (by omega)).trans ((nwC_o (by omega)).trans ((nwC_o (by omega)).trans hs))) rfl rfl (by omega) (by omega) ?_
  refine nw_field (t := a + 5) (n := 24) rfl ((nwC_o (by omega)).trans ((nwC_o (by omega)).trans ((nwC_o (by omega)).trans ((nwC_o (by omega)).trans hs)))) rfl rfl (by omega) (by omega) ?_
  refine nw_field (t := a + 6) (n := 24) rfl ((nwC_o (by omega)).trans ((nwC_o (by omega)).trans ((nwC_o (by omega)).trans ((nwC_o (by omega)).trans ((nwC_o (by omega)).trans hs))))) rfl rfl (by omega) (by omega) ?_
  rw [wp_ret]
  refine hQ _ _ ?_ ⟨rfl, ?_, fun x hx => ⟨?_, ?_, ?_⟩⟩
  · have e : ∀ j, ad a j = a + j := fun j => rfl
    unfold isPl
    simp only [e, stF, nwC, wrR]
    simp [hs]
  · show ρ.2.2.2 + 99 + 792 + 64 + 2376 + 24 + 24 = ρ.2.2.2 + 3379
    omega
  · rw [stF_x (by omega), nwC_r (by omega), stF_x (by omega), nwC_r (by omega), stF_x (by omega), nwC_r (by omega), stF_x (by omega), nwC_r (by omega), stF_x (by omega), nwC_r (by omega), stF_x (by omega), nwC_r (by omega)]
  · exact (nwC_o (by omega)).trans ((nwC_o (by omega)).trans ((nwC_o (by omega)).trans ((nwC_o (by omega)).trans ((nwC_o (by omega)).trans (nwC_o (by omega))))))
  · rw [row_n (by omega), row_n (by omega), row_n (by omega), row_n (by omega), row_n (by omega), row_n (by omega)]
theorem R_init_ok (hs : ρ.2.1 a = some (12, 4)) (ht : ρ.2.2.1 = a + 1) (hQ : ∀ (g' : Nat → Nat → Int) (ρ' : Ri), isRd ρ' a → NwP g ρ a 2 0 g' ρ' → Q none (g', ρ')) : WpM zt 18 [AR a] (g, ρ) Q := by
  rw [m_R_init]
  unfold b_R_init_0
  rw [wp_aln0, wp_obj (by simp), wp_aln0, wp_iconst, pf_2_0 (kdI_of hs), wrI_row]
  refine nw_field (t := a + 1) (n := 0) rfl hs rfl ht (by omega) (by omega) ?_
  rw [wp_ret]
  refine hQ _ _ ((nwC_o (by omega)).trans hs) ⟨rfl, rfl, fun x hx => ⟨?_, ?_, ?_⟩⟩
  · rw [stF_x (by omega), nwC_r (by omega)]
  · exact nwC_o (by omega)
  · rw [row_n (by omega), row_n (by omega)]
theorem S_alloc {cs : List RI} (hs : ρ.2.1 a = some (13, 11)) (ht : ρ.2.2.1 = a + 1)
    (kk : ∀ (g' : Nat → Nat → Int) (ρ' : Ri), isSc ρ' a → (∀ j, 1 ≤ j → j ≤ 8 → g' (ad a j) = fun _ => 0) → g' a = g a → NwP g ρ a 9 315 g' ρ' → Wp zt 25 cs [some (AR a), none] [] (g', ρ') Q) :
    Wp zt 25 ((.aload_n 0, []) :: (.bipush 8, []) :: (.newarray .int, [0]) :: (.putfield 9, [3, 1]) :: (.aload_n 0, []) :: (.bipush 8, []) :: (.newarray .int, [0]) :: (.putfield 15, [3, 2]) :: (.aload_n 0, []) :: (.bipush 36, []) :: (.newarray .int, [0]) :: (.putfield 18, [3, 3]) :: (.aload_n 0, []) :: (.iconst 5, []) :: (.newarray .int, [0]) :: (.putfield 21, [3, 4]) :: (.aload_n 0, []) :: (.bipush 30, []) :: (.newarray .int, [0]) :: (.putfield 24, [3, 6]) :: (.aload_n 0, []) :: (.bipush 30, []) :: (.newarray .int, [0]) :: (.putfield 27, [3, 7]) :: (.aload_n 0, []) :: (.bipush 99, []) :: (.newarray .int, [0]) :: (.putfield 30, [3, 9]) :: (.aload_n 0, []) :: (.bipush 99, []) :: (.newarray .int, [0]) :: (.putfield 33, [3, 10]) :: cs) [some (AR a), none] [] (g, ρ) Q := by
  refine nw_field (t := a + 1) (n := 8) rfl hs rfl ht (by omega) (by omega) ?_
  refine nw_field (t := a + 2) (n := 8) rfl ((nwC_o (by omega)).trans hs) rfl rfl (by omega) (by omega) ?_
  refine nw_field (t := a + 3) (n := 36) rfl ((nwC_o (by omega)).trans ((nwC_o (by omega)).trans hs)) rfl rfl (by omega) (by omega) ?_
  refine nw_field (t := a + 4) (n := 5) rfl ((nwC_o (by omega)).trans ((nwC_o (by omega)).trans ((nwC_o (by omega)).trans hs))) rfl rfl (by omega) (by omega) ?_
  refine nw_field (t := a + 5) (n := 30) rfl ((nwC_o (by omega)).trans ((nwC_o (by omega)).trans ((nwC_o (by omega)).trans ((nwC_o (by omega)).trans hs)))) rfl rfl (by omega) (by omega) ?_
  refine nw_field (t := a + 6) (n := 30) rfl ((nwC_o (by omega)).trans ((nwC_o (by omega)).trans ((nwC_o (by omega)).trans ((nwC_o (by omega)).trans ((nwC_o (by omega)).trans hs))))) rfl rfl (by omega) (by omega) ?_
  refine nw_field (t := a + 7) (n := 99) rfl ((nwC_o (by omega)).trans ((nwC_o (by omega)).trans ((nwC_o (by omega)).trans ((nwC_o (by omega)).trans ((nwC_o (by omega)).trans ((nwC_o (by omega)).trans hs)))))) rfl rfl (by omega) (by omega) ?_
  refine nw_field (t := a + 8) (n := 99) rfl ((nwC_o (by omega)).trans ((nwC_o (by omega)).trans ((nwC_o (by omega)).trans ((nwC_o (by omega)).trans ((nwC_o (by omega)).trans ((nwC_o (by omega)).trans ((nwC_o (by omega)).trans hs))))))) rfl rfl (by omega) (by omega) ?_
  refine kk _ _ ?_ (fun j h1 h2 => ?_) ?_ ⟨rfl, ?_, fun x hx => ⟨?_, ?_, ?_⟩⟩
  · have e : ∀ j, ad a j = a + j := fun j => rfl
    unfold isSc
    simp only [e, stF, nwC, wrR]
    simp [hs]
  · have e : ad a j = a + j := rfl
    rw [e]
    rcases (by omega : j = 1 ∨ j = 2 ∨ j = 3 ∨ j = 4 ∨ j = 5 ∨ j = 6 ∨ j = 7 ∨ j = 8) with rfl | rfl | rfl | rfl | rfl | rfl | rfl | rfl
    · rw [row_n (by omega), row_n (by omega), row_n (by omega), row_n (by omega), row_n (by omega), row_n (by omega), row_n (by omega), row_s]
    · rw [row_n (by omega), row_n (by omega), row_n (by omega), row_n (by omega), row_n (by omega), row_n (by omega), row_s]
    · rw [row_n (by omega), row_n (by omega), row_n (by omega), row_n (by omega), row_n (by omega), row_s]
    · rw [row_n (by omega), row_n (by omega), row_n (by omega), row_n (by omega), row_s]
    · rw [row_n (by omega), row_n (by omega), row_n (by omega), row_s]
    · rw [row_n (by omega), row_n (by omega), row_s]
    · rw [row_n (by omega), row_s]
    · rw [row_s]
  · rw [row_n (by omega), row_n (by omega), row_n (by omega), row_n (by omega), row_n (by omega), row_n (by omega), row_n (by omega), row_n (by omega)]
  · show ρ.2.2.2 + 8 + 8 + 36 + 5 + 30 + 30 + 99 + 99 = ρ.2.2.2 + 315
    omega
  · rw [stF_x (by omega), nwC_r (by omega), stF_x (by omega), nwC_r (by omega), stF_x (by omega), nwC_r (by omega), stF_x (by omega), nwC_r (by omega), stF_x (by omega), nwC_r (by omega), stF_x (by omega), nwC_r (by omega), stF_x (by omega), nwC_r (by omega), stF_x (by omega), nwC_r (by omega)]
  · exact (nwC_o (by omega)).trans ((nwC_o (by omega)).trans ((nwC_o (by omega)).trans ((nwC_o (by omega)).trans ((nwC_o (by omega)).trans ((nwC_o (by omega)).trans ((nwC_o (by omega)).trans (nwC_o (by omega))))))))
  · rw [row_n (by omega), row_n (by omega), row_n (by omega), row_n (by omega), row_n (by omega), row_n (by omega), row_n (by omega), row_n (by omega)]
end NPI
/-- a new scene's view -/
def iniV : Vw := fun k j => match k with
  | 0 => 1
  | 2 => 4
  | 3 => ([3, 4, 1, 1] : List Int).getD (j % 4) 0
  | 4 => ([3, 1, 5, 40, 8] : List Int).getD j 0
  | _ => 0
theorem iniV_3 (j : Nat) : 0 ≤ iniV 3 j ∧ iniV 3 j ≤ 9 := by
  have h : j % 4 < 4 := Nat.mod_lt _ (by omega)
  show 0 ≤ ([3, 4, 1, 1] : List Int).getD (j % 4) 0 ∧ ([3, 4, 1, 1] : List Int).getD (j % 4) 0 ≤ 9
  rcases (by omega : j % 4 = 0 ∨ j % 4 = 1 ∨ j % 4 = 2 ∨ j % 4 = 3) with e | e | e | e <;> rw [e] <;> decide
theorem iniV_wf : WFV (-1) iniV := by
  refine ⟨by decide, fun j _ => show ((0 : Int) ≤ 0 ∧ (0 : Int) ≤ 9) ∧ (0 : Int) ≤ 4 ∧ (4 : Int) ≤ 9 from by decide, fun j _ => iniV_3 j, by decide, by decide, fun j hj => ?_, by decide, rfl, fun j hj => ?_⟩
  · have : (j : Int) < 0 := hj
    omega
  · have : (j : Int) < 0 := hj
    omega
def filR (f r : Nat → Int) (n : Nat) : Nat → Int := fun y => if y < n then f y else r y
theorem filR_0 {f r : Nat → Int} : filR f r 0 = r := by
  funext y
  exact if_neg (by omega)
theorem filR_st {f r : Nat → Int} {n : Nat} : upd1 (filR f r n) n (f n) = filR f r (n + 1) := by
  funext y
  unfold filR upd1
  by_cases e : y = n
  · subst e
    rw [if_pos rfl, if_pos (by omega)]
  · rw [if_neg e]
    dsimp only
    by_cases e2 : y < n
    · rw [if_pos e2, if_pos (by omega)]
    · rw [if_neg e2, if_neg (by omega)]
section NSI
variable {zt : Nat → Nat} {g : Nat → Nat → Int} {ρ : Ri} {Q : Option AV → Sto → Prop} {a : Nat}
theorem S_numbers (hS : isSc ρ a) (hz : zrR g ρ (zt 1) [3, 1, 5, 40, 8]) (h1 : zt 1 < a) (hQ : Q none (setRow g (ad a 4) (filR (fun j => iniV 4 j) (g (ad a 4)) 5), ρ)) :
    ∀ (d i : Nat), i + d = 5 → Wp zt 25 (P 25 108) [some (AR a), some (AI i)] [] (setRow g (ad a 4) (filR (fun j => iniV 4 j) (g (ad a 4)) i), ρ) Q := by
  obtain ⟨z1, z2, z3⟩ := hz
  have zz : (zt 1 = ad a 4) ↔ False := iff_false_intro (by unfold ad; omega)
  intro d
  induction d with
  | zero =>
    intro i hi
    have e : i = 5 := by omega
    subst e
    rw [P_S_init_108]
    simp only [m_S_init, b_S_init_0, P_S_init_130, b_S_init_130, wp_aln0, wp_bipush, wp_ci1, wp_ci2, wp_ci3, wp_ci4, wp_ci5, wp_ci6, wp_ci7, wp_goto, wp_iald, wp_iast, wp_icge, wp_iconst, wp_iln1, wp_inc1, wp_irem, wp_isn1, wp_nop, wp_ret, qsc_kd, qsc_k1, qsc_l1, qsc_gf1, qsc_k2, qsc_l2, qsc_gf2, qsc_k3, qsc_l3, qsc_gf3, qsc_k4, qsc_l4, qsc_gf4, qsc_k5, qsc_l5, qsc_gf6, qsc_k6, qsc_l6, qsc_gf7, qsc_k7, qsc_l7, qsc_gf9, qsc_k8, qsc_l8, qsc_gf10, qsc_gf0, qsc_pf0, qsc_gf5, qsc_pf5, qsc_gf8, qsc_pf8, wrI_row, cpI_row, row_s, row_n, row_ss, row_sw, upd_s, upd_n, ad_inj, ad_z, ad_z2, Nat.reduceEqDiff, reduceCtorEq, List.cons_append, List.nil_append, Option.toList_some, Option.toList_none, Int.toNat_natCast, List.length_cons, List.length_nil, Int.cast_ofNat_Int, Nat.reduceAdd, Nat.reduceLeDiff, Nat.reduceLT, Nat.reduceMul, Int.reduceAdd, Int.reduceSub, Int.reduceMul, Int.reduceNeg, Int.reduceLT, Int.reduceLE, Int.reduceEq, Int.reduceToNat, eq_self, true_and, and_true, true_or, or_true, false_or, or_false, if_true, if_false, not_true_eq_false, not_false_eq_true, and_self, ne_eq, b_S_init_108, hS]
    (repeat' (first | apply And.intro | split)) <;> first | omega | exact hQ
  | succ d ih =>
    intro i hi
    have i1 := ih (i + 1) (by omega)
    rw [← filR_st] at i1
    have r1 : g (zt 1) i = iniV 4 i := z3 i (by show i < 5; omega)
    have hl : ¬ (5 : Int) ≤ (i : Int) := by omega
    rw [P_S_init_108]
    simp only [m_S_init, b_S_init_0, P_S_init_130, b_S_init_130, wp_aln0, wp_bipush, wp_ci1, wp_ci2, wp_ci3, wp_ci4, wp_ci5, wp_ci6, wp_ci7, wp_goto, wp_iald, wp_iast, wp_icge, wp_iconst, wp_iln1, wp_inc1, wp_irem, wp_isn1, wp_nop, wp_ret, qsc_kd, qsc_k1, qsc_l1, qsc_gf1, qsc_k2, qsc_l2, qsc_gf2, qsc_k3, qsc_l3, qsc_gf3, qsc_k4, qsc_l4, qsc_gf4, qsc_k5, qsc_l5, qsc_gf6, qsc_k6, qsc_l6, qsc_gf7, qsc_k7, qsc_l7, qsc_gf9, qsc_k8, qsc_l8, qsc_gf10, qsc_gf0, qsc_pf0, qsc_gf5, qsc_pf5, qsc_gf8, qsc_pf8, wrI_row, cpI_row, row_s, row_n, row_ss, row_sw, upd_s, upd_n, ad_inj, ad_z, ad_z2, Nat.reduceEqDiff, reduceCtorEq, List.cons_append, List.nil_append, Option.toList_some, Option.toList_none, Int.toNat_natCast, List.length_cons, List.length_nil, Int.cast_ofNat_Int, Nat.reduceAdd, Nat.reduceLeDiff, Nat.reduceLT, Nat.reduceMul, Int.reduceAdd, Int.reduceSub, Int.reduceMul, Int.reduceNeg, Int.reduceLT, Int.reduceLE, Int.reduceEq, Int.reduceToNat, eq_self, true_and, and_true, true_or, or_true, false_or, or_false, if_true, if_false, not_true_eq_false, not_false_eq_true, and_self, ne_eq, b_S_init_108, hS, hl, wp_gst, wp_iald4 z1, z2, zz, r1]
    (repeat' (first | apply And.intro | split)) <;> first | omega | exact i1
theorem S_sounds (hS : isSc ρ a) (hz : zrR g ρ (zt 0) [3, 4, 1, 1]) (h1 : zt 0 < a) (hQ : Wp zt 25 (P 25 106) [some (AR a), some (AI 36)] [] (setRow g (ad a 3) (filR (fun j => iniV 3 j) (g (ad a 3)) 36), ρ) Q) :
    ∀ (d i : Nat), i + d = 36 → Wp zt 25 (P 25 81) [some (AR a), some (AI i)] [] (setRow g (ad a 3) (filR (fun j => iniV 3 j) (g (ad a 3)) i), ρ) Q := by
  obtain ⟨z1, z2, z3⟩ := hz
  have zz : (zt 0 = ad a 3) ↔ False := iff_false_intro (by unfold ad; omega)
  intro d
  induction d with
  | zero =>
    intro i hi
    have e : i = 36 := by omega
    subst e
    rw [P_S_init_81]
    simp only [m_S_init, b_S_init_0, P_S_init_130, b_S_init_130, wp_aln0, wp_bipush, wp_ci1, wp_ci2, wp_ci3, wp_ci4, wp_ci5, wp_ci6, wp_ci7, wp_goto, wp_iald, wp_iast, wp_icge, wp_iconst, wp_iln1, wp_inc1, wp_irem, wp_isn1, wp_nop, wp_ret, qsc_kd, qsc_k1, qsc_l1, qsc_gf1, qsc_k2, qsc_l2, qsc_gf2, qsc_k3, qsc_l3, qsc_gf3, qsc_k4, qsc_l4, qsc_gf4, qsc_k5, qsc_l5, qsc_gf6, qsc_k6, qsc_l6, qsc_gf7, qsc_k7, qsc_l7, qsc_gf9, qsc_k8, qsc_l8, qsc_gf10, qsc_gf0, qsc_pf0, qsc_gf5, qsc_pf5, qsc_gf8, qsc_pf8, wrI_row, cpI_row, row_s, row_n, row_ss, row_sw, upd_s, upd_n, ad_inj, ad_z, ad_z2, Nat.reduceEqDiff, reduceCtorEq, List.cons_append, List.nil_append, Option.toList_some, Option.toList_none, Int.toNat_natCast, List.length_cons, List.length_nil, Int.cast_ofNat_Int, Nat.reduceAdd, Nat.reduceLeDiff, Nat.reduceLT, Nat.reduceMul, Int.reduceAdd, Int.reduceSub, Int.reduceMul, Int.reduceNeg, Int.reduceLT, Int.reduceLE, Int.reduceEq, Int.reduceToNat, eq_self, true_and, and_true, true_or, or_true, false_or, or_false, if_true, if_false, not_true_eq_false, not_false_eq_true, and_self, ne_eq, b_S_init_81, hS]
    (repeat' (first | apply And.intro | split)) <;> first | omega | exact hQ
  | succ d ih =>
    intro i hi
    have i1 := ih (i + 1) (by omega)
    rw [← filR_st] at i1
    have hm : i % 4 < 4 := Nat.mod_lt _ (by omega)
    have r1 : g (zt 0) (i % 4) = iniV 3 i := z3 (i % 4) hm
    have hl : ¬ (36 : Int) ≤ (i : Int) := by omega
    have ei : ((i : Int) % 4).toNat = i % 4 := by omega
    rw [P_S_init_81]
    simp only [m_S_init, b_S_init_0, P_S_init_130, b_S_init_130, wp_aln0, wp_bipush, wp_ci1, wp_ci2, wp_ci3, wp_ci4, wp_ci5, wp_ci6, wp_ci7, wp_goto, wp_iald, wp_iast, wp_icge, wp_iconst, wp_iln1, wp_inc1, wp_irem, wp_isn1, wp_nop, wp_ret, qsc_kd, qsc_k1, qsc_l1, qsc_gf1, qsc_k2, qsc_l2, qsc_gf2, qsc_k3, qsc_l3, qsc_gf3, qsc_k4, qsc_l4, qsc_gf4, qsc_k5, qsc_l5, qsc_gf6, qsc_k6, qsc_l6, qsc_gf7, qsc_k7, qsc_l7, qsc_gf9, qsc_k8, qsc_l8, qsc_gf10, qsc_gf0, qsc_pf0, qsc_gf5, qsc_pf5, qsc_gf8, qsc_pf8, wrI_row, cpI_row, row_s, row_n, row_ss, row_sw, upd_s, upd_n, ad_inj, ad_z, ad_z2, Nat.reduceEqDiff, reduceCtorEq, List.cons_append, List.nil_append, Option.toList_some, Option.toList_none, Int.toNat_natCast, List.length_cons, List.length_nil, Int.cast_ofNat_Int, Nat.reduceAdd, Nat.reduceLeDiff, Nat.reduceLT, Nat.reduceMul, Int.reduceAdd, Int.reduceSub, Int.reduceMul, Int.reduceNeg, Int.reduceLT, Int.reduceLE, Int.reduceEq, Int.reduceToNat, eq_self, true_and, and_true, true_or, or_true, false_or, or_false, if_true, if_false, not_true_eq_false, not_false_eq_true, and_self, ne_eq, b_S_init_81, hS, hl, wp_gst, wp_iald4 z1, z2, zz, ei, r1]
    (repeat' (first | apply And.intro | split)) <;> first | omega | exact i1
theorem S_init_ok (hs : ρ.2.1 a = some (13, 11)) (ht : ρ.2.2.1 = a + 1) (hg : ∀ k, g a k = 0) (hz0 : zrR g ρ (zt 0) [3, 4, 1, 1]) (hz1 : zrR g ρ (zt 1) [3, 1, 5, 40, 8]) (h0 : zt 0 < a) (h1 : zt 1 < a) (hQ : ∀ (g' : Nat → Nat → Int) (ρ' : Ri), isSc ρ' a → LR (-99) (vwC g' a) iniV → NwP g ρ a 9 315 g' ρ' → Q none (g', ρ')) : WpM zt 25 [AR a] (g, ρ) Q := by
  rw [m_S_init]
  unfold b_S_init_0
  rw [wp_aln0, wp_obj (by simp)]
  refine S_alloc hs ht (fun g1 ρ1 hS1 y1 y2 y3 => ?_)
  obtain ⟨n1, n2, n3⟩ := y3
  have tr : ∀ (z : Nat) (v : List Int), z < a → zrR g ρ z v → zrR g1 ρ1 z v := fun z v hz h => by
    obtain ⟨q1, q2, q3⟩ := h
    obtain ⟨e1, e2, e3⟩ := n3 z hz
    refine ⟨?_, ?_, fun j hj => by rw [e3]; exact q3 j hj⟩
    · obtain ⟨N, hN⟩ := q1
      exact ⟨N, e2.trans hN⟩
    · unfold lnA at q2 ⊢
      rw [e2]
      exact q2
  have hz0' := tr _ _ h0 hz0
  have hz1' := tr _ _ h1 hz1
  have e1 : g1 (ad a 2) = fun _ => 0 := y1 2 (by omega) (by omega)
  obtain ⟨g2, hg2⟩ : ∃ g2, g2 = setRow (setRow g1 a (upd1 (g1 a) 0 1)) (ad a 2) (upd1 (g1 (ad a 2)) 0 4) := ⟨_, rfl⟩
  have f2 : ∀ x, x < a → g2 x = g1 x := fun x hx => by rw [hg2, row_n (by unfold ad; omega), row_n (by omega)]
  have hz2 : ∀ (z : Nat) (v : List Int), z < a → zrR g1 ρ1 z v → zrR g2 ρ1 z v := fun z v hz h => ⟨h.1, h.2.1, fun j hj => by rw [f2 z hz]; exact h.2.2 j hj⟩
  have k81 := S_sounds (zt := zt) (g := g2) hS1 (hz2 _ _ h0 hz0') h0 (Q := Q) (by
    obtain ⟨g3, hg3⟩ : ∃ g3, g3 = setRow g2 (ad a 3) (filR (fun j => iniV 3 j) (g2 (ad a 3)) 36) := ⟨_, rfl⟩
    rw [← hg3]
    have f3 : ∀ x, x < a → g3 x = g2 x := fun x hx => by rw [hg3]; exact row_n (by unfold ad; omega)
    have k108 := S_numbers (zt := zt) (g := g3) hS1 (by
      obtain ⟨q1, q2, q3⟩ := hz2 _ _ h1 hz1'
      exact ⟨q1, q2, fun j hj => by rw [f3 _ h1]; exact q3 j hj⟩) h1 (Q := Q) (by
      refine hQ _ ρ1 hS1 ?_ ⟨n1, n2, fun x hx => ⟨(n3 x hx).1, (n3 x hx).2.1, ?_⟩⟩
      · have r0 : ∀ k, g3 a k = if k = 0 then 1 else 0 := fun k => by
          rw [hg3, row_n (by unfold ad; omega), hg2, row_n (by unfold ad; omega), row_s]
          unfold upd1
          by_cases e : k = 0
          · rw [if_pos e, if_pos e]
          · rw [if_neg e, if_neg e, y2]
            exact hg k
        refine ⟨?_, ?_, ?_, fun j hj => ⟨?_, ?_⟩, fun j hj => ?_, fun j hj => ?_, fun j hj => ?_, fun j hj => ?_⟩
        · show setRow g3 (ad a 4) _ a 0 = 1
          rw [row_n (by unfold ad; omega), r0, if_pos rfl]
        · show setRow g3 (ad a 4) _ a 5 = 0
          rw [row_n (by unfold ad; omega), r0, if_neg (by omega)]
        · show setRow g3 (ad a 4) _ a 8 = 0
          rw [row_n (by unfold ad; omega), r0, if_neg (by omega)]
        · show setRow g3 (ad a 4) _ (ad a 1) j = 0
          rw [row_n (by unfold ad; omega), hg3, row_n (by unfold ad; omega), hg2, row_n (by unfold ad; omega), row_n (by unfold ad; omega), y1 1 (by omega) (by omega)]
        · have hj0 : j = 0 := by
            have : (j : Int) < 1 := hj
            omega
          subst hj0
          show setRow g3 (ad a 4) _ (ad a 2) 0 = 4
          rw [row_n (by unfold ad; omega), hg3, row_n (by unfold ad; omega), hg2, row_s, upd_s]
        · show setRow g3 (ad a 4) _ (ad a 3) j = iniV 3 j
          rw [row_n (by unfold ad; omega), hg3, row_s]
          exact if_pos hj
        · show setRow g3 (ad a 4) _ (ad a 4) j = iniV 4 j
          rw [row_s]
          exact if_pos hj
        · have : (j : Int) < 0 := hj
          omega
        · have : (j : Int) < 0 := hj
          omega
      · rw [row_n (by unfold ad; omega), f3 x hx, f2 x hx]
        exact (n3 x hx).2.2) 5 0 (by omega)
    rw [filR_0, row_id] at k108
    rw [P_S_init_106]
    simp only [m_S_init, b_S_init_0, P_S_init_130, b_S_init_130, wp_aln0, wp_bipush, wp_ci1, wp_ci2, wp_ci3, wp_ci4, wp_ci5, wp_ci6, wp_ci7, wp_goto, wp_iald, wp_iast, wp_icge, wp_iconst, wp_iln1, wp_inc1, wp_irem, wp_isn1, wp_nop, wp_ret, qsc_kd, qsc_k1, qsc_l1, qsc_gf1, qsc_k2, qsc_l2, qsc_gf2, qsc_k3, qsc_l3, qsc_gf3, qsc_k4, qsc_l4, qsc_gf4, qsc_k5, qsc_l5, qsc_gf6, qsc_k6, qsc_l6, qsc_gf7, qsc_k7, qsc_l7, qsc_gf9, qsc_k8, qsc_l8, qsc_gf10, qsc_gf0, qsc_pf0, qsc_gf5, qsc_pf5, qsc_gf8, qsc_pf8, wrI_row, cpI_row, row_s, row_n, row_ss, row_sw, upd_s, upd_n, ad_inj, ad_z, ad_z2, Nat.reduceEqDiff, reduceCtorEq, List.cons_append, List.nil_append, Option.toList_some, Option.toList_none, Int.toNat_natCast, List.length_cons, List.length_nil, Int.cast_ofNat_Int, Nat.reduceAdd, Nat.reduceLeDiff, Nat.reduceLT, Nat.reduceMul, Int.reduceAdd, Int.reduceSub, Int.reduceMul, Int.reduceNeg, Int.reduceLT, Int.reduceLE, Int.reduceEq, Int.reduceToNat, eq_self, true_and, and_true, true_or, or_true, false_or, or_false, if_true, if_false, not_true_eq_false, not_false_eq_true, and_self, ne_eq, b_S_init_106, hS1]
    exact k108) 36 0 (by omega)
  rw [filR_0, row_id, hg2] at k81
  simp only [m_S_init, b_S_init_0, P_S_init_130, b_S_init_130, wp_aln0, wp_bipush, wp_ci1, wp_ci2, wp_ci3, wp_ci4, wp_ci5, wp_ci6, wp_ci7, wp_goto, wp_iald, wp_iast, wp_icge, wp_iconst, wp_iln1, wp_inc1, wp_irem, wp_isn1, wp_nop, wp_ret, qsc_kd, qsc_k1, qsc_l1, qsc_gf1, qsc_k2, qsc_l2, qsc_gf2, qsc_k3, qsc_l3, qsc_gf3, qsc_k4, qsc_l4, qsc_gf4, qsc_k5, qsc_l5, qsc_gf6, qsc_k6, qsc_l6, qsc_gf7, qsc_k7, qsc_l7, qsc_gf9, qsc_k8, qsc_l8, qsc_gf10, qsc_gf0, qsc_pf0, qsc_gf5, qsc_pf5, qsc_gf8, qsc_pf8, wrI_row, cpI_row, row_s, row_n, row_ss, row_sw, upd_s, upd_n, ad_inj, ad_z, ad_z2, Nat.reduceEqDiff, reduceCtorEq, List.cons_append, List.nil_append, Option.toList_some, Option.toList_none, Int.toNat_natCast, List.length_cons, List.length_nil, Int.cast_ofNat_Int, Nat.reduceAdd, Nat.reduceLeDiff, Nat.reduceLT, Nat.reduceMul, Int.reduceAdd, Int.reduceSub, Int.reduceMul, Int.reduceNeg, Int.reduceLT, Int.reduceLE, Int.reduceEq, Int.reduceToNat, eq_self, true_and, and_true, true_or, or_true, false_or, or_false, if_true, if_false, not_true_eq_false, not_false_eq_true, and_self, ne_eq, hS1]
  (repeat' (first | apply And.intro | split)) <;> first | omega | exact k81
end NSI
