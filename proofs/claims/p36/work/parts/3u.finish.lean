/-! finish -/
def finU (U : Vw) : Vw := fun k j => if k = 10 ∧ j < pF U then plU U j else U k j
theorem finU_n {U : Vw} {k j : Nat} (h : k ≠ 10) : finU U k j = U k j := if_neg (fun q => h q.1)
theorem plU_b {U : Vw} (hW : WFV (-1) U) (f : Nat) : 0 ≤ plU U f ∧ plU U f < U 0 0 := by
  have b0 := hW.1
  have b4 := hW.2.2.2.1
  have := (plnV_b (F := pF U) (M := pM U) (h := pH U) (c := cstV (-1) U) (cl := clsV U (U 4 0)) (by unfold pM; omega) (by unfold pH; omega) f).1
  unfold plU
  unfold pM at *
  omega
theorem finU_wf {U : Vw} (hW : WFV (-1) U) : WFV (-1) (finU U) := by
  have hp := plU_b hW
  obtain ⟨w1, w2, w3, w4, w5, w6, w7, w8, w9⟩ := hW
  have z : ∀ k j, k ≠ 10 → finU U k j = U k j := fun k j q => finU_n q
  unfold WFV
  rw [sumL_eq7 (U := U) (fun j => z 7 j (by decide))]
  simp only [z, ne_eq, Nat.reduceEqDiff, not_false_eq_true]
  refine ⟨w1, w2, w3, w4, w5, w6, w7, w8, fun j hj => ⟨(w9 j hj).1, ?_⟩⟩
  unfold finU
  split
  · exact Or.inr (hp j)
  · exact (w9 j hj).2
def sFinish (X : XV) : Int × XV := if lsU X.1.1 (X.1.1 4 0) = -99 then (-2, X) else (lsU X.1.1 (X.1.1 4 0), actX X (finU X.1.1))
theorem sFinish_wf {X : XV} (hW : WFX X) : WFX (sFinish X).2 := by
  unfold sFinish
  split
  · exact hW
  · exact actX_wf hW (finU_wf hW.1.1)
section FIN
variable {zt : Nat → Nat} {g : Nat → Nat → Int} {ρ : Ri} {L : Nat} {h : Nat → Nat} {X : XV} {Q : Option AV → Sto → Prop}
def finR (r : Nat → Int) (U : Vw) (n : Nat) : Nat → Int := fun y => if y < n then plU U y else r y
theorem finR_0 {r : Nat → Int} {U : Vw} : finR r U 0 = r := by
  funext y
  unfold finR
  rw [if_neg (by omega)]
theorem finR_st {r : Nat → Int} {U : Vw} {n : Nat} : upd1 (finR r U n) n (plU U n) = finR r U (n + 1) := by
  funext y
  unfold finR upd1
  by_cases e : y = n
  · subst e
    rw [if_pos rfl, if_pos (by omega)]
  · rw [if_neg e]
    dsimp only
    by_cases e2 : y < n
    · rw [if_pos e2, if_pos (by omega)]
    · rw [if_neg e2, if_neg (by omega)]
theorem finish_loop (hLf : isLf ρ L) (hN1 : isSt ρ (ad L 1)) (hS : isSc ρ (ad (ad L 1) 1)) (hPl : isPl ρ (ad L 194)) {U : Vw} (hU : WFV (-1) U) (e8 : g (ad (ad L 1) 1) 8 = U 8 0) (hp : ∀ y, y < pF U → g (ad (ad L 194) 1) y = plU U y) {t : Int} (hQ : Q (some (AI t)) (setRow g (ad (ad (ad L 1) 1) 8) (finR (g (ad (ad (ad L 1) 1) 8)) U (pF U)), ρ)) :
    ∀ (d n : Nat), n + d = pF U → Wp zt 59 (P 59 45) [some (AR L), some (AI t), some (AI n)] [] (setRow g (ad (ad (ad L 1) 1) 8) (finR (g (ad (ad (ad L 1) 1) 8)) U n), ρ) Q := by
  have b8 := hU.2.2.2.2.2.2.1
  have c1 : (ad (ad L 194) 1 = ad (ad (ad L 1) 1) 8) ↔ False := iff_false_intro (by unfold ad; omega)
  intro d
  induction d with
  | zero =>
    intro n hn
    have e : n = pF U := by omega
    have hfe : ¬ (n : Int) < U 8 0 := by unfold pF at e; omega
    have hb9 : (n : Int) ≤ 99 := by unfold pF at e; omega
    subst e
    rw [P_L_finish_45]
    simp only [m_L_finish, b_L_finish_0, P_L_finish_31, b_L_finish_31, P_L_finish_86, b_L_finish_86, wp_aln0, wp_bipush, wp_cv1, wp_cv2, wp_cv3, wp_cv4, wp_cv5, wp_cv6, wp_cv7, wp_goto, wp_iald, wp_iast, wp_icge, wp_icne, wp_iconst, wp_iln1, wp_iln2, wp_inc2, wp_iret, wp_isn1, wp_isn2, wp_nop, wp_pop, wp_zret, qsc_kd, qsc_k1, qsc_l1, qsc_gf1, qsc_k2, qsc_l2, qsc_gf2, qsc_k3, qsc_l3, qsc_gf3, qsc_k4, qsc_l4, qsc_gf4, qsc_k5, qsc_l5, qsc_gf6, qsc_k6, qsc_l6, qsc_gf7, qsc_k7, qsc_l7, qsc_gf9, qsc_k8, qsc_l8, qsc_gf10, qsc_gf0, qsc_pf0, qsc_gf5, qsc_pf5, qsc_gf8, qsc_pf8, qpl_kd, qpl_k1, qpl_l1, qpl_gf0, qpl_k2, qpl_l2, qpl_gf1, qpl_k3, qpl_l3, qpl_gf2, qpl_k4, qpl_l4, qpl_gf3, qpl_k5, qpl_l5, qpl_gf4, qpl_k6, qpl_l6, qpl_gf5, qpl_gf6, qpl_pf6, qpl_gf7, qpl_pf7, qpl_gf8, qpl_pf8, qst_kd, qst_gf0, qst_k10, qst_l10, qst_gf1, qst_k29, qst_l29, qst_gf2, qlf_kd, qlf_gf0, qlf_k31, qlf_l31, qlf_gf1, qlf_gf3, qlf_gf4, qlf_gf5, qlf_gf6, qlf_k203, qlf_l203, qlf_gf7, qlf_gf2, qlf_pf2, qlf_gf8, qlf_pf8, wrI_row, cpI_row, row_s, row_n, row_ss, row_sw, upd_s, upd_n, ad_inj, ad_z, ad_z2, Nat.reduceEqDiff, reduceCtorEq, List.cons_append, List.nil_append, Option.toList_some, Option.toList_none, Int.toNat_natCast, List.length_cons, List.length_nil, Int.cast_ofNat_Int, Nat.reduceAdd, Nat.reduceLeDiff, Nat.reduceLT, Nat.reduceMul, Int.reduceAdd, Int.reduceSub, Int.reduceMul, Int.reduceNeg, Int.reduceLT, Int.reduceLE, Int.reduceEq, Int.reduceToNat, eq_self, true_and, and_true, true_or, or_true, false_or, or_false, if_true, if_false, not_true_eq_false, not_false_eq_true, and_self, ne_eq, b_L_finish_45, hLf, hN1, hS, hPl, e8]
    (repeat' (first | apply And.intro | split)) <;> first | omega | exact hQ
  | succ d ih =>
    intro n hn
    have hlt : (n : Int) < U 8 0 := by unfold pF at hn; omega
    have i1 := ih (n + 1) (by omega)
    have r1 := hp n (by omega)
    rw [← finR_st] at i1
    rw [P_L_finish_45]
    simp only [m_L_finish, b_L_finish_0, P_L_finish_31, b_L_finish_31, P_L_finish_86, b_L_finish_86, wp_aln0, wp_bipush, wp_cv1, wp_cv2, wp_cv3, wp_cv4, wp_cv5, wp_cv6, wp_cv7, wp_goto, wp_iald, wp_iast, wp_icge, wp_icne, wp_iconst, wp_iln1, wp_iln2, wp_inc2, wp_iret, wp_isn1, wp_isn2, wp_nop, wp_pop, wp_zret, qsc_kd, qsc_k1, qsc_l1, qsc_gf1, qsc_k2, qsc_l2, qsc_gf2, qsc_k3, qsc_l3, qsc_gf3, qsc_k4, qsc_l4, qsc_gf4, qsc_k5, qsc_l5, qsc_gf6, qsc_k6, qsc_l6, qsc_gf7, qsc_k7, qsc_l7, qsc_gf9, qsc_k8, qsc_l8, qsc_gf10, qsc_gf0, qsc_pf0, qsc_gf5, qsc_pf5, qsc_gf8, qsc_pf8, qpl_kd, qpl_k1, qpl_l1, qpl_gf0, qpl_k2, qpl_l2, qpl_gf1, qpl_k3, qpl_l3, qpl_gf2, qpl_k4, qpl_l4, qpl_gf3, qpl_k5, qpl_l5, qpl_gf4, qpl_k6, qpl_l6, qpl_gf5, qpl_gf6, qpl_pf6, qpl_gf7, qpl_pf7, qpl_gf8, qpl_pf8, qst_kd, qst_gf0, qst_k10, qst_l10, qst_gf1, qst_k29, qst_l29, qst_gf2, qlf_kd, qlf_gf0, qlf_k31, qlf_l31, qlf_gf1, qlf_gf3, qlf_gf4, qlf_gf5, qlf_gf6, qlf_k203, qlf_l203, qlf_gf7, qlf_gf2, qlf_pf2, qlf_gf8, qlf_pf8, wrI_row, cpI_row, row_s, row_n, row_ss, row_sw, upd_s, upd_n, ad_inj, ad_z, ad_z2, Nat.reduceEqDiff, reduceCtorEq, List.cons_append, List.nil_append, Option.toList_some, Option.toList_none, Int.toNat_natCast, List.length_cons, List.length_nil, Int.cast_ofNat_Int, Nat.reduceAdd, Nat.reduceLeDiff, Nat.reduceLT, Nat.reduceMul, Int.reduceAdd, Int.reduceSub, Int.reduceMul, Int.reduceNeg, Int.reduceLT, Int.reduceLE, Int.reduceEq, Int.reduceToNat, eq_self, true_and, and_true, true_or, or_true, false_or, or_false, if_true, if_false, not_true_eq_false, not_false_eq_true, and_self, ne_eq, b_L_finish_45, hLf, hN1, hS, hPl, e8, c1, r1]
    (repeat' (first | apply And.intro | split)) <;> first | omega | exact i1
theorem finU_lr {a : Nat} {U : Vw} (hR : LR (-99) (vwC g a) U) (hU : WFV (-1) U) : LR (-99) (vwC (setRow g (ad a 8) (finR (g (ad a 8)) U (pF U))) a) (finU U) := by
  have v : ∀ k j, k ≤ 10 → k ≠ 10 → vwC (setRow g (ad a 8) (finR (g (ad a 8)) U (pF U))) a k j = vwC g a k j := fun k j z1 z2 => by rw [vw_8 z1, if_neg z2]
  have u : ∀ k j, k ≠ 10 → finU U k j = U k j := fun k j z => finU_n z
  unfold LR
  rw [v 0 0 (by omega) (by omega), v 5 0 (by omega) (by omega), v 8 0 (by omega) (by omega), u 0 0 (by omega), u 5 0 (by omega), u 8 0 (by omega)]
  refine ⟨hR.l0, hR.l5, hR.l8, fun j hj => ?_, fun j hj => ?_, fun j hj => ?_, fun j hj => ?_, fun j hj => ?_⟩
  · rw [v 1 j (by omega) (by omega), v 2 j (by omega) (by omega), u 1 j (by omega), u 2 j (by omega)]
    exact ⟨hR.l1 hj, hR.l2 hj⟩
  · rw [v 3 j (by omega) (by omega), u 3 j (by omega)]
    exact hR.l3 hj
  · rw [v 4 j (by omega) (by omega), u 4 j (by omega)]
    exact hR.l4 hj
  · rw [v 6 j (by omega) (by omega), v 7 j (by omega) (by omega), u 6 j (by omega), u 7 j (by omega)]
    exact ⟨hR.l6 hj, hR.l7 hj⟩
  · rw [v 9 j (by omega) (by omega), u 9 j (by omega)]
    refine ⟨hR.l9 hj, ?_⟩
    rw [vw_8 (by omega), if_pos rfl]
    have hp := plU_b hU j
    have hj2 : j < pF U := by unfold pF; omega
    have z1 : finR (g (ad a 8)) U (pF U) j = plU U j := if_pos hj2
    have z2 : finU U 10 j = plU U j := if_pos ⟨rfl, hj2⟩
    rw [z1, z2]
    unfold nn
    rw [if_neg (by omega)]
theorem c_finish (hX : RepC g ρ L h X) (hW : WFX X) (hQ : CQ g ρ L (sFinish X) Q) : WpM zt 59 [AR L] (g, ρ) Q := by
  obtain ⟨hLf, hN, -⟩ := id hX.1
  obtain ⟨hR, -⟩ := id hX.2.1
  have hU := hW.1.1
  have hWV := hR.wf (by omega) hU
  have hN1 := hN.1
  have hS := hN.2.1
  have e0 : g (ad (ad L 1) 1) 0 = X.1.1 0 0 := hR.l0
  have e5 : g (ad (ad L 1) 1) 5 = X.1.1 5 0 := hR.l5
  have e8 : g (ad (ad L 1) 1) 8 = X.1.1 8 0 := hR.l8
  have b0 := hU.1
  have b5 := hU.2.2.2.2.1
  have b8 := hU.2.2.2.2.2.2.1
  obtain ⟨t1, t2, t3, t4, t5⟩ := plan_b hW
  have hPl := hX.1.2.2.2.2.2.1
  have lb := lstV_b (F := pF X.1.1) (M := pM X.1.1) (h := pH X.1.1) (c := cstV (-1) X.1.1) (cl := clsV X.1.1 (X.1.1 4 0)) (fun f m => (cstU_b hU f m).1)
  have hlu : lstV (pF X.1.1) (pM X.1.1) (pH X.1.1) (cstV (-1) X.1.1) (clsV X.1.1 (X.1.1 4 0)) = lsU X.1.1 (X.1.1 4 0) := rfl
  rw [hlu] at lb
  unfold sFinish at hQ
  simp only [m_L_finish, b_L_finish_0, P_L_finish_31, b_L_finish_31, P_L_finish_86, b_L_finish_86, wp_aln0, wp_bipush, wp_cv1, wp_cv2, wp_cv3, wp_cv4, wp_cv5, wp_cv6, wp_cv7, wp_goto, wp_iald, wp_iast, wp_icge, wp_icne, wp_iconst, wp_iln1, wp_iln2, wp_inc2, wp_iret, wp_isn1, wp_isn2, wp_nop, wp_pop, wp_zret, qpl_kd, qpl_k1, qpl_l1, qpl_gf0, qpl_k2, qpl_l2, qpl_gf1, qpl_k3, qpl_l3, qpl_gf2, qpl_k4, qpl_l4, qpl_gf3, qpl_k5, qpl_l5, qpl_gf4, qpl_k6, qpl_l6, qpl_gf5, qpl_gf6, qpl_pf6, qpl_gf7, qpl_pf7, qpl_gf8, qpl_pf8, qst_kd, qst_gf0, qst_k10, qst_l10, qst_gf1, qst_k29, qst_l29, qst_gf2, qlf_kd, qlf_gf0, qlf_k31, qlf_l31, qlf_gf1, qlf_gf3, qlf_gf4, qlf_gf5, qlf_gf6, qlf_k203, qlf_l203, qlf_gf7, qlf_gf2, qlf_pf2, qlf_gf8, qlf_pf8, wrI_row, cpI_row, row_s, row_n, row_ss, row_sw, upd_s, upd_n, ad_inj, ad_z, ad_z2, Nat.reduceEqDiff, reduceCtorEq, List.cons_append, List.nil_append, Option.toList_some, Option.toList_none, Int.toNat_natCast, List.length_cons, List.length_nil, Int.cast_ofNat_Int, Nat.reduceAdd, Nat.reduceLeDiff, Nat.reduceLT, Nat.reduceMul, Int.reduceAdd, Int.reduceSub, Int.reduceMul, Int.reduceNeg, Int.reduceLT, Int.reduceLE, Int.reduceEq, Int.reduceToNat, eq_self, true_and, and_true, true_or, or_true, false_or, or_false, if_true, if_false, not_true_eq_false, not_false_eq_true, and_self, ne_eq, hLf, hN1, hPl]
  refine prep_c hX hW (fun g2 q1 q2 => ?_)
  simp only [m_L_finish, b_L_finish_0, P_L_finish_31, b_L_finish_31, P_L_finish_86, b_L_finish_86, wp_aln0, wp_bipush, wp_cv1, wp_cv2, wp_cv3, wp_cv4, wp_cv5, wp_cv6, wp_cv7, wp_goto, wp_iald, wp_iast, wp_icge, wp_icne, wp_iconst, wp_iln1, wp_iln2, wp_inc2, wp_iret, wp_isn1, wp_isn2, wp_nop, wp_pop, wp_zret, qpl_kd, qpl_k1, qpl_l1, qpl_gf0, qpl_k2, qpl_l2, qpl_gf1, qpl_k3, qpl_l3, qpl_gf2, qpl_k4, qpl_l4, qpl_gf3, qpl_k5, qpl_l5, qpl_gf4, qpl_k6, qpl_l6, qpl_gf5, qpl_gf6, qpl_pf6, qpl_gf7, qpl_pf7, qpl_gf8, qpl_pf8, qst_kd, qst_gf0, qst_k10, qst_l10, qst_gf1, qst_k29, qst_l29, qst_gf2, qlf_kd, qlf_gf0, qlf_k31, qlf_l31, qlf_gf1, qlf_gf3, qlf_gf4, qlf_gf5, qlf_gf6, qlf_k203, qlf_l203, qlf_gf7, qlf_gf2, qlf_pf2, qlf_gf8, qlf_pf8, wrI_row, cpI_row, row_s, row_n, row_ss, row_sw, upd_s, upd_n, ad_inj, ad_z, ad_z2, Nat.reduceEqDiff, reduceCtorEq, List.cons_append, List.nil_append, Option.toList_some, Option.toList_none, Int.toNat_natCast, List.length_cons, List.length_nil, Int.cast_ofNat_Int, Nat.reduceAdd, Nat.reduceLeDiff, Nat.reduceLT, Nat.reduceMul, Int.reduceAdd, Int.reduceSub, Int.reduceMul, Int.reduceNeg, Int.reduceLT, Int.reduceLE, Int.reduceEq, Int.reduceToNat, eq_self, true_and, and_true, true_or, or_true, false_or, or_false, if_true, if_false, not_true_eq_false, not_false_eq_true, and_self, ne_eq, hLf, hN1, hPl]
  refine leastFromEnd_ok hPl q2 t1 t3 t4 t5 (fun f m => cstU_b hU f m) (fun R hR2 => ?_)
  rw [hlu]
  have fr2 : ∀ x, (x < ad L 194 ∨ ad L 201 ≤ x) → setRow g2 (ad (ad L 194) 4) R x = g x := fun x z => by rw [row_n (by unfold ad at *; omega), q1 x z]
  have hX2 : RepC (setRow g2 (ad (ad L 194) 4) R) ρ L h X := hX.kept hW (fun x z1 z2 => fr2 x (by unfold ad at *; omega))
  have hP2 := plI_row4 q2 R
  generalize setRow g2 (ad (ad L 194) 4) R = g3 at *
  by_cases c : lsU X.1.1 (X.1.1 4 0) = -99
  · rw [if_pos c] at hQ
    have q := hQ g3 ρ h hX2 ⟨rfl, fun x z => ⟨rfl, fr2 x (by unfold ad at *; omega)⟩⟩
    rw [c]
    simp only [m_L_finish, b_L_finish_0, P_L_finish_31, b_L_finish_31, P_L_finish_86, b_L_finish_86, wp_aln0, wp_bipush, wp_cv1, wp_cv2, wp_cv3, wp_cv4, wp_cv5, wp_cv6, wp_cv7, wp_goto, wp_iald, wp_iast, wp_icge, wp_icne, wp_iconst, wp_iln1, wp_iln2, wp_inc2, wp_iret, wp_isn1, wp_isn2, wp_nop, wp_pop, wp_zret, qpl_kd, qpl_k1, qpl_l1, qpl_gf0, qpl_k2, qpl_l2, qpl_gf1, qpl_k3, qpl_l3, qpl_gf2, qpl_k4, qpl_l4, qpl_gf3, qpl_k5, qpl_l5, qpl_gf4, qpl_k6, qpl_l6, qpl_gf5, qpl_gf6, qpl_pf6, qpl_gf7, qpl_pf7, qpl_gf8, qpl_pf8, qst_kd, qst_gf0, qst_k10, qst_l10, qst_gf1, qst_k29, qst_l29, qst_gf2, qlf_kd, qlf_gf0, qlf_k31, qlf_l31, qlf_gf1, qlf_gf3, qlf_gf4, qlf_gf5, qlf_gf6, qlf_k203, qlf_l203, qlf_gf7, qlf_gf2, qlf_pf2, qlf_gf8, qlf_pf8, wrI_row, cpI_row, row_s, row_n, row_ss, row_sw, upd_s, upd_n, ad_inj, ad_z, ad_z2, Nat.reduceEqDiff, reduceCtorEq, List.cons_append, List.nil_append, Option.toList_some, Option.toList_none, Int.toNat_natCast, List.length_cons, List.length_nil, Int.cast_ofNat_Int, Nat.reduceAdd, Nat.reduceLeDiff, Nat.reduceLT, Nat.reduceMul, Int.reduceAdd, Int.reduceSub, Int.reduceMul, Int.reduceNeg, Int.reduceLT, Int.reduceLE, Int.reduceEq, Int.reduceToNat, eq_self, true_and, and_true, true_or, or_true, false_or, or_false, if_true, if_false, not_true_eq_false, not_false_eq_true, and_self, ne_eq, hLf, hN1, hPl]
    (repeat' (first | apply And.intro | split)) <;> first | omega | exact q
  · rw [if_neg c] at hQ
    simp only [m_L_finish, b_L_finish_0, P_L_finish_31, b_L_finish_31, P_L_finish_86, b_L_finish_86, wp_aln0, wp_bipush, wp_cv1, wp_cv2, wp_cv3, wp_cv4, wp_cv5, wp_cv6, wp_cv7, wp_goto, wp_iald, wp_iast, wp_icge, wp_icne, wp_iconst, wp_iln1, wp_iln2, wp_inc2, wp_iret, wp_isn1, wp_isn2, wp_nop, wp_pop, wp_zret, qpl_kd, qpl_k1, qpl_l1, qpl_gf0, qpl_k2, qpl_l2, qpl_gf1, qpl_k3, qpl_l3, qpl_gf2, qpl_k4, qpl_l4, qpl_gf3, qpl_k5, qpl_l5, qpl_gf4, qpl_k6, qpl_l6, qpl_gf5, qpl_gf6, qpl_pf6, qpl_gf7, qpl_pf7, qpl_gf8, qpl_pf8, qst_kd, qst_gf0, qst_k10, qst_l10, qst_gf1, qst_k29, qst_l29, qst_gf2, qlf_kd, qlf_gf0, qlf_k31, qlf_l31, qlf_gf1, qlf_gf3, qlf_gf4, qlf_gf5, qlf_gf6, qlf_k203, qlf_l203, qlf_gf7, qlf_gf2, qlf_pf2, qlf_gf8, qlf_pf8, wrI_row, cpI_row, row_s, row_n, row_ss, row_sw, upd_s, upd_n, ad_inj, ad_z, ad_z2, Nat.reduceEqDiff, reduceCtorEq, List.cons_append, List.nil_append, Option.toList_some, Option.toList_none, Int.toNat_natCast, List.length_cons, List.length_nil, Int.cast_ofNat_Int, Nat.reduceAdd, Nat.reduceLeDiff, Nat.reduceLT, Nat.reduceMul, Int.reduceAdd, Int.reduceSub, Int.reduceMul, Int.reduceNeg, Int.reduceLT, Int.reduceLE, Int.reduceEq, Int.reduceToNat, eq_self, true_and, and_true, true_or, or_true, false_or, or_false, if_true, if_false, not_true_eq_false, not_false_eq_true, and_self, ne_eq, hLf, hN1, hPl, c]
    (repeat' (first | apply And.intro | split)) <;> first | omega | skip
    refine recordState_ok hX2 hW (fun g' ρ' h' j1 j2 j3 j4 => ?_)
    have hLf' := j1.1.1
    have hN1' := j1.1.2.1.1
    have hS' := j1.1.2.1.2.1
    have hPl' := j1.1.2.2.2.2.2.1
    have hP3 : plI g' (ad L 194) (pF X.1.1) (pM X.1.1) (pH X.1.1) (cstV (-1) X.1.1) (clsV X.1.1 (X.1.1 4 0)) := by
      unfold plI
      rw [j4 (ad L 194) (by unfold ad; omega), j4 (ad (ad L 194) 2) (by unfold ad; omega), j4 (ad (ad L 194) 3) (by unfold ad; omega)]
      exact hP2
    simp only [m_L_finish, b_L_finish_0, P_L_finish_31, b_L_finish_31, P_L_finish_86, b_L_finish_86, wp_aln0, wp_bipush, wp_cv1, wp_cv2, wp_cv3, wp_cv4, wp_cv5, wp_cv6, wp_cv7, wp_goto, wp_iald, wp_iast, wp_icge, wp_icne, wp_iconst, wp_iln1, wp_iln2, wp_inc2, wp_iret, wp_isn1, wp_isn2, wp_nop, wp_pop, wp_zret, qpl_kd, qpl_k1, qpl_l1, qpl_gf0, qpl_k2, qpl_l2, qpl_gf1, qpl_k3, qpl_l3, qpl_gf2, qpl_k4, qpl_l4, qpl_gf3, qpl_k5, qpl_l5, qpl_gf4, qpl_k6, qpl_l6, qpl_gf5, qpl_gf6, qpl_pf6, qpl_gf7, qpl_pf7, qpl_gf8, qpl_pf8, qst_kd, qst_gf0, qst_k10, qst_l10, qst_gf1, qst_k29, qst_l29, qst_gf2, qlf_kd, qlf_gf0, qlf_k31, qlf_l31, qlf_gf1, qlf_gf3, qlf_gf4, qlf_gf5, qlf_gf6, qlf_k203, qlf_l203, qlf_gf7, qlf_gf2, qlf_pf2, qlf_gf8, qlf_pf8, wrI_row, cpI_row, row_s, row_n, row_ss, row_sw, upd_s, upd_n, ad_inj, ad_z, ad_z2, Nat.reduceEqDiff, reduceCtorEq, List.cons_append, List.nil_append, Option.toList_some, Option.toList_none, Int.toNat_natCast, List.length_cons, List.length_nil, Int.cast_ofNat_Int, Nat.reduceAdd, Nat.reduceLeDiff, Nat.reduceLT, Nat.reduceMul, Int.reduceAdd, Int.reduceSub, Int.reduceMul, Int.reduceNeg, Int.reduceLT, Int.reduceLE, Int.reduceEq, Int.reduceToNat, eq_self, true_and, and_true, true_or, or_true, false_or, or_false, if_true, if_false, not_true_eq_false, not_false_eq_true, and_self, ne_eq, hLf', hN1', hPl']
    refine choose_ok hPl' hP3 t1 t2 t3 t4 t5 (fun f m => cstU_b hU f m) (fun R2 hR3 => ?_)
    rw [hlu, if_neg c]
    have hpl : ∀ y, y < pF X.1.1 → (setRow (setRow g' (ad (ad L 194) 4) R2) (ad (ad L 194) 1) (plnR (g' (ad (ad L 194) 1)) (pF X.1.1) (pM X.1.1) (pH X.1.1) (cstV (-1) X.1.1) (clsV X.1.1 (X.1.1 4 0)) (pF X.1.1))) (ad (ad L 194) 1) y = plU X.1.1 y := fun y hy => by
      rw [row_s]
      exact if_pos hy
    have fr4 : ∀ x, (x < ad L 194 ∨ ad L 201 ≤ x) → (setRow (setRow g' (ad (ad L 194) 4) R2) (ad (ad L 194) 1) (plnR (g' (ad (ad L 194) 1)) (pF X.1.1) (pM X.1.1) (pH X.1.1) (cstV (-1) X.1.1) (clsV X.1.1 (X.1.1 4 0)) (pF X.1.1))) x = g' x := fun x z => by rw [row_n (by unfold ad at *; omega), row_n (by unfold ad at *; omega)]
    generalize setRow (setRow g' (ad (ad L 194) 4) R2) (ad (ad L 194) 1) (plnR (g' (ad (ad L 194) 1)) (pF X.1.1) (pM X.1.1) (pH X.1.1) (cstV (-1) X.1.1) (clsV X.1.1 (X.1.1 4 0)) (pF X.1.1)) = g4 at *
    have hX4 : RepC g4 ρ' L h' (recX X) := j1.kept (recX_wf hW) (fun x z1 z2 => fr4 x (by unfold ad at *; omega))
    have hR4 : LR (-99) (vwC g4 (ad (ad L 1) 1)) X.1.1 := hX4.2.1.1
    have q := hQ (setRow g4 (ad (ad (ad L 1) 1) 8) (finR (g4 (ad (ad (ad L 1) 1) 8)) X.1.1 (pF X.1.1))) ρ' h' (hX4.now hW (finU_lr hR4 hU) (fun x z => row_n (by unfold ad at *; omega))) ⟨j2, fun x z => ⟨j3 x (by unfold ad at *; omega), by
      rw [row_n (by unfold ad at *; omega), fr4 x (by unfold ad at *; omega), j4 x (by unfold ad at *; omega)]
      exact fr2 x (by unfold ad at *; omega)⟩⟩
    have k1 := finish_loop (zt := zt) hLf' hN1' hS' hPl' hU hR4.l8 hpl q (pF X.1.1) 0 (by omega)
    rw [finR_0, row_id] at k1
    simp only [m_L_finish, b_L_finish_0, P_L_finish_31, b_L_finish_31, P_L_finish_86, b_L_finish_86, wp_aln0, wp_bipush, wp_cv1, wp_cv2, wp_cv3, wp_cv4, wp_cv5, wp_cv6, wp_cv7, wp_goto, wp_iald, wp_iast, wp_icge, wp_icne, wp_iconst, wp_iln1, wp_iln2, wp_inc2, wp_iret, wp_isn1, wp_isn2, wp_nop, wp_pop, wp_zret, qpl_kd, qpl_k1, qpl_l1, qpl_gf0, qpl_k2, qpl_l2, qpl_gf1, qpl_k3, qpl_l3, qpl_gf2, qpl_k4, qpl_l4, qpl_gf3, qpl_k5, qpl_l5, qpl_gf4, qpl_k6, qpl_l6, qpl_gf5, qpl_gf6, qpl_pf6, qpl_gf7, qpl_pf7, qpl_gf8, qpl_pf8, qst_kd, qst_gf0, qst_k10, qst_l10, qst_gf1, qst_k29, qst_l29, qst_gf2, qlf_kd, qlf_gf0, qlf_k31, qlf_l31, qlf_gf1, qlf_gf3, qlf_gf4, qlf_gf5, qlf_gf6, qlf_k203, qlf_l203, qlf_gf7, qlf_gf2, qlf_pf2, qlf_gf8, qlf_pf8, wrI_row, cpI_row, row_s, row_n, row_ss, row_sw, upd_s, upd_n, ad_inj, ad_z, ad_z2, Nat.reduceEqDiff, reduceCtorEq, List.cons_append, List.nil_append, Option.toList_some, Option.toList_none, Int.toNat_natCast, List.length_cons, List.length_nil, Int.cast_ofNat_Int, Nat.reduceAdd, Nat.reduceLeDiff, Nat.reduceLT, Nat.reduceMul, Int.reduceAdd, Int.reduceSub, Int.reduceMul, Int.reduceNeg, Int.reduceLT, Int.reduceLE, Int.reduceEq, Int.reduceToNat, eq_self, true_and, and_true, true_or, or_true, false_or, or_false, if_true, if_false, not_true_eq_false, not_false_eq_true, and_self, ne_eq, hLf', hN1', hPl', wp_pop]
    (repeat' (first | apply And.intro | split)) <;> first | omega | exact k1
end FIN
