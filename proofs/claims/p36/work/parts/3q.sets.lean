/-! setSound, setNumber -/
section STS
variable {zt : Nat → Nat} {g : Nat → Nat → Int} {ρ : Ri} {L : Nat} {h : Nat → Nat} {X : XV} {Q : Option AV → Sto → Prop}
def sSetSound (kd w v : Int) (X : XV) : Int × XV := if (0 ≤ kd ∧ kd ≤ 8) ∧ (0 ≤ w ∧ w ≤ 3) ∧ 0 ≤ v ∧ v ≤ (if w = 3 then 3 else 9) then (X.1.1 3 (kd * 4 + w).toNat, actX X (setV X.1.1 3 (kd * 4 + w).toNat v)) else (-1, X)
theorem sSetSound_wf {kd w v : Int} (hW : WFX X) : WFX (sSetSound kd w v X).2 := by
  unfold sSetSound
  have rb : (if w = 3 then (3 : Int) else 9) ≤ 9 := by split <;> omega
  generalize (if w = 3 then (3 : Int) else 9) = hi at *
  split
  next c => exact actX_wf hW (set_wf3 hW.1.1 ⟨c.2.2.1, by omega⟩)
  next c => exact hW
theorem c_setSound (hX : RepC g ρ L h X) (hW : WFX X) (hZ : zrI g ρ zt L) {kd w v : Int} (hk : i32 kd) (hw : i32 w) (hv : i32 v) (hQ : CQ g ρ L (sSetSound kd w v X) Q) : WpM zt 51 [AR L, AI kd, AI w, AI v] (g, ρ) Q := by
  obtain ⟨hLf, hN, -⟩ := id hX.1
  obtain ⟨hR, -⟩ := id hX.2.1
  have hU := hW.1.1
  have hWV := hR.wf (by omega) hU
  have hN1 := hN.1
  have hS := hN.2.1
  have e0 : g (ad (ad L 1) 1) 0 = X.1.1 0 0 := hR.l0
  have e5 : g (ad (ad L 1) 1) 5 = X.1.1 5 0 := hR.l5
  have e8 : g (ad (ad L 1) 1) 8 = X.1.1 8 0 := hR.l8
  have b0 := hU.1
  have b5 := hU.2.2.2.2.1
  have b8 := hU.2.2.2.2.2.2.1
  obtain ⟨hzt, -, -, ⟨y1, y2, y3⟩, -⟩ := id hZ
  unfold sSetSound at hQ
  by_cases c1 : 0 ≤ kd ∧ kd ≤ 8
  · have ho1 := fun Q => lk_in (zt := zt) (g := g) (ρ := ρ) (lo := 0) (hi := 8) (by omega) (by omega) c1 Q
    by_cases c2 : 0 ≤ w ∧ w ≤ 3
    · have ho2 := fun Q => lk_in (zt := zt) (g := g) (ρ := ρ) (lo := 0) (hi := 3) (by omega) (by omega) c2 Q
      have r2 : g (zt 2) w.toNat = if w = 3 then 3 else 9 := by
        rw [y3 w.toNat (by show w.toNat < 4; omega)]
        rcases (by omega : w = 0 ∨ w = 1 ∨ w = 2 ∨ w = 3) with rfl | rfl | rfl | rfl <;> rfl
      have rb : -1000 ≤ (if w = 3 then (3 : Int) else 9) ∧ (if w = 3 then (3 : Int) else 9) ≤ 99999 := by split <;> omega
      generalize hhi : (if w = 3 then (3 : Int) else 9) = hi at *
      by_cases c3 : 0 ≤ v ∧ v ≤ hi
      · have ho3 := fun Q => lk_in (zt := zt) (g := g) (ρ := ρ) (lo := 0) (hi := hi) (by omega) (by omega) c3 Q
        rw [if_pos ⟨c1, c2, c3⟩] at hQ
        simp only [m_L_setSound, b_L_setSound_0, P_L_setSound_32, b_L_setSound_32, P_L_setSound_34, b_L_setSound_34, wp_abs, wp_aln0, wp_bipush, wp_copy, wp_cs1, wp_cs2, wp_cs3, wp_cs4, wp_cs5, wp_cs6, wp_cs7, wp_cv1, wp_cv2, wp_cv3, wp_cv4, wp_cv5, wp_cv6, wp_cv7, wp_iadd, wp_iald, wp_iast, wp_iconst, wp_il4, wp_il5, wp_iln1, wp_iln2, wp_iln3, wp_imul, wp_iret, wp_is4, wp_is5, wp_izeq, wp_izne, wp_max, wp_min, wp_nop, wp_zret, qsc_kd, qsc_k1, qsc_l1, qsc_gf1, qsc_k2, qsc_l2, qsc_gf2, qsc_k3, qsc_l3, qsc_gf3, qsc_k4, qsc_l4, qsc_gf4, qsc_k5, qsc_l5, qsc_gf6, qsc_k6, qsc_l6, qsc_gf7, qsc_k7, qsc_l7, qsc_gf9, qsc_k8, qsc_l8, qsc_gf10, qsc_gf0, qsc_pf0, qsc_gf5, qsc_pf5, qsc_gf8, qsc_pf8, qst_kd, qst_gf0, qst_k10, qst_l10, qst_gf1, qst_k29, qst_l29, qst_gf2, qlf_kd, qlf_gf0, qlf_k31, qlf_l31, qlf_gf1, qlf_gf3, qlf_gf4, qlf_gf5, qlf_gf6, qlf_k203, qlf_l203, qlf_gf7, qlf_gf2, qlf_pf2, qlf_gf8, qlf_pf8, wrI_row, cpI_row, row_s, row_n, row_ss, row_sw, upd_s, upd_n, ad_inj, ad_z, ad_z2, Nat.reduceEqDiff, reduceCtorEq, List.cons_append, List.nil_append, Option.toList_some, Option.toList_none, Int.toNat_natCast, List.length_cons, List.length_nil, Int.cast_ofNat_Int, Nat.reduceAdd, Nat.reduceLeDiff, Nat.reduceLT, Nat.reduceMul, Int.reduceAdd, Int.reduceSub, Int.reduceMul, Int.reduceNeg, Int.reduceLT, Int.reduceLE, Int.reduceEq, Int.reduceToNat, eq_self, true_and, and_true, true_or, or_true, false_or, or_false, if_true, if_false, not_true_eq_false, not_false_eq_true, and_self, ne_eq, hLf, hN1, hS, ho1, ho2, wp_gst, wp_iald4 y1, y2, r2, ho3]
        (repeat' (first | apply And.intro | split)) <;> first | omega | skip
        refine recordState_ok hX hW (fun g' ρ' h' j1 j2 j3 j4 => ?_)
        have hLf' := j1.1.1
        have hN1' := j1.1.2.1.1
        have hS' := j1.1.2.1.2.1
        have hR' : LR (-99) (vwC g' (ad (ad L 1) 1)) X.1.1 := j1.2.1.1
        have r3 : g' (ad (ad (ad L 1) 1) 3) (kd * 4 + w).toNat = X.1.1 3 (kd * 4 + w).toNat := hR'.l3 (by omega)
        have q := hQ (setRow g' (ad (ad (ad L 1) 1) 3) (upd1 (g' (ad (ad (ad L 1) 1) 3)) (kd * 4 + w).toNat v)) ρ' h' (j1.now hW (lr_set hR' (by omega) (fun k' j' z1 z2 => by rw [vw_p (kk := 3) (by omega) z1, if_neg z2]) (by rw [vw_p (kk := 3) (by omega) (by omega), if_pos ⟨rfl, rfl⟩])) (fun x z => row_n (by unfold ad at *; omega))) (Fr.of j2 j3 j4 (fun x z => row_n (by unfold ad at *; omega)))
        simp only [m_L_setSound, b_L_setSound_0, P_L_setSound_32, b_L_setSound_32, P_L_setSound_34, b_L_setSound_34, wp_abs, wp_aln0, wp_bipush, wp_copy, wp_cs1, wp_cs2, wp_cs3, wp_cs4, wp_cs5, wp_cs6, wp_cs7, wp_cv1, wp_cv2, wp_cv3, wp_cv4, wp_cv5, wp_cv6, wp_cv7, wp_iadd, wp_iald, wp_iast, wp_iconst, wp_il4, wp_il5, wp_iln1, wp_iln2, wp_iln3, wp_imul, wp_iret, wp_is4, wp_is5, wp_izeq, wp_izne, wp_max, wp_min, wp_nop, wp_zret, qsc_kd, qsc_k1, qsc_l1, qsc_gf1, qsc_k2, qsc_l2, qsc_gf2, qsc_k3, qsc_l3, qsc_gf3, qsc_k4, qsc_l4, qsc_gf4, qsc_k5, qsc_l5, qsc_gf6, qsc_k6, qsc_l6, qsc_gf7, qsc_k7, qsc_l7, qsc_gf9, qsc_k8, qsc_l8, qsc_gf10, qsc_gf0, qsc_pf0, qsc_gf5, qsc_pf5, qsc_gf8, qsc_pf8, qst_kd, qst_gf0, qst_k10, qst_l10, qst_gf1, qst_k29, qst_l29, qst_gf2, qlf_kd, qlf_gf0, qlf_k31, qlf_l31, qlf_gf1, qlf_gf3, qlf_gf4, qlf_gf5, qlf_gf6, qlf_k203, qlf_l203, qlf_gf7, qlf_gf2, qlf_pf2, qlf_gf8, qlf_pf8, wrI_row, cpI_row, row_s, row_n, row_ss, row_sw, upd_s, upd_n, ad_inj, ad_z, ad_z2, Nat.reduceEqDiff, reduceCtorEq, List.cons_append, List.nil_append, Option.toList_some, Option.toList_none, Int.toNat_natCast, List.length_cons, List.length_nil, Int.cast_ofNat_Int, Nat.reduceAdd, Nat.reduceLeDiff, Nat.reduceLT, Nat.reduceMul, Int.reduceAdd, Int.reduceSub, Int.reduceMul, Int.reduceNeg, Int.reduceLT, Int.reduceLE, Int.reduceEq, Int.reduceToNat, eq_self, true_and, and_true, true_or, or_true, false_or, or_false, if_true, if_false, not_true_eq_false, not_false_eq_true, and_self, ne_eq, hLf', hN1', hS', r3]
        (repeat' (first | apply And.intro | split)) <;> first | omega | exact q
      · have ho3 := fun Q => lk_out (zt := zt) (g := g) (ρ := ρ) (lo := 0) (hi := hi) hv (by omega) (by omega) c3 Q
        rw [if_neg (fun z => c3 z.2.2)] at hQ
        have q := hQ.ro hX
        simp only [m_L_setSound, b_L_setSound_0, P_L_setSound_32, b_L_setSound_32, P_L_setSound_34, b_L_setSound_34, wp_abs, wp_aln0, wp_bipush, wp_copy, wp_cs1, wp_cs2, wp_cs3, wp_cs4, wp_cs5, wp_cs6, wp_cs7, wp_cv1, wp_cv2, wp_cv3, wp_cv4, wp_cv5, wp_cv6, wp_cv7, wp_iadd, wp_iald, wp_iast, wp_iconst, wp_il4, wp_il5, wp_iln1, wp_iln2, wp_iln3, wp_imul, wp_iret, wp_is4, wp_is5, wp_izeq, wp_izne, wp_max, wp_min, wp_nop, wp_zret, qsc_kd, qsc_k1, qsc_l1, qsc_gf1, qsc_k2, qsc_l2, qsc_gf2, qsc_k3, qsc_l3, qsc_gf3, qsc_k4, qsc_l4, qsc_gf4, qsc_k5, qsc_l5, qsc_gf6, qsc_k6, qsc_l6, qsc_gf7, qsc_k7, qsc_l7, qsc_gf9, qsc_k8, qsc_l8, qsc_gf10, qsc_gf0, qsc_pf0, qsc_gf5, qsc_pf5, qsc_gf8, qsc_pf8, qst_kd, qst_gf0, qst_k10, qst_l10, qst_gf1, qst_k29, qst_l29, qst_gf2, qlf_kd, qlf_gf0, qlf_k31, qlf_l31, qlf_gf1, qlf_gf3, qlf_gf4, qlf_gf5, qlf_gf6, qlf_k203, qlf_l203, qlf_gf7, qlf_gf2, qlf_pf2, qlf_gf8, qlf_pf8, wrI_row, cpI_row, row_s, row_n, row_ss, row_sw, upd_s, upd_n, ad_inj, ad_z, ad_z2, Nat.reduceEqDiff, reduceCtorEq, List.cons_append, List.nil_append, Option.toList_some, Option.toList_none, Int.toNat_natCast, List.length_cons, List.length_nil, Int.cast_ofNat_Int, Nat.reduceAdd, Nat.reduceLeDiff, Nat.reduceLT, Nat.reduceMul, Int.reduceAdd, Int.reduceSub, Int.reduceMul, Int.reduceNeg, Int.reduceLT, Int.reduceLE, Int.reduceEq, Int.reduceToNat, eq_self, true_and, and_true, true_or, or_true, false_or, or_false, if_true, if_false, not_true_eq_false, not_false_eq_true, and_self, ne_eq, hLf, hN1, hS, ho1, ho2, wp_gst, wp_iald4 y1, y2, r2, ho3]
        (repeat' (first | apply And.intro | split)) <;> first | omega | exact q
    · have ho2 := fun Q => lk_out (zt := zt) (g := g) (ρ := ρ) (lo := 0) (hi := 3) hw (by omega) (by omega) c2 Q
      rw [if_neg (fun z => c2 z.2.1)] at hQ
      have q := hQ.ro hX
      simp only [m_L_setSound, b_L_setSound_0, P_L_setSound_32, b_L_setSound_32, P_L_setSound_34, b_L_setSound_34, wp_abs, wp_aln0, wp_bipush, wp_copy, wp_cs1, wp_cs2, wp_cs3, wp_cs4, wp_cs5, wp_cs6, wp_cs7, wp_cv1, wp_cv2, wp_cv3, wp_cv4, wp_cv5, wp_cv6, wp_cv7, wp_iadd, wp_iald, wp_iast, wp_iconst, wp_il4, wp_il5, wp_iln1, wp_iln2, wp_iln3, wp_imul, wp_iret, wp_is4, wp_is5, wp_izeq, wp_izne, wp_max, wp_min, wp_nop, wp_zret, qsc_kd, qsc_k1, qsc_l1, qsc_gf1, qsc_k2, qsc_l2, qsc_gf2, qsc_k3, qsc_l3, qsc_gf3, qsc_k4, qsc_l4, qsc_gf4, qsc_k5, qsc_l5, qsc_gf6, qsc_k6, qsc_l6, qsc_gf7, qsc_k7, qsc_l7, qsc_gf9, qsc_k8, qsc_l8, qsc_gf10, qsc_gf0, qsc_pf0, qsc_gf5, qsc_pf5, qsc_gf8, qsc_pf8, qst_kd, qst_gf0, qst_k10, qst_l10, qst_gf1, qst_k29, qst_l29, qst_gf2, qlf_kd, qlf_gf0, qlf_k31, qlf_l31, qlf_gf1, qlf_gf3, qlf_gf4, qlf_gf5, qlf_gf6, qlf_k203, qlf_l203, qlf_gf7, qlf_gf2, qlf_pf2, qlf_gf8, qlf_pf8, wrI_row, cpI_row, row_s, row_n, row_ss, row_sw, upd_s, upd_n, ad_inj, ad_z, ad_z2, Nat.reduceEqDiff, reduceCtorEq, List.cons_append, List.nil_append, Option.toList_some, Option.toList_none, Int.toNat_natCast, List.length_cons, List.length_nil, Int.cast_ofNat_Int, Nat.reduceAdd, Nat.reduceLeDiff, Nat.reduceLT, Nat.reduceMul, Int.reduceAdd, Int.reduceSub, Int.reduceMul, Int.reduceNeg, Int.reduceLT, Int.reduceLE, Int.reduceEq, Int.reduceToNat, eq_self, true_and, and_true, true_or, or_true, false_or, or_false, if_true, if_false, not_true_eq_false, not_false_eq_true, and_self, ne_eq, hLf, hN1, hS, ho1, ho2]
      (repeat' (first | apply And.intro | split)) <;> first | omega | exact q
  · have ho1 := fun Q => lk_out (zt := zt) (g := g) (ρ := ρ) (lo := 0) (hi := 8) hk (by omega) (by omega) c1 Q
    rw [if_neg (fun z => c1 z.1)] at hQ
    have q := hQ.ro hX
    simp only [m_L_setSound, b_L_setSound_0, P_L_setSound_32, b_L_setSound_32, P_L_setSound_34, b_L_setSound_34, wp_abs, wp_aln0, wp_bipush, wp_copy, wp_cs1, wp_cs2, wp_cs3, wp_cs4, wp_cs5, wp_cs6, wp_cs7, wp_cv1, wp_cv2, wp_cv3, wp_cv4, wp_cv5, wp_cv6, wp_cv7, wp_iadd, wp_iald, wp_iast, wp_iconst, wp_il4, wp_il5, wp_iln1, wp_iln2, wp_iln3, wp_imul, wp_iret, wp_is4, wp_is5, wp_izeq, wp_izne, wp_max, wp_min, wp_nop, wp_zret, qsc_kd, qsc_k1, qsc_l1, qsc_gf1, qsc_k2, qsc_l2, qsc_gf2, qsc_k3, qsc_l3, qsc_gf3, qsc_k4, qsc_l4, qsc_gf4, qsc_k5, qsc_l5, qsc_gf6, qsc_k6, qsc_l6, qsc_gf7, qsc_k7, qsc_l7, qsc_gf9, qsc_k8, qsc_l8, qsc_gf10, qsc_gf0, qsc_pf0, qsc_gf5, qsc_pf5, qsc_gf8, qsc_pf8, qst_kd, qst_gf0, qst_k10, qst_l10, qst_gf1, qst_k29, qst_l29, qst_gf2, qlf_kd, qlf_gf0, qlf_k31, qlf_l31, qlf_gf1, qlf_gf3, qlf_gf4, qlf_gf5, qlf_gf6, qlf_k203, qlf_l203, qlf_gf7, qlf_gf2, qlf_pf2, qlf_gf8, qlf_pf8, wrI_row, cpI_row, row_s, row_n, row_ss, row_sw, upd_s, upd_n, ad_inj, ad_z, ad_z2, Nat.reduceEqDiff, reduceCtorEq, List.cons_append, List.nil_append, Option.toList_some, Option.toList_none, Int.toNat_natCast, List.length_cons, List.length_nil, Int.cast_ofNat_Int, Nat.reduceAdd, Nat.reduceLeDiff, Nat.reduceLT, Nat.reduceMul, Int.reduceAdd, Int.reduceSub, Int.reduceMul, Int.reduceNeg, Int.reduceLT, Int.reduceLE, Int.reduceEq, Int.reduceToNat, eq_self, true_and, and_true, true_or, or_true, false_or, or_false, if_true, if_false, not_true_eq_false, not_false_eq_true, and_self, ne_eq, hLf, hN1, hS, ho1]
    (repeat' (first | apply And.intro | split)) <;> first | omega | exact q
def loN (w : Int) : Int := if w = 2 then 0 else 1
def hiN (w : Int) : Int := if w = 0 then 9 else if w = 1 then 3 else if w = 2 then 9 else if w = 3 then 99 else 20
def sSetNumber (w v : Int) (X : XV) : Int × XV := if (0 ≤ w ∧ w ≤ 4) ∧ loN w ≤ v ∧ v ≤ hiN w then (X.1.1 4 w.toNat, actX X (setV X.1.1 4 w.toNat v)) else (-1, X)
theorem sSetNumber_wf {w v : Int} (hW : WFX X) : WFX (sSetNumber w v X).2 := by
  unfold sSetNumber
  split
  next c =>
    refine actX_wf hW (set_wf4 hW.1.1 ?_)
    obtain ⟨c1, c2, c3⟩ := c
    unfold loN at c2
    unfold hiN at c3
    rcases (by omega : w = 0 ∨ w = 1 ∨ w = 2 ∨ w = 3 ∨ w = 4) with rfl | rfl | rfl | rfl | rfl <;> simp at c2 c3 <;> simp <;> omega
  next c => exact hW
theorem c_setNumber (hX : RepC g ρ L h X) (hW : WFX X) (hZ : zrI g ρ zt L) {w v : Int} (hw : i32 w) (hv : i32 v) (hQ : CQ g ρ L (sSetNumber w v X) Q) : WpM zt 52 [AR L, AI w, AI v] (g, ρ) Q := by
  obtain ⟨hLf, hN, -⟩ := id hX.1
  obtain ⟨hR, -⟩ := id hX.2.1
  have hU := hW.1.1
  have hWV := hR.wf (by omega) hU
  have hN1 := hN.1
  have hS := hN.2.1
  have e0 : g (ad (ad L 1) 1) 0 = X.1.1 0 0 := hR.l0
  have e5 : g (ad (ad L 1) 1) 5 = X.1.1 5 0 := hR.l5
  have e8 : g (ad (ad L 1) 1) 8 = X.1.1 8 0 := hR.l8
  have b0 := hU.1
  have b5 := hU.2.2.2.2.1
  have b8 := hU.2.2.2.2.2.2.1
  obtain ⟨hzt, -, -, -, ⟨y1, y2, y3⟩, x1, x2, x3⟩ := id hZ
  unfold sSetNumber at hQ
  by_cases c2 : 0 ≤ w ∧ w ≤ 4
  · have ho2 := fun Q => lk_in (zt := zt) (g := g) (ρ := ρ) (lo := 0) (hi := 4) (by omega) (by omega) c2 Q
    have r3 : g (zt 3) w.toNat = loN w := by
      rw [y3 w.toNat (by show w.toNat < 5; omega)]
      rcases (by omega : w = 0 ∨ w = 1 ∨ w = 2 ∨ w = 3 ∨ w = 4) with rfl | rfl | rfl | rfl | rfl <;> rfl
    have r4 : g (zt 4) w.toNat = hiN w := by
      rw [x3 w.toNat (by show w.toNat < 5; omega)]
      rcases (by omega : w = 0 ∨ w = 1 ∨ w = 2 ∨ w = 3 ∨ w = 4) with rfl | rfl | rfl | rfl | rfl <;> rfl
    have lb : 0 ≤ loN w ∧ loN w ≤ 1 := by
      unfold loN
      split <;> omega
    have hb : 3 ≤ hiN w ∧ hiN w ≤ 99 := by
      unfold hiN
      split
      · omega
      · split
        · omega
        · split
          · omega
          · split <;> omega
    generalize hlo : loN w = lo at *
    generalize hhi : hiN w = hi at *
    by_cases c3 : lo ≤ v ∧ v ≤ hi
    · have ho3 := fun Q => lk_in (zt := zt) (g := g) (ρ := ρ) (lo := lo) (hi := hi) (by omega) (by omega) c3 Q
      rw [if_pos ⟨c2, c3⟩] at hQ
      simp only [m_L_setNumber, b_L_setNumber_0, P_L_setNumber_26, b_L_setNumber_26, P_L_setNumber_28, b_L_setNumber_28, wp_abs, wp_aln0, wp_copy, wp_cs1, wp_cs2, wp_cs3, wp_cs4, wp_cs5, wp_cs6, wp_cs7, wp_cv1, wp_cv2, wp_cv3, wp_cv4, wp_cv5, wp_cv6, wp_cv7, wp_iald, wp_iast, wp_iconst, wp_iln1, wp_iln2, wp_iln3, wp_iret, wp_isn3, wp_izeq, wp_izne, wp_max, wp_min, wp_nop, wp_zret, qsc_kd, qsc_k1, qsc_l1, qsc_gf1, qsc_k2, qsc_l2, qsc_gf2, qsc_k3, qsc_l3, qsc_gf3, qsc_k4, qsc_l4, qsc_gf4, qsc_k5, qsc_l5, qsc_gf6, qsc_k6, qsc_l6, qsc_gf7, qsc_k7, qsc_l7, qsc_gf9, qsc_k8, qsc_l8, qsc_gf10, qsc_gf0, qsc_pf0, qsc_gf5, qsc_pf5, qsc_gf8, qsc_pf8, qst_kd, qst_gf0, qst_k10, qst_l10, qst_gf1, qst_k29, qst_l29, qst_gf2, qlf_kd, qlf_gf0, qlf_k31, qlf_l31, qlf_gf1, qlf_gf3, qlf_gf4, qlf_gf5, qlf_gf6, qlf_k203, qlf_l203, qlf_gf7, qlf_gf2, qlf_pf2, qlf_gf8, qlf_pf8, wrI_row, cpI_row, row_s, row_n, row_ss, row_sw, upd_s, upd_n, ad_inj, ad_z, ad_z2, Nat.reduceEqDiff, reduceCtorEq, List.cons_append, List.nil_append, Option.toList_some, Option.toList_none, Int.toNat_natCast, List.length_cons, List.length_nil, Int.cast_ofNat_Int, Nat.reduceAdd, Nat.reduceLeDiff, Nat.reduceLT, Nat.reduceMul, Int.reduceAdd, Int.reduceSub, Int.reduceMul, Int.reduceNeg, Int.reduceLT, Int.reduceLE, Int.reduceEq, Int.reduceToNat, eq_self, true_and, and_true, true_or, or_true, false_or, or_false, if_true, if_false, not_true_eq_false, not_false_eq_true, and_self, ne_eq, hLf, hN1, hS, ho2, wp_gst, wp_iald4 y1, wp_iald4 x1, y2, x2, r3, r4, ho3]
      (repeat' (first | apply And.intro | split)) <;> first | omega | skip
      refine recordState_ok hX hW (fun g' ρ' h' j1 j2 j3 j4 => ?_)
      have hLf' := j1.1.1
      have hN1' := j1.1.2.1.1
      have hS' := j1.1.2.1.2.1
      have hR' : LR (-99) (vwC g' (ad (ad L 1) 1)) X.1.1 := j1.2.1.1
      have r5 : g' (ad (ad (ad L 1) 1) 4) w.toNat = X.1.1 4 w.toNat := hR'.l4 (by omega)
      have q := hQ (setRow g' (ad (ad (ad L 1) 1) 4) (upd1 (g' (ad (ad (ad L 1) 1) 4)) w.toNat v)) ρ' h' (j1.now hW (lr_set hR' (by omega) (fun k' j' z1 z2 => by rw [vw_p (kk := 4) (by omega) z1, if_neg z2]) (by rw [vw_p (kk := 4) (by omega) (by omega), if_pos ⟨rfl, rfl⟩])) (fun x z => row_n (by unfold ad at *; omega))) (Fr.of j2 j3 j4 (fun x z => row_n (by unfold ad at *; omega)))
      simp only [m_L_setNumber, b_L_setNumber_0, P_L_setNumber_26, b_L_setNumber_26, P_L_setNumber_28, b_L_setNumber_28, wp_abs, wp_aln0, wp_copy, wp_cs1, wp_cs2, wp_cs3, wp_cs4, wp_cs5, wp_cs6, wp_cs7, wp_cv1, wp_cv2, wp_cv3, wp_cv4, wp_cv5, wp_cv6, wp_cv7, wp_iald, wp_iast, wp_iconst, wp_iln1, wp_iln2, wp_iln3, wp_iret, wp_isn3, wp_izeq, wp_izne, wp_max, wp_min, wp_nop, wp_zret, qsc_kd, qsc_k1, qsc_l1, qsc_gf1, qsc_k2, qsc_l2, qsc_gf2, qsc_k3, qsc_l3, qsc_gf3, qsc_k4, qsc_l4, qsc_gf4, qsc_k5, qsc_l5, qsc_gf6, qsc_k6, qsc_l6, qsc_gf7, qsc_k7, qsc_l7, qsc_gf9, qsc_k8, qsc_l8, qsc_gf10, qsc_gf0, qsc_pf0, qsc_gf5, qsc_pf5, qsc_gf8, qsc_pf8, qst_kd, qst_gf0, qst_k10, qst_l10, qst_gf1, qst_k29, qst_l29, qst_gf2, qlf_kd, qlf_gf0, qlf_k31, qlf_l31, qlf_gf1, qlf_gf3, qlf_gf4, qlf_gf5, qlf_gf6, qlf_k203, qlf_l203, qlf_gf7, qlf_gf2, qlf_pf2, qlf_gf8, qlf_pf8, wrI_row, cpI_row, row_s, row_n, row_ss, row_sw, upd_s, upd_n, ad_inj, ad_z, ad_z2, Nat.reduceEqDiff, reduceCtorEq, List.cons_append, List.nil_append, Option.toList_some, Option.toList_none, Int.toNat_natCast, List.length_cons, List.length_nil, Int.cast_ofNat_Int, Nat.reduceAdd, Nat.reduceLeDiff, Nat.reduceLT, Nat.reduceMul, Int.reduceAdd, Int.reduceSub, Int.reduceMul, Int.reduceNeg, Int.reduceLT, Int.reduceLE, Int.reduceEq, Int.reduceToNat, eq_self, true_and, and_true, true_or, or_true, false_or, or_false, if_true, if_false, not_true_eq_false, not_false_eq_true, and_self, ne_eq, hLf', hN1', hS', r5]
      (repeat' (first | apply And.intro | split)) <;> first | omega | exact q
    · have ho3 := fun Q => lk_out (zt := zt) (g := g) (ρ := ρ) (lo := lo) (hi := hi) hv (by omega) (by omega) c3 Q
      rw [if_neg (fun z => c3 z.2)] at hQ
      have q := hQ.ro hX
      simp only [m_L_setNumber, b_L_setNumber_0, P_L_setNumber_26, b_L_setNumber_26, P_L_setNumber_28, b_L_setNumber_28, wp_abs, wp_aln0, wp_copy, wp_cs1, wp_cs2, wp_cs3, wp_cs4, wp_cs5, wp_cs6, wp_cs7, wp_cv1, wp_cv2, wp_cv3, wp_cv4, wp_cv5, wp_cv6, wp_cv7, wp_iald, wp_iast, wp_iconst, wp_iln1, wp_iln2, wp_iln3, wp_iret, wp_isn3, wp_izeq, wp_izne, wp_max, wp_min, wp_nop, wp_zret, qsc_kd, qsc_k1, qsc_l1, qsc_gf1, qsc_k2, qsc_l2, qsc_gf2, qsc_k3, qsc_l3, qsc_gf3, qsc_k4, qsc_l4, qsc_gf4, qsc_k5, qsc_l5, qsc_gf6, qsc_k6, qsc_l6, qsc_gf7, qsc_k7, qsc_l7, qsc_gf9, qsc_k8, qsc_l8, qsc_gf10, qsc_gf0, qsc_pf0, qsc_gf5, qsc_pf5, qsc_gf8, qsc_pf8, qst_kd, qst_gf0, qst_k10, qst_l10, qst_gf1, qst_k29, qst_l29, qst_gf2, qlf_kd, qlf_gf0, qlf_k31, qlf_l31, qlf_gf1, qlf_gf3, qlf_gf4, qlf_gf5, qlf_gf6, qlf_k203, qlf_l203, qlf_gf7, qlf_gf2, qlf_pf2, qlf_gf8, qlf_pf8, wrI_row, cpI_row, row_s, row_n, row_ss, row_sw, upd_s, upd_n, ad_inj, ad_z, ad_z2, Nat.reduceEqDiff, reduceCtorEq, List.cons_append, List.nil_append, Option.toList_some, Option.toList_none, Int.toNat_natCast, List.length_cons, List.length_nil, Int.cast_ofNat_Int, Nat.reduceAdd, Nat.reduceLeDiff, Nat.reduceLT, Nat.reduceMul, Int.reduceAdd, Int.reduceSub, Int.reduceMul, Int.reduceNeg, Int.reduceLT, Int.reduceLE, Int.reduceEq, Int.reduceToNat, eq_self, true_and, and_true, true_or, or_true, false_or, or_false, if_true, if_false, not_true_eq_false, not_false_eq_true, and_self, ne_eq, hLf, hN1, hS, ho2, wp_gst, wp_iald4 y1, wp_iald4 x1, y2, x2, r3, r4, ho3]
      (repeat' (first | apply And.intro | split)) <;> first | omega | exact q
  · have ho2 := fun Q => lk_out (zt := zt) (g := g) (ρ := ρ) (lo := 0) (hi := 4) hw (by omega) (by omega) c2 Q
    rw [if_neg (fun z => c2 z.1)] at hQ
    have q := hQ.ro hX
    simp only [m_L_setNumber, b_L_setNumber_0, P_L_setNumber_26, b_L_setNumber_26, P_L_setNumber_28, b_L_setNumber_28, wp_abs, wp_aln0, wp_copy, wp_cs1, wp_cs2, wp_cs3, wp_cs4, wp_cs5, wp_cs6, wp_cs7, wp_cv1, wp_cv2, wp_cv3, wp_cv4, wp_cv5, wp_cv6, wp_cv7, wp_iald, wp_iast, wp_iconst, wp_iln1, wp_iln2, wp_iln3, wp_iret, wp_isn3, wp_izeq, wp_izne, wp_max, wp_min, wp_nop, wp_zret, qsc_kd, qsc_k1, qsc_l1, qsc_gf1, qsc_k2, qsc_l2, qsc_gf2, qsc_k3, qsc_l3, qsc_gf3, qsc_k4, qsc_l4, qsc_gf4, qsc_k5, qsc_l5, qsc_gf6, qsc_k6, qsc_l6, qsc_gf7, qsc_k7, qsc_l7, qsc_gf9, qsc_k8, qsc_l8, qsc_gf10, qsc_gf0, qsc_pf0, qsc_gf5, qsc_pf5, qsc_gf8, qsc_pf8, qst_kd, qst_gf0, qst_k10, qst_l10, qst_gf1, qst_k29, qst_l29, qst_gf2, qlf_kd, qlf_gf0, qlf_k31, qlf_l31, qlf_gf1, qlf_gf3, qlf_gf4, qlf_gf5, qlf_gf6, qlf_k203, qlf_l203, qlf_gf7, qlf_gf2, qlf_pf2, qlf_gf8, qlf_pf8, wrI_row, cpI_row, row_s, row_n, row_ss, row_sw, upd_s, upd_n, ad_inj, ad_z, ad_z2, Nat.reduceEqDiff, reduceCtorEq, List.cons_append, List.nil_append, Option.toList_some, Option.toList_none, Int.toNat_natCast, List.length_cons, List.length_nil, Int.cast_ofNat_Int, Nat.reduceAdd, Nat.reduceLeDiff, Nat.reduceLT, Nat.reduceMul, Int.reduceAdd, Int.reduceSub, Int.reduceMul, Int.reduceNeg, Int.reduceLT, Int.reduceLE, Int.reduceEq, Int.reduceToNat, eq_self, true_and, and_true, true_or, or_true, false_or, or_false, if_true, if_false, not_true_eq_false, not_false_eq_true, and_self, ne_eq, hLf, hN1, hS, ho2]
    (repeat' (first | apply And.intro | split)) <;> first | omega | exact q
end STS
