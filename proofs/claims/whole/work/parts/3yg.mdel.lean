/-! remove, stretch of the reference -/
def delM (r : Nat → Int) (F0 m F G s : Nat) : Nat → Int := clR (upd1 (pnR r (clR (fun j => r (119 + j)) F0 m F) (clR (fun j => r (218 + j)) F0 m F)) 58 ((G : Int) - 1)) (59 + 2 * s) 2 (59 + 2 * G)
theorem clR_o {r : Nat → Int} {f m t y : Nat} (h : y < f ∨ t ≤ y + m) : clR r f m t y = r y := if_neg (by omega)
theorem clR_i {r : Nat → Int} {f m t y : Nat} (h : f ≤ y) (h2 : y + m < t) : clR r f m t y = r (y + m) := if_pos ⟨h, h2⟩
theorem delM_lr {r : Nat → Int} {U : Vw} (hR : LR (-1) (vwM r) U) (hU : WFV (-1) U) {s m G F0 F : Nat} (hG : (G : Int) = U 5 0) (hF : (F : Int) = U 8 0) (hF0 : (F0 : Int) = sumL U s) (hm : (m : Int) = U 7 s) (hs : s < G) : LR (-1) (vwM (delM r F0 m F G s)) (delV U s) := by
  have hW := delV_wf hU (s := s) (by omega)
  have b0 := hU.1
  have b5 := hU.2.2.2.2.1
  have b8 := hU.2.2.2.2.2.2.1
  have sb := sumL_at2 hU (s := s) (by omega)
  have e0 : (sumL U s).toNat = F0 := by omega
  have e7 : (U 7 s).toNat = m := by omega
  refine lrm_mk hW ?_ ?_ (fun j hj => ?_) (fun j hj => ?_) (fun j hj => ?_) (fun j hj => ?_) (fun j hj => ?_)
  · show delM r F0 m F G s 0 = U 0 0
    unfold delM
    rw [clR_o (by omega), upd_n (by omega), pnR_o (by omega)]
    exact m_0 hR
  · show delM r F0 m F G s 58 = U 5 0 - 1
    unfold delM
    rw [clR_o (by omega), upd_s]
    omega
  · replace hj : (j : Int) < U 0 0 := hj
    show delM r F0 m F G s (1 + 2 * j) = U 1 j ∧ delM r F0 m F G s (2 + 2 * j) = U 2 j
    unfold delM
    rw [clR_o (by omega), upd_n (by omega), pnR_o (by omega), clR_o (by omega), upd_n (by omega), pnR_o (by omega)]
    exact p_1 hR hU hj
  · show delM r F0 m F G s (17 + j) = U 3 j
    unfold delM
    rw [clR_o (by omega), upd_n (by omega), pnR_o (by omega)]
    exact m_sn hR hj
  · show delM r F0 m F G s (53 + j) = U 4 j
    unfold delM
    rw [clR_o (by omega), upd_n (by omega), pnR_o (by omega)]
    exact m_nm hR hj
  · replace hj : (j : Int) < U 5 0 - 1 := hj
    show delM r F0 m F G s (59 + 2 * j) = delR (U 6) s j ∧ delM r F0 m F G s (60 + 2 * j) = delR (U 7) s j
    unfold delM delR
    by_cases c1 : j < s
    · have q := p_6 hR hU (j := j) (by omega)
      rw [if_pos c1, if_pos c1, clR_o (by omega), upd_n (by omega), pnR_o (by omega), clR_o (by omega), upd_n (by omega), pnR_o (by omega)]
      exact q
    · have q := p_6 hR hU (j := j + 1) (by omega)
      rw [if_neg c1, if_neg c1, clR_i (by omega) (by omega), upd_n (by omega), pnR_o (by omega), clR_i (by omega) (by omega), upd_n (by omega), pnR_o (by omega), show 59 + 2 * j + 2 = 59 + 2 * (j + 1) by omega, show 60 + 2 * j + 2 = 60 + 2 * (j + 1) by omega]
      exact q
  · replace hj : (j : Int) < U 8 0 - U 7 s := hj
    show delM r F0 m F G s (119 + j) = clsR (U 9) (sumL U s).toNat (U 7 s).toNat j ∧ delM r F0 m F G s (218 + j) = clsR (U 10) (sumL U s).toNat (U 7 s).toNat j
    unfold delM
    rw [clR_o (y := 119 + j) (by omega), upd_n (by omega), pnR_p (by omega), clR_o (y := 218 + j) (by omega), upd_n (by omega), pnR_d (by omega), clR_v (by omega), clR_v (by omega), e0, e7]
    unfold clsR
    by_cases c1 : j < F0
    · rw [if_pos c1, if_pos c1, if_pos c1, if_pos c1]
      exact p_9 hR hU (by omega)
    · rw [if_neg c1, if_neg c1, if_neg c1, if_neg c1]
      exact p_9 hR hU (by omega)
theorem delM_hi {r : Nat → Int} {s m G F0 F y : Nat} (hG : G ≤ 30) (h : 317 ≤ y) : delM r F0 m F G s y = r y := by
  unfold delM
  rw [clR_o (by omega), upd_n (by omega), pnR_o (by omega)]
def lenA (A : Nat → Int) (F0 l m F : Nat) : Nat → Int := if m < l then clR A (F0 + m) (l - m) F else opM A (F0 + l) (m - l) F
def lenM (r : Nat → Int) (F0 l m F s : Nat) : Nat → Int := upd1 (pnR r (lenA (fun j => r (119 + j)) F0 l m F) (lenA (fun j => r (218 + j)) F0 l m F)) (60 + 2 * s) m
theorem lenA_v {A : Nat → Int} {F0 l m F j : Nat} (hj : j + l < F + m) (hl : F0 + l ≤ F) : lenA A F0 l m F j = if (m : Int) < (l : Int) then clsR A (F0 + m) (l - m) j else opnR A (F0 + l) (m - l) j := by
  unfold lenA
  by_cases c : m < l
  · rw [if_pos c, if_pos (by omega)]
    exact clR_v (by omega)
  · rw [if_neg c, if_neg (by omega)]
    exact opM_v (by omega)
theorem lenM_lr {r : Nat → Int} {U : Vw} (hR : LR (-1) (vwM r) U) (hU : WFV (-1) U) {s l m F0 F : Nat} (hF : (F : Int) = U 8 0) (hF0 : (F0 : Int) = sumL U s) (hl : (l : Int) = U 7 s) (hs : (s : Int) < U 5 0) (hm : 1 ≤ m ∧ m ≤ 20) (hF9 : U 8 0 - U 7 s + m ≤ 99) : LR (-1) (vwM (lenM r F0 l m F s)) (lenV U s m) := by
  have hW := lenV_wf hU (s := s) (m := m) hs hm hF9
  have b0 := hU.1
  have b5 := hU.2.2.2.2.1
  have b8 := hU.2.2.2.2.2.2.1
  have sb := sumL_at2 hU (s := s) (by omega)
  have e0 : (sumL U s).toNat = F0 := by omega
  have e7 : (U 7 s).toNat = l := by omega
  refine lrm_mk hW ?_ ?_ (fun j hj => ?_) (fun j hj => ?_) (fun j hj => ?_) (fun j hj => ?_) (fun j hj => ?_)
  · show lenM r F0 l m F s 0 = U 0 0
    unfold lenM
    rw [upd_n (by omega), pnR_o (by omega)]
    exact m_0 hR
  · show lenM r F0 l m F s 58 = U 5 0
    unfold lenM
    rw [upd_n (by omega), pnR_o (by omega)]
    exact m_5 hR
  · replace hj : (j : Int) < U 0 0 := hj
    show lenM r F0 l m F s (1 + 2 * j) = U 1 j ∧ lenM r F0 l m F s (2 + 2 * j) = U 2 j
    unfold lenM
    rw [upd_n (by omega), pnR_o (by omega), upd_n (by omega), pnR_o (by omega)]
    exact p_1 hR hU hj
  · show lenM r F0 l m F s (17 + j) = U 3 j
    unfold lenM
    rw [upd_n (by omega), pnR_o (by omega)]
    exact m_sn hR hj
  · show lenM r F0 l m F s (53 + j) = U 4 j
    unfold lenM
    rw [upd_n (by omega), pnR_o (by omega)]
    exact m_nm hR hj
  · replace hj : (j : Int) < U 5 0 := hj
    show lenM r F0 l m F s (59 + 2 * j) = U 6 j ∧ lenM r F0 l m F s (60 + 2 * j) = if j = s then (m : Int) else U 7 j
    have q := p_6 hR hU (j := j) (by omega)
    unfold lenM
    rw [upd_n (by omega), pnR_o (by omega)]
    refine ⟨q.1, ?_⟩
    by_cases c : j = s
    · rw [if_pos c, c, upd_s]
    · rw [if_neg c, upd_n (by omega), pnR_o (by omega)]
      exact q.2
  · replace hj : (j : Int) < U 8 0 - U 7 s + m := hj
    have z9 : lenV U s m 9 j = if (m : Int) < U 7 s then clsR (U 9) ((sumL U s).toNat + m) ((U 7 s).toNat - m) j else opnR (U 9) ((sumL U s).toNat + (U 7 s).toNat) (m - (U 7 s).toNat) j := rfl
    have z10 : lenV U s m 10 j = if (m : Int) < U 7 s then clsR (U 10) ((sumL U s).toNat + m) ((U 7 s).toNat - m) j else opnR (U 10) ((sumL U s).toNat + (U 7 s).toNat) (m - (U 7 s).toNat) j := rfl
    rw [z9, z10, e0, e7, ← hl]
    unfold lenM
    rw [upd_n (by omega), pnR_p (by omega), upd_n (by omega), pnR_d (by omega), lenA_v (by omega) (by omega), lenA_v (by omega) (by omega)]
    by_cases c : (m : Int) < (l : Int)
    · rw [if_pos c, if_pos c, if_pos c, if_pos c]
      unfold clsR
      by_cases c1 : j < F0 + m
      · rw [if_pos c1, if_pos c1, if_pos c1, if_pos c1]
        exact p_9 hR hU (by omega)
      · rw [if_neg c1, if_neg c1, if_neg c1, if_neg c1]
        exact p_9 hR hU (by omega)
    · rw [if_neg c, if_neg c, if_neg c, if_neg c]
      unfold opnR
      by_cases c1 : j < F0 + l
      · rw [if_pos c1, if_pos c1, if_pos c1, if_pos c1]
        exact p_9 hR hU (by omega)
      · rw [if_neg c1, if_neg c1, if_neg c1, if_neg c1]
        by_cases c2 : j < F0 + l + (m - l)
        · rw [if_pos c2, if_pos c2, if_pos c2, if_pos c2]
          exact ⟨rfl, rfl⟩
        · rw [if_neg c2, if_neg c2, if_neg c2, if_neg c2]
          exact p_9 hR hU (by omega)
theorem lenM_hi {r : Nat → Int} {s l m F0 F y : Nat} (hs : s < 30) (h : 317 ≤ y) : lenM r F0 l m F s y = r y := by
  unfold lenM
  rw [upd_n (by omega), pnR_o (by omega)]
section MDL
variable {zt : Nat → Nat} {g : Nat → Nat → Int} {ρ : Ri} {M : Nat} {X : XV} {Q : Option AV → Sto → Prop}
theorem remove_loop (hM : isMd ρ M) {s G : Nat} {R2 : Nat → Int} (h58 : R2 58 = (G : Int) - 1) (hs : s < G) (hG : G ≤ 30) (hQ : ∀ o : Option AV, Wp zt 116 (P 116 89) [some (AR M), some (AI s), o] [] (setRow g (ad M 1) (clR R2 (59 + 2 * s) 2 (59 + 2 * G)), ρ) Q) :
    ∀ (d k : Nat), k + 2 + d = 59 + 2 * G → 59 + 2 * s ≤ k → Wp zt 116 (P 116 53) [some (AR M), some (AI s), some (AI k)] [] (setRow g (ad M 1) (clR R2 (59 + 2 * s) 2 (k + 2)), ρ) Q := by
  have f58 : ∀ t, clR R2 (59 + 2 * s) 2 t 58 = (G : Int) - 1 := fun t => by rw [clR_o (by omega), h58]
  intro d
  induction d with
  | zero =>
    intro k h1 h2
    have q := hQ (some (AI (k : Int)))
    rw [show 59 + 2 * G = k + 2 by omega] at q
    rw [P_M_remove_53]
    simp only [m_M_remove, b_M_remove_0, P_M_remove_10, b_M_remove_10, wp_abs, wp_aln0, wp_bipush, wp_copy, wp_cs1, wp_cs2, wp_cs3, wp_cs4, wp_cs5, wp_cs6, wp_cs7, wp_cv1, wp_cv2, wp_cv3, wp_cv4, wp_cv5, wp_cv6, wp_cv7, wp_dup2, wp_goto, wp_iadd, wp_iald, wp_iast, wp_icge, wp_iconst, wp_iln1, wp_iln2, wp_imul, wp_inc2, wp_iret, wp_isn2, wp_isub, wp_izne, wp_max, wp_min, wp_nop, wp_zret, qmd_kd, qmd_k1, qmd_l1, qmd_gf0, qmd_k2, qmd_l2, qmd_gf1, qmd_k3, qmd_l3, qmd_gf2, qmd_k4, qmd_l4, qmd_gf4, qmd_k5, qmd_l5, qmd_gf6, qmd_k6, qmd_l6, qmd_gf7, qmd_k7, qmd_l7, qmd_gf10, qmd_k8, qmd_l8, qmd_gf11, qmd_k9, qmd_l9, qmd_gf12, qmd_gf3, qmd_pf3, qmd_gf5, qmd_pf5, qmd_gf8, qmd_pf8, qmd_gf9, qmd_pf9, wrI_row, cpI_row, row_s, row_n, row_ss, row_sw, upd_s, upd_n, ad_inj, ad_z, ad_z2, Nat.reduceEqDiff, reduceCtorEq, List.cons_append, List.nil_append, Option.toList_some, Option.toList_none, Int.toNat_natCast, List.length_cons, List.length_nil, Int.cast_ofNat_Int, Nat.reduceAdd, Nat.reduceLeDiff, Nat.reduceLT, Nat.reduceMul, Int.reduceAdd, Int.reduceSub, Int.reduceMul, Int.reduceNeg, Int.reduceLT, Int.reduceLE, Int.reduceEq, Int.reduceToNat, eq_self, true_and, and_true, true_or, or_true, false_or, or_false, if_true, if_false, not_true_eq_false, not_false_eq_true, and_self, ne_eq, b_M_remove_53, hM, f58]
    (repeat' (first | apply And.intro | split)) <;> first | omega | exact q
  | succ d ih =>
    intro k h1 h2
    have i1 := ih (k + 1) (by omega) (by omega)
    rw [show k + 1 + 2 = k + 2 + 1 by omega, ← clR_st (show 59 + 2 * s + 2 ≤ k + 2 by omega), show k + 2 - 2 = k by omega] at i1
    have e2 : ((k : Int) + 2).toNat = k + 2 := by omega
    rw [P_M_remove_53]
    simp only [m_M_remove, b_M_remove_0, P_M_remove_10, b_M_remove_10, wp_abs, wp_aln0, wp_bipush, wp_copy, wp_cs1, wp_cs2, wp_cs3, wp_cs4, wp_cs5, wp_cs6, wp_cs7, wp_cv1, wp_cv2, wp_cv3, wp_cv4, wp_cv5, wp_cv6, wp_cv7, wp_dup2, wp_goto, wp_iadd, wp_iald, wp_iast, wp_icge, wp_iconst, wp_iln1, wp_iln2, wp_imul, wp_inc2, wp_iret, wp_isn2, wp_isub, wp_izne, wp_max, wp_min, wp_nop, wp_zret, qmd_kd, qmd_k1, qmd_l1, qmd_gf0, qmd_k2, qmd_l2, qmd_gf1, qmd_k3, qmd_l3, qmd_gf2, qmd_k4, qmd_l4, qmd_gf4, qmd_k5, qmd_l5, qmd_gf6, qmd_k6, qmd_l6, qmd_gf7, qmd_k7, qmd_l7, qmd_gf10, qmd_k8, qmd_l8, qmd_gf11, qmd_k9, qmd_l9, qmd_gf12, qmd_gf3, qmd_pf3, qmd_gf5, qmd_pf5, qmd_gf8, qmd_pf8, qmd_gf9, qmd_pf9, wrI_row, cpI_row, row_s, row_n, row_ss, row_sw, upd_s, upd_n, ad_inj, ad_z, ad_z2, Nat.reduceEqDiff, reduceCtorEq, List.cons_append, List.nil_append, Option.toList_some, Option.toList_none, Int.toNat_natCast, List.length_cons, List.length_nil, Int.cast_ofNat_Int, Nat.reduceAdd, Nat.reduceLeDiff, Nat.reduceLT, Nat.reduceMul, Int.reduceAdd, Int.reduceSub, Int.reduceMul, Int.reduceNeg, Int.reduceLT, Int.reduceLE, Int.reduceEq, Int.reduceToNat, eq_self, true_and, and_true, true_or, or_true, false_or, or_false, if_true, if_false, not_true_eq_false, not_false_eq_true, and_self, ne_eq, b_M_remove_53, hM, f58, e2]
    (repeat' (first | apply And.intro | split)) <;> first | omega | exact i1
theorem d_remove (hX : RepM g ρ M X) (hW : WFX X) {s : Int} (hs : i32 s) (hQ : MdQ g ρ M (sRemove s X) Q) : WpM zt 116 [AR M, AI s] (g, ρ) Q := by
  obtain ⟨hM, hS, -⟩ := id hX
  have hR := hS.1
  have hU := hW.1.1
  have e0 := m_0 hR
  have e5 := m_5 hR
  have b0 := hU.1
  have b5 := hU.2.2.2.2.1
  have b8 := hU.2.2.2.2.2.2.1
  unfold sRemove at hQ
  have h1 := isSegment_ok (zt := zt) hM hR hU hs
  by_cases c1 : 0 ≤ s ∧ s < X.1.1 5 0
  · rw [b2_t c1] at h1
    rw [if_pos c1] at hQ
    obtain ⟨S, rfl⟩ := Int.eq_ofNat_of_zero_le c1.1
    rw [Int.toNat_natCast] at hQ
    simp only [m_M_remove, b_M_remove_0, P_M_remove_10, b_M_remove_10, wp_abs, wp_aln0, wp_bipush, wp_copy, wp_cs1, wp_cs2, wp_cs3, wp_cs4, wp_cs5, wp_cs6, wp_cs7, wp_cv1, wp_cv2, wp_cv3, wp_cv4, wp_cv5, wp_cv6, wp_cv7, wp_dup2, wp_goto, wp_iadd, wp_iald, wp_iast, wp_icge, wp_iconst, wp_iln1, wp_iln2, wp_imul, wp_inc2, wp_iret, wp_isn2, wp_isub, wp_izne, wp_max, wp_min, wp_nop, wp_zret, qmd_kd, qmd_k1, qmd_l1, qmd_gf0, qmd_k2, qmd_l2, qmd_gf1, qmd_k3, qmd_l3, qmd_gf2, qmd_k4, qmd_l4, qmd_gf4, qmd_k5, qmd_l5, qmd_gf6, qmd_k6, qmd_l6, qmd_gf7, qmd_k7, qmd_l7, qmd_gf10, qmd_k8, qmd_l8, qmd_gf11, qmd_k9, qmd_l9, qmd_gf12, qmd_gf3, qmd_pf3, qmd_gf5, qmd_pf5, qmd_gf8, qmd_pf8, qmd_gf9, qmd_pf9, wrI_row, cpI_row, row_s, row_n, row_ss, row_sw, upd_s, upd_n, ad_inj, ad_z, ad_z2, Nat.reduceEqDiff, reduceCtorEq, List.cons_append, List.nil_append, Option.toList_some, Option.toList_none, Int.toNat_natCast, List.length_cons, List.length_nil, Int.cast_ofNat_Int, Nat.reduceAdd, Nat.reduceLeDiff, Nat.reduceLT, Nat.reduceMul, Int.reduceAdd, Int.reduceSub, Int.reduceMul, Int.reduceNeg, Int.reduceLT, Int.reduceLE, Int.reduceEq, Int.reduceToNat, eq_self, true_and, and_true, true_or, or_true, false_or, or_false, if_true, if_false, not_true_eq_false, not_false_eq_true, and_self, ne_eq, hM, h1]
    refine keep_ok hX hW (fun g' j1 j2 j3 => ?_)
    have hM' := j1.1
    have hR' : LR (-1) (vwM (g' (ad M 1))) X.1.1 := j1.2.1.1
    have sb := sumL_at2 hU (s := S) c1.2
    have bl := (hU.2.2.2.2.2.1 S c1.2).2
    obtain ⟨G, hG⟩ := Int.eq_ofNat_of_zero_le b5.1
    obtain ⟨F, hF⟩ := Int.eq_ofNat_of_zero_le b8.1
    obtain ⟨F0, hF0⟩ := Int.eq_ofNat_of_zero_le sb.1
    obtain ⟨l, hl⟩ := Int.eq_ofNat_of_zero_le (show 0 ≤ X.1.1 7 S by omega)
    have f1 := firstOf_ok (zt := zt) hM' hR' hU (s := (S : Int)) (by omega) (by omega)
    have f2 := framesOf_ok (zt := zt) hM' hR' hU (s := (S : Int)) (by omega) c1.2
    have f3 := frames_ok (zt := zt) hM' hR' hU
    rw [Int.toNat_natCast] at f1 f2
    have cl := fun Q => closes_ok (zt := zt) (g := g') (qmd_k1 hM) (qmd_l1 hM) (f := F0) (m := l) (F := F) (f' := sumL X.1.1 S) (m' := X.1.1 7 S) (F' := X.1.1 8 0) (by omega) (by omega) hF0 hl hF Q
    have f58 : pnR (g' (ad M 1)) (clR (fun j => g' (ad M 1) (119 + j)) F0 l F) (clR (fun j => g' (ad M 1) (218 + j)) F0 l F) 58 = (G : Int) := by
      rw [pnR_o (by omega), m_5 hR', hG]
    have hl2 := delM_lr hR' hU (s := S) hG.symm hF.symm hF0.symm hl.symm (by omega)
    have hW1 := delV_wf hU (s := S) c1.2
    have q := hQ (setRow g' (ad M 1) (delM (g' (ad M 1)) F0 l F G S)) (j1.pg hW hl2 (fun y z1 z2 => delM_hi (by omega) z1)) (pg_fr j2)
    have hfr := frames_ok (zt := zt) (g := setRow g' (ad M 1) (delM (g' (ad M 1)) F0 l F G S)) hM' (by rw [row_s]; exact hl2) hW1
    have e8' : delV X.1.1 S 8 0 = X.1.1 8 0 - X.1.1 7 S := rfl
    rw [e8'] at hfr
    unfold delM at q hfr
    have k1 := remove_loop (zt := zt) (g := g') hM' (s := S) (G := G) (R2 := upd1 (pnR (g' (ad M 1)) (clR (fun j => g' (ad M 1) (119 + j)) F0 l F) (clR (fun j => g' (ad M 1) (218 + j)) F0 l F)) 58 ((G : Int) - 1)) (Q := Q) upd_s (by omega) (by omega) (fun o => by
      rw [P_M_remove_89]
      simp only [m_M_remove, b_M_remove_0, P_M_remove_10, b_M_remove_10, wp_abs, wp_aln0, wp_bipush, wp_copy, wp_cs1, wp_cs2, wp_cs3, wp_cs4, wp_cs5, wp_cs6, wp_cs7, wp_cv1, wp_cv2, wp_cv3, wp_cv4, wp_cv5, wp_cv6, wp_cv7, wp_dup2, wp_goto, wp_iadd, wp_iald, wp_iast, wp_icge, wp_iconst, wp_iln1, wp_iln2, wp_imul, wp_inc2, wp_iret, wp_isn2, wp_isub, wp_izne, wp_max, wp_min, wp_nop, wp_zret, qmd_kd, qmd_k1, qmd_l1, qmd_gf0, qmd_k2, qmd_l2, qmd_gf1, qmd_k3, qmd_l3, qmd_gf2, qmd_k4, qmd_l4, qmd_gf4, qmd_k5, qmd_l5, qmd_gf6, qmd_k6, qmd_l6, qmd_gf7, qmd_k7, qmd_l7, qmd_gf10, qmd_k8, qmd_l8, qmd_gf11, qmd_k9, qmd_l9, qmd_gf12, qmd_gf3, qmd_pf3, qmd_gf5, qmd_pf5, qmd_gf8, qmd_pf8, qmd_gf9, qmd_pf9, wrI_row, cpI_row, row_s, row_n, row_ss, row_sw, upd_s, upd_n, ad_inj, ad_z, ad_z2, Nat.reduceEqDiff, reduceCtorEq, List.cons_append, List.nil_append, Option.toList_some, Option.toList_none, Int.toNat_natCast, List.length_cons, List.length_nil, Int.cast_ofNat_Int, Nat.reduceAdd, Nat.reduceLeDiff, Nat.reduceLT, Nat.reduceMul, Int.reduceAdd, Int.reduceSub, Int.reduceMul, Int.reduceNeg, Int.reduceLT, Int.reduceLE, Int.reduceEq, Int.reduceToNat, eq_self, true_and, and_true, true_or, or_true, false_or, or_false, if_true, if_false, not_true_eq_false, not_false_eq_true, and_self, ne_eq, b_M_remove_89, hM', hfr]
      exact q) (2 * G - 2 * S - 2) (59 + 2 * S) (by omega) (Nat.le_refl _)
    rw [clR_0] at k1
    rw [show ((59 + 2 * S : Nat) : Int) = 59 + 2 * (S : Int) by omega] at k1
    simp only [m_M_remove, b_M_remove_0, P_M_remove_10, b_M_remove_10, wp_abs, wp_aln0, wp_bipush, wp_copy, wp_cs1, wp_cs2, wp_cs3, wp_cs4, wp_cs5, wp_cs6, wp_cs7, wp_cv1, wp_cv2, wp_cv3, wp_cv4, wp_cv5, wp_cv6, wp_cv7, wp_dup2, wp_goto, wp_iadd, wp_iald, wp_iast, wp_icge, wp_iconst, wp_iln1, wp_iln2, wp_imul, wp_inc2, wp_iret, wp_isn2, wp_isub, wp_izne, wp_max, wp_min, wp_nop, wp_zret, qmd_kd, qmd_k1, qmd_l1, qmd_gf0, qmd_k2, qmd_l2, qmd_gf1, qmd_k3, qmd_l3, qmd_gf2, qmd_k4, qmd_l4, qmd_gf4, qmd_k5, qmd_l5, qmd_gf6, qmd_k6, qmd_l6, qmd_gf7, qmd_k7, qmd_l7, qmd_gf10, qmd_k8, qmd_l8, qmd_gf11, qmd_k9, qmd_l9, qmd_gf12, qmd_gf3, qmd_pf3, qmd_gf5, qmd_pf5, qmd_gf8, qmd_pf8, qmd_gf9, qmd_pf9, wrI_row, cpI_row, row_s, row_n, row_ss, row_sw, upd_s, upd_n, ad_inj, ad_z, ad_z2, Nat.reduceEqDiff, reduceCtorEq, List.cons_append, List.nil_append, Option.toList_some, Option.toList_none, Int.toNat_natCast, List.length_cons, List.length_nil, Int.cast_ofNat_Int, Nat.reduceAdd, Nat.reduceLeDiff, Nat.reduceLT, Nat.reduceMul, Int.reduceAdd, Int.reduceSub, Int.reduceMul, Int.reduceNeg, Int.reduceLT, Int.reduceLE, Int.reduceEq, Int.reduceToNat, eq_self, true_and, and_true, true_or, or_true, false_or, or_false, if_true, if_false, not_true_eq_false, not_false_eq_true, and_self, ne_eq, hM', f1, f2, f3, cl, f58, wp_dup2]
    (repeat' (first | apply And.intro | split)) <;> first | omega | exact k1
  · rw [b2_f c1] at h1
    rw [if_neg c1] at hQ
    have q := hQ.ro hX
    simp only [m_M_remove, b_M_remove_0, P_M_remove_10, b_M_remove_10, wp_abs, wp_aln0, wp_bipush, wp_copy, wp_cs1, wp_cs2, wp_cs3, wp_cs4, wp_cs5, wp_cs6, wp_cs7, wp_cv1, wp_cv2, wp_cv3, wp_cv4, wp_cv5, wp_cv6, wp_cv7, wp_dup2, wp_goto, wp_iadd, wp_iald, wp_iast, wp_icge, wp_iconst, wp_iln1, wp_iln2, wp_imul, wp_inc2, wp_iret, wp_isn2, wp_isub, wp_izne, wp_max, wp_min, wp_nop, wp_zret, qmd_kd, qmd_k1, qmd_l1, qmd_gf0, qmd_k2, qmd_l2, qmd_gf1, qmd_k3, qmd_l3, qmd_gf2, qmd_k4, qmd_l4, qmd_gf4, qmd_k5, qmd_l5, qmd_gf6, qmd_k6, qmd_l6, qmd_gf7, qmd_k7, qmd_l7, qmd_gf10, qmd_k8, qmd_l8, qmd_gf11, qmd_k9, qmd_l9, qmd_gf12, qmd_gf3, qmd_pf3, qmd_gf5, qmd_pf5, qmd_gf8, qmd_pf8, qmd_gf9, qmd_pf9, wrI_row, cpI_row, row_s, row_n, row_ss, row_sw, upd_s, upd_n, ad_inj, ad_z, ad_z2, Nat.reduceEqDiff, reduceCtorEq, List.cons_append, List.nil_append, Option.toList_some, Option.toList_none, Int.toNat_natCast, List.length_cons, List.length_nil, Int.cast_ofNat_Int, Nat.reduceAdd, Nat.reduceLeDiff, Nat.reduceLT, Nat.reduceMul, Int.reduceAdd, Int.reduceSub, Int.reduceMul, Int.reduceNeg, Int.reduceLT, Int.reduceLE, Int.reduceEq, Int.reduceToNat, eq_self, true_and, and_true, true_or, or_true, false_or, or_false, if_true, if_false, not_true_eq_false, not_false_eq_true, and_self, ne_eq, hM, h1]
    (repeat' (first | apply And.intro | split)) <;> first | omega | exact q
theorem d_stretch (hX : RepM g ρ M X) (hW : WFX X) {s m : Int} (hs : i32 s) (hm : i32 m) (hQ : MdQ g ρ M (sStretch s m X) Q) : WpM zt 117 [AR M, AI s, AI m] (g, ρ) Q := by
  obtain ⟨hM, hS, -⟩ := id hX
  have hR := hS.1
  have hU := hW.1.1
  have e0 := m_0 hR
  have e5 := m_5 hR
  have b0 := hU.1
  have b5 := hU.2.2.2.2.1
  have b8 := hU.2.2.2.2.2.2.1
  unfold sStretch at hQ
  have h1 := isSegment_ok (zt := zt) hM hR hU hs
  by_cases c1 : 0 ≤ s ∧ s < X.1.1 5 0
  · rw [b2_t c1] at h1
    by_cases c2 : 1 ≤ m ∧ m ≤ 20
    · have ho := fun Q => in_t (zt := zt) (g := g) (ρ := ρ) (lo := 1) (hi := 20) (by omega) (by omega) c2 Q
      rw [if_pos ⟨c1, c2⟩] at hQ
      obtain ⟨S, rfl⟩ := Int.eq_ofNat_of_zero_le c1.1
      obtain ⟨T, rfl⟩ := Int.eq_ofNat_of_zero_le (show 0 ≤ m by omega)
      rw [Int.toNat_natCast, Int.toNat_natCast] at hQ
      have sb := sumL_at2 hU (s := S) c1.2
      have bl := (hU.2.2.2.2.2.1 S c1.2).2
      have f2 := framesOf_ok (zt := zt) hM hR hU (s := (S : Int)) (by omega) c1.2
      have f3 := frames_ok (zt := zt) hM hR hU
      rw [Int.toNat_natCast] at f2
      by_cases c3 : X.1.1 8 0 - X.1.1 7 S + T ≤ 99
      · rw [if_pos c3] at hQ
        simp only [m_M_stretch, b_M_stretch_0, P_M_stretch_18, b_M_stretch_18, P_M_stretch_20, b_M_stretch_20, P_M_stretch_42, b_M_stretch_42, P_M_stretch_79, b_M_stretch_79, wp_abs, wp_aln0, wp_bipush, wp_copy, wp_cs1, wp_cs2, wp_cs3, wp_cs4, wp_cs5, wp_cs6, wp_cs7, wp_cv1, wp_cv2, wp_cv3, wp_cv4, wp_cv5, wp_cv6, wp_cv7, wp_goto, wp_iadd, wp_iast, wp_icge, wp_icle, wp_iconst, wp_il4, wp_iln1, wp_iln2, wp_iln3, wp_imul, wp_iret, wp_is4, wp_isn3, wp_isub, wp_izeq, wp_izne, wp_max, wp_min, wp_nop, wp_zret, qmd_kd, qmd_k1, qmd_l1, qmd_gf0, qmd_k2, qmd_l2, qmd_gf1, qmd_k3, qmd_l3, qmd_gf2, qmd_k4, qmd_l4, qmd_gf4, qmd_k5, qmd_l5, qmd_gf6, qmd_k6, qmd_l6, qmd_gf7, qmd_k7, qmd_l7, qmd_gf10, qmd_k8, qmd_l8, qmd_gf11, qmd_k9, qmd_l9, qmd_gf12, qmd_gf3, qmd_pf3, qmd_gf5, qmd_pf5, qmd_gf8, qmd_pf8, qmd_gf9, qmd_pf9, wrI_row, cpI_row, row_s, row_n, row_ss, row_sw, upd_s, upd_n, ad_inj, ad_z, ad_z2, Nat.reduceEqDiff, reduceCtorEq, List.cons_append, List.nil_append, Option.toList_some, Option.toList_none, Int.toNat_natCast, List.length_cons, List.length_nil, Int.cast_ofNat_Int, Nat.reduceAdd, Nat.reduceLeDiff, Nat.reduceLT, Nat.reduceMul, Int.reduceAdd, Int.reduceSub, Int.reduceMul, Int.reduceNeg, Int.reduceLT, Int.reduceLE, Int.reduceEq, Int.reduceToNat, eq_self, true_and, and_true, true_or, or_true, false_or, or_false, if_true, if_false, not_true_eq_false, not_false_eq_true, and_self, ne_eq, hM, h1, ho, f2, f3]
        (repeat' (first | apply And.intro | split)) <;> first | omega | skip
        refine keep_ok hX hW (fun g' j1 j2 j3 => ?_)
        have hM' := j1.1
        have hR' : LR (-1) (vwM (g' (ad M 1))) X.1.1 := j1.2.1.1
        obtain ⟨F, hF⟩ := Int.eq_ofNat_of_zero_le b8.1
        obtain ⟨F0, hF0⟩ := Int.eq_ofNat_of_zero_le sb.1
        obtain ⟨l, hl⟩ := Int.eq_ofNat_of_zero_le (show 0 ≤ X.1.1 7 S by omega)
        have f1' := firstOf_ok (zt := zt) hM' hR' hU (s := (S : Int)) (by omega) (by omega)
        have f3' := frames_ok (zt := zt) hM' hR' hU
        rw [Int.toNat_natCast] at f1'
        have hl2 := lenM_lr hR' hU (s := S) (m := T) hF.symm hF0.symm hl.symm c1.2 (by omega) c3
        have q := hQ (setRow g' (ad M 1) (lenM (g' (ad M 1)) F0 l T F S)) (j1.pg hW hl2 (fun y z1 z2 => lenM_hi (by omega) z1)) (pg_fr j2)
        unfold lenM lenA at q
        have i2 : (59 + 2 * (S : Int) + 1).toNat = 60 + 2 * S := by omega
        by_cases c4 : T < l
        · rw [if_pos c4, if_pos c4] at q
          have cl := fun Q => closes_ok (zt := zt) (g := g') (qmd_k1 hM) (qmd_l1 hM) (f := F0 + T) (m := l - T) (F := F) (f' := sumL X.1.1 S + T) (m' := X.1.1 7 S - T) (F' := X.1.1 8 0) (by omega) (by omega) (by omega) (by omega) hF Q
          have c4' : ¬ X.1.1 7 S ≤ (T : Int) := by omega
          simp only [m_M_stretch, b_M_stretch_0, P_M_stretch_18, b_M_stretch_18, P_M_stretch_20, b_M_stretch_20, P_M_stretch_42, b_M_stretch_42, P_M_stretch_79, b_M_stretch_79, P_M_stretch_97, b_M_stretch_97, wp_abs, wp_aln0, wp_bipush, wp_copy, wp_cs1, wp_cs2, wp_cs3, wp_cs4, wp_cs5, wp_cs6, wp_cs7, wp_cv1, wp_cv2, wp_cv3, wp_cv4, wp_cv5, wp_cv6, wp_cv7, wp_goto, wp_iadd, wp_iast, wp_icge, wp_icle, wp_iconst, wp_il4, wp_iln1, wp_iln2, wp_iln3, wp_imul, wp_iret, wp_is4, wp_isn3, wp_isub, wp_izeq, wp_izne, wp_max, wp_min, wp_nop, wp_zret, qmd_kd, qmd_k1, qmd_l1, qmd_gf0, qmd_k2, qmd_l2, qmd_gf1, qmd_k3, qmd_l3, qmd_gf2, qmd_k4, qmd_l4, qmd_gf4, qmd_k5, qmd_l5, qmd_gf6, qmd_k6, qmd_l6, qmd_gf7, qmd_k7, qmd_l7, qmd_gf10, qmd_k8, qmd_l8, qmd_gf11, qmd_k9, qmd_l9, qmd_gf12, qmd_gf3, qmd_pf3, qmd_gf5, qmd_pf5, qmd_gf8, qmd_pf8, qmd_gf9, qmd_pf9, wrI_row, cpI_row, row_s, row_n, row_ss, row_sw, upd_s, upd_n, ad_inj, ad_z, ad_z2, Nat.reduceEqDiff, reduceCtorEq, List.cons_append, List.nil_append, Option.toList_some, Option.toList_none, Int.toNat_natCast, List.length_cons, List.length_nil, Int.cast_ofNat_Int, Nat.reduceAdd, Nat.reduceLeDiff, Nat.reduceLT, Nat.reduceMul, Int.reduceAdd, Int.reduceSub, Int.reduceMul, Int.reduceNeg, Int.reduceLT, Int.reduceLE, Int.reduceEq, Int.reduceToNat, eq_self, true_and, and_true, true_or, or_true, false_or, or_false, if_true, if_false, not_true_eq_false, not_false_eq_true, and_self, ne_eq, hM', f1', f3', cl, c4', i2]
          (repeat' (first | apply And.intro | split)) <;> first | omega | exact q
        · rw [if_neg c4, if_neg c4] at q
          have op := fun Q => opens_ok (zt := zt) (g := g') (qmd_k1 hM) (qmd_l1 hM) (f := F0 + l) (m := T - l) (F := F) (f' := sumL X.1.1 S + X.1.1 7 S) (m' := T - X.1.1 7 S) (F' := X.1.1 8 0) (by omega) (by omega) (by omega) (by omega) hF Q
          have c4' : X.1.1 7 S ≤ (T : Int) := by omega
          simp only [m_M_stretch, b_M_stretch_0, P_M_stretch_18, b_M_stretch_18, P_M_stretch_20, b_M_stretch_20, P_M_stretch_42, b_M_stretch_42, P_M_stretch_79, b_M_stretch_79, P_M_stretch_97, b_M_stretch_97, wp_abs, wp_aln0, wp_bipush, wp_copy, wp_cs1, wp_cs2, wp_cs3, wp_cs4, wp_cs5, wp_cs6, wp_cs7, wp_cv1, wp_cv2, wp_cv3, wp_cv4, wp_cv5, wp_cv6, wp_cv7, wp_goto, wp_iadd, wp_iast, wp_icge, wp_icle, wp_iconst, wp_il4, wp_iln1, wp_iln2, wp_iln3, wp_imul, wp_iret, wp_is4, wp_isn3, wp_isub, wp_izeq, wp_izne, wp_max, wp_min, wp_nop, wp_zret, qmd_kd, qmd_k1, qmd_l1, qmd_gf0, qmd_k2, qmd_l2, qmd_gf1, qmd_k3, qmd_l3, qmd_gf2, qmd_k4, qmd_l4, qmd_gf4, qmd_k5, qmd_l5, qmd_gf6, qmd_k6, qmd_l6, qmd_gf7, qmd_k7, qmd_l7, qmd_gf10, qmd_k8, qmd_l8, qmd_gf11, qmd_k9, qmd_l9, qmd_gf12, qmd_gf3, qmd_pf3, qmd_gf5, qmd_pf5, qmd_gf8, qmd_pf8, qmd_gf9, qmd_pf9, wrI_row, cpI_row, row_s, row_n, row_ss, row_sw, upd_s, upd_n, ad_inj, ad_z, ad_z2, Nat.reduceEqDiff, reduceCtorEq, List.cons_append, List.nil_append, Option.toList_some, Option.toList_none, Int.toNat_natCast, List.length_cons, List.length_nil, Int.cast_ofNat_Int, Nat.reduceAdd, Nat.reduceLeDiff, Nat.reduceLT, Nat.reduceMul, Int.reduceAdd, Int.reduceSub, Int.reduceMul, Int.reduceNeg, Int.reduceLT, Int.reduceLE, Int.reduceEq, Int.reduceToNat, eq_self, true_and, and_true, true_or, or_true, false_or, or_false, if_true, if_false, not_true_eq_false, not_false_eq_true, and_self, ne_eq, hM', f1', f3', op, c4', i2]
          (repeat' (first | apply And.intro | split)) <;> first | omega | exact q
      · rw [if_neg c3] at hQ
        have q := hQ.ro hX
        simp only [m_M_stretch, b_M_stretch_0, P_M_stretch_18, b_M_stretch_18, P_M_stretch_20, b_M_stretch_20, P_M_stretch_42, b_M_stretch_42, P_M_stretch_79, b_M_stretch_79, P_M_stretch_97, b_M_stretch_97, wp_abs, wp_aln0, wp_bipush, wp_copy, wp_cs1, wp_cs2, wp_cs3, wp_cs4, wp_cs5, wp_cs6, wp_cs7, wp_cv1, wp_cv2, wp_cv3, wp_cv4, wp_cv5, wp_cv6, wp_cv7, wp_goto, wp_iadd, wp_iast, wp_icge, wp_icle, wp_iconst, wp_il4, wp_iln1, wp_iln2, wp_iln3, wp_imul, wp_iret, wp_is4, wp_isn3, wp_isub, wp_izeq, wp_izne, wp_max, wp_min, wp_nop, wp_zret, qmd_kd, qmd_k1, qmd_l1, qmd_gf0, qmd_k2, qmd_l2, qmd_gf1, qmd_k3, qmd_l3, qmd_gf2, qmd_k4, qmd_l4, qmd_gf4, qmd_k5, qmd_l5, qmd_gf6, qmd_k6, qmd_l6, qmd_gf7, qmd_k7, qmd_l7, qmd_gf10, qmd_k8, qmd_l8, qmd_gf11, qmd_k9, qmd_l9, qmd_gf12, qmd_gf3, qmd_pf3, qmd_gf5, qmd_pf5, qmd_gf8, qmd_pf8, qmd_gf9, qmd_pf9, wrI_row, cpI_row, row_s, row_n, row_ss, row_sw, upd_s, upd_n, ad_inj, ad_z, ad_z2, Nat.reduceEqDiff, reduceCtorEq, List.cons_append, List.nil_append, Option.toList_some, Option.toList_none, Int.toNat_natCast, List.length_cons, List.length_nil, Int.cast_ofNat_Int, Nat.reduceAdd, Nat.reduceLeDiff, Nat.reduceLT, Nat.reduceMul, Int.reduceAdd, Int.reduceSub, Int.reduceMul, Int.reduceNeg, Int.reduceLT, Int.reduceLE, Int.reduceEq, Int.reduceToNat, eq_self, true_and, and_true, true_or, or_true, false_or, or_false, if_true, if_false, not_true_eq_false, not_false_eq_true, and_self, ne_eq, hM, h1, ho, f2, f3]
        (repeat' (first | apply And.intro | split)) <;> first | omega | exact q
    · have ho := fun Q => in_f (zt := zt) (g := g) (ρ := ρ) (lo := 1) (hi := 20) hm (by omega) (by omega) c2 Q
      rw [if_neg (fun z => c2 z.2)] at hQ
      have q := hQ.ro hX
      simp only [m_M_stretch, b_M_stretch_0, P_M_stretch_18, b_M_stretch_18, P_M_stretch_20, b_M_stretch_20, P_M_stretch_42, b_M_stretch_42, P_M_stretch_79, b_M_stretch_79, P_M_stretch_97, b_M_stretch_97, wp_abs, wp_aln0, wp_bipush, wp_copy, wp_cs1, wp_cs2, wp_cs3, wp_cs4, wp_cs5, wp_cs6, wp_cs7, wp_cv1, wp_cv2, wp_cv3, wp_cv4, wp_cv5, wp_cv6, wp_cv7, wp_goto, wp_iadd, wp_iast, wp_icge, wp_icle, wp_iconst, wp_il4, wp_iln1, wp_iln2, wp_iln3, wp_imul, wp_iret, wp_is4, wp_isn3, wp_isub, wp_izeq, wp_izne, wp_max, wp_min, wp_nop, wp_zret, qmd_kd, qmd_k1, qmd_l1, qmd_gf0, qmd_k2, qmd_l2, qmd_gf1, qmd_k3, qmd_l3, qmd_gf2, qmd_k4, qmd_l4, qmd_gf4, qmd_k5, qmd_l5, qmd_gf6, qmd_k6, qmd_l6, qmd_gf7, qmd_k7, qmd_l7, qmd_gf10, qmd_k8, qmd_l8, qmd_gf11, qmd_k9, qmd_l9, qmd_gf12, qmd_gf3, qmd_pf3, qmd_gf5, qmd_pf5, qmd_gf8, qmd_pf8, qmd_gf9, qmd_pf9, wrI_row, cpI_row, row_s, row_n, row_ss, row_sw, upd_s, upd_n, ad_inj, ad_z, ad_z2, Nat.reduceEqDiff, reduceCtorEq, List.cons_append, List.nil_append, Option.toList_some, Option.toList_none, Int.toNat_natCast, List.length_cons, List.length_nil, Int.cast_ofNat_Int, Nat.reduceAdd, Nat.reduceLeDiff, Nat.reduceLT, Nat.reduceMul, Int.reduceAdd, Int.reduceSub, Int.reduceMul, Int.reduceNeg, Int.reduceLT, Int.reduceLE, Int.reduceEq, Int.reduceToNat, eq_self, true_and, and_true, true_or, or_true, false_or, or_false, if_true, if_false, not_true_eq_false, not_false_eq_true, and_self, ne_eq, hM, h1, ho]
      (repeat' (first | apply And.intro | split)) <;> first | omega | exact q
  · rw [b2_f c1] at h1
    rw [if_neg (fun z => c1 z.1)] at hQ
    have q := hQ.ro hX
    simp only [m_M_stretch, b_M_stretch_0, P_M_stretch_18, b_M_stretch_18, P_M_stretch_20, b_M_stretch_20, P_M_stretch_42, b_M_stretch_42, P_M_stretch_79, b_M_stretch_79, P_M_stretch_97, b_M_stretch_97, wp_abs, wp_aln0, wp_bipush, wp_copy, wp_cs1, wp_cs2, wp_cs3, wp_cs4, wp_cs5, wp_cs6, wp_cs7, wp_cv1, wp_cv2, wp_cv3, wp_cv4, wp_cv5, wp_cv6, wp_cv7, wp_goto, wp_iadd, wp_iast, wp_icge, wp_icle, wp_iconst, wp_il4, wp_iln1, wp_iln2, wp_iln3, wp_imul, wp_iret, wp_is4, wp_isn3, wp_isub, wp_izeq, wp_izne, wp_max, wp_min, wp_nop, wp_zret, qmd_kd, qmd_k1, qmd_l1, qmd_gf0, qmd_k2, qmd_l2, qmd_gf1, qmd_k3, qmd_l3, qmd_gf2, qmd_k4, qmd_l4, qmd_gf4, qmd_k5, qmd_l5, qmd_gf6, qmd_k6, qmd_l6, qmd_gf7, qmd_k7, qmd_l7, qmd_gf10, qmd_k8, qmd_l8, qmd_gf11, qmd_k9, qmd_l9, qmd_gf12, qmd_gf3, qmd_pf3, qmd_gf5, qmd_pf5, qmd_gf8, qmd_pf8, qmd_gf9, qmd_pf9, wrI_row, cpI_row, row_s, row_n, row_ss, row_sw, upd_s, upd_n, ad_inj, ad_z, ad_z2, Nat.reduceEqDiff, reduceCtorEq, List.cons_append, List.nil_append, Option.toList_some, Option.toList_none, Int.toNat_natCast, List.length_cons, List.length_nil, Int.cast_ofNat_Int, Nat.reduceAdd, Nat.reduceLeDiff, Nat.reduceLT, Nat.reduceMul, Int.reduceAdd, Int.reduceSub, Int.reduceMul, Int.reduceNeg, Int.reduceLT, Int.reduceLE, Int.reduceEq, Int.reduceToNat, eq_self, true_and, and_true, true_or, or_true, false_or, or_false, if_true, if_false, not_true_eq_false, not_false_eq_true, and_self, ne_eq, hM, h1]
    (repeat' (first | apply And.intro | split)) <;> first | omega | exact q
end MDL
