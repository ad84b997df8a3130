/-! recordState -/
section REC
variable {zt : Nat → Nat} {g : Nat → Nat → Int} {ρ : Ri} {L : Nat} {h : Nat → Nat} {S : SV}
theorem wrR_s {f : Nat → Nat → Option Nat} {a k : Nat} {v : Option Nat} : wrR f a k v a k = v := if_pos ⟨rfl, rfl⟩
theorem wrR_k {f : Nat → Nat → Option Nat} {a k y : Nat} {v : Option Nat} (hn : ¬ y = k) : wrR f a k v a y = f a y := if_neg (fun q => hn q.2)
theorem wrR_x {f : Nat → Nat → Option Nat} {a k x y : Nat} {v : Option Nat} (hn : ¬ x = a) : wrR f a k v x y = f x y := if_neg (fun q => hn q.1)
theorem lf_wr {f : Nat → Nat → Option Nat} {s : (Nat → Option (Nat × Nat)) × Nat × Nat} {k : Nat} {v : Option Nat} : isLf (wrR f (ad L 31) k v, s) L ↔ isLf (f, s) L := by
  unfold isLf
  simp only [wrR_x (show ¬ L = ad L 31 by unfold ad; omega)]
theorem kd_wr {f f' : Nat → Nat → Option Nat} {s : (Nat → Option (Nat × Nat)) × Nat × Nat} {b d : Nat} (q : kdI (f, s) b d) : kdI (f', s) b d := q
theorem ln_wr {f : Nat → Nat → Option Nat} {s : (Nat → Option (Nat × Nat)) × Nat × Nat} {a k b : Nat} {v : Option Nat} : lnA (wrR f a k v, s) b = lnA (f, s) b := rfl
theorem rec_tail (hL : LayC ρ L h) {c : Nat} (hc : c < 5) (hc2 : g L 2 = c) (hR : SRC g (ad L 1) S) (hW : WFS S) {o1 o2 : Option AV} {Q : Option AV → Sto → Prop}
    (hQ : ∀ g' : Nat → Nat → Int, SRC g' (ad L (32 + 30 * h c)) S → g' L 2 = (c : Int) + 1 → g' L 8 = g L 8 → (∀ x, (x < ad L (32 + 30 * h c) ∨ ad L (32 + 30 * h c) + 30 ≤ x) → x ≠ L → g' x = g x) → Q none (g', ρ)) : Wp zt 82 (P 82 54) [some (AR L), o1, o2] [] (g, ρ) Q := by
  obtain ⟨hLf, hN, hH, hTr, hAr, hPl, hRd, hh, hinj⟩ := id hL
  obtain ⟨hh1, hh2⟩ := hh c hc
  have hN1 := hN.1
  have hT := hH (h c) hh2
  have hT1 := hT.1
  rw [P_L_recordState_54]
  simp only [m_L_recordState, b_L_recordState_0, P_L_recordState_54, b_L_recordState_54, wp_aln0, wp_aln1, wp_asn1, wp_cv1, wp_cv2, wp_cv3, wp_cv4, wp_cv5, wp_cv6, wp_cv7, wp_dup, wp_goto, wp_iadd, wp_icge, wp_iclt, wp_iconst, wp_iln2, wp_inc2, wp_isn2, wp_isub, wp_nop, wp_qald2, wp_qald3, wp_ret, qst_kd, qst_gf0, qst_k10, qst_l10, qst_gf1, qst_k29, qst_l29, qst_gf2, qlf_kd, qlf_gf0, qlf_k31, qlf_l31, qlf_gf1, qlf_gf3, qlf_gf4, qlf_gf5, qlf_gf6, qlf_k203, qlf_l203, qlf_gf7, qlf_gf2, qlf_pf2, qlf_gf8, qlf_pf8, wrI_row, cpI_row, row_s, row_n, row_ss, row_sw, upd_s, upd_n, ad_inj, ad_z, ad_z2, Nat.reduceEqDiff, reduceCtorEq, List.cons_append, List.nil_append, Option.toList_some, Option.toList_none, Int.toNat_natCast, List.length_cons, List.length_nil, Int.cast_ofNat_Int, Nat.reduceAdd, Nat.reduceLeDiff, Nat.reduceLT, Nat.reduceMul, Int.reduceAdd, Int.reduceSub, Int.reduceMul, Int.reduceNeg, Int.reduceLT, Int.reduceLE, Int.reduceEq, Int.reduceToNat, eq_self, true_and, and_true, true_or, or_true, false_or, or_false, if_true, if_false, not_true_eq_false, not_false_eq_true, and_self, ne_eq, b_L_recordState_54, hLf, hN1, hT1, hc2, hh1]
  (repeat' (first | apply And.intro | split)) <;> first | omega | skip
  refine stateCopy_ok hT hN (by unfold ad; omega) hR.tk (fun g1 he hf => ?_)
  have eL : g1 L = g L := hf L (by unfold ad; omega)
  have hs1 := hR.cp hW he
  have k1 := hQ (setRow g1 L (upd1 (g1 L) 2 ((c : Int) + 1))) (hs1.kept (fun x z1 z2 => row_n (by unfold ad at z1; omega))) (by rw [row_s, upd_s]) (by rw [row_s, upd_n (by omega), eL]) (fun x z1 z2 => by
    rw [row_n z2]
    exact hf x z1)
  have hc3 : g1 L 2 = c := by rw [eL]; exact hc2
  simp only [m_L_recordState, b_L_recordState_0, P_L_recordState_54, b_L_recordState_54, wp_aln0, wp_aln1, wp_asn1, wp_cv1, wp_cv2, wp_cv3, wp_cv4, wp_cv5, wp_cv6, wp_cv7, wp_dup, wp_goto, wp_iadd, wp_icge, wp_iclt, wp_iconst, wp_iln2, wp_inc2, wp_isn2, wp_isub, wp_nop, wp_qald2, wp_qald3, wp_ret, qst_kd, qst_gf0, qst_k10, qst_l10, qst_gf1, qst_k29, qst_l29, qst_gf2, qlf_kd, qlf_gf0, qlf_k31, qlf_l31, qlf_gf1, qlf_gf3, qlf_gf4, qlf_gf5, qlf_gf6, qlf_k203, qlf_l203, qlf_gf7, qlf_gf2, qlf_pf2, qlf_gf8, qlf_pf8, wrI_row, cpI_row, row_s, row_n, row_ss, row_sw, upd_s, upd_n, ad_inj, ad_z, ad_z2, Nat.reduceEqDiff, reduceCtorEq, List.cons_append, List.nil_append, Option.toList_some, Option.toList_none, Int.toNat_natCast, List.length_cons, List.length_nil, Int.cast_ofNat_Int, Nat.reduceAdd, Nat.reduceLeDiff, Nat.reduceLT, Nat.reduceMul, Int.reduceAdd, Int.reduceSub, Int.reduceMul, Int.reduceNeg, Int.reduceLT, Int.reduceLE, Int.reduceEq, Int.reduceToNat, eq_self, true_and, and_true, true_or, or_true, false_or, or_false, if_true, if_false, not_true_eq_false, not_false_eq_true, and_self, ne_eq, hLf, hc3]
  (repeat' (first | apply And.intro | split)) <;> first | omega | exact k1
theorem sc_mv {ρ' : Ri} {a : Nat} (h2 : ρ'.2 = ρ.2) (h1 : ρ'.1 a = ρ.1 a) (hS : isSc ρ a) : isSc ρ' a := by
  unfold isSc at hS ⊢
  rw [h1, h2]
  exact hS
theorem st_mv {ρ' : Ri} {t : Nat} (h2 : ρ'.2 = ρ.2) (h1 : ∀ x, t ≤ x → x < t + 30 → ρ'.1 x = ρ.1 x) (hS : isStX ρ t) : isStX ρ' t := by
  obtain ⟨s1, s2, s3, s4, s5, s6⟩ := hS
  refine ⟨?_, sc_mv h2 (h1 _ (by unfold ad; omega) (by unfold ad; omega)) s2, sc_mv h2 (h1 _ (by unfold ad; omega) (by unfold ad; omega)) s3, sc_mv h2 (h1 _ (by unfold ad; omega) (by unfold ad; omega)) s4, ?_, ?_⟩
  · unfold isSt at s1 ⊢
    rw [h1 t (by omega) (by omega), h2]
    exact s1
  · rw [h1 _ (by unfold ad; omega) (by unfold ad; omega)]
    exact s5
  · rw [h1 _ (by unfold ad; omega) (by unfold ad; omega)]
    exact s6
theorem lay_mv {ρ' : Ri} {h' : Nat → Nat} (hL : LayC ρ L h) (h2 : ρ'.2 = ρ.2) (h1 : ∀ x, L ≤ x → x < ad L 204 → x ≠ ad L 31 → x ≠ ad L 201 → ρ'.1 x = ρ.1 x) (h3 : ∀ i, i < 5 → ρ'.1 (ad L 31) i = some (ad L (32 + 30 * h' i)) ∧ h' i < 5) (h4 : ∀ i j, i < 5 → j < 5 → h' i = h' j → i = j) : LayC ρ' L h' := by
  obtain ⟨l1, l2, l3, l4, l5, l6, l7, l8, l9⟩ := hL
  refine ⟨?_, st_mv h2 (fun x z1 z2 => h1 x (by unfold ad at *; omega) (by unfold ad at *; omega) (by unfold ad at *; omega) (by unfold ad at *; omega)) l2, fun i hi => st_mv h2 (fun x z1 z2 => h1 x (by unfold ad at *; omega) (by unfold ad at *; omega) (by unfold ad at *; omega) (by unfold ad at *; omega)) (l3 i hi), sc_mv h2 (h1 _ (by unfold ad; omega) (by unfold ad; omega) (by unfold ad; omega) (by unfold ad; omega)) l4, ?_, ?_, ?_, h3, h4⟩
  · unfold isLf at l1 ⊢
    rw [h1 L (by omega) (by unfold ad; omega) (by unfold ad; omega) (by unfold ad; omega), h2]
    exact l1
  · unfold isAr at l5 ⊢
    rw [h1 _ (by unfold ad; omega) (by unfold ad; omega) (by unfold ad; omega) (by unfold ad; omega), h2]
    exact l5
  · unfold isPl at l6 ⊢
    rw [h1 _ (by unfold ad; omega) (by unfold ad; omega) (by unfold ad; omega) (by unfold ad; omega), h2]
    exact l6
  · unfold isRd at l7 ⊢
    rw [h2]
    exact l7
/-- the history's references with the oldest one's last -/
def rotR (f : Nat → Nat → Option Nat) (x : Nat) (r0 r1 r2 r3 r4 : Option Nat) : Nat → Nat → Option Nat := wrR (wrR (wrR (wrR (wrR f x 0 r1) x 1 r2) x 2 r3) x 3 r4) x 4 r0
def rotH (h : Nat → Nat) : Nat → Nat := fun i => if i < 4 then h (i + 1) else h 0
theorem recordState_ok {X : XV} (hX : RepC g ρ L h X) (hW : WFX X) {Q : Option AV → Sto → Prop}
    (hQ : ∀ (g' : Nat → Nat → Int) (ρ' : Ri) (h' : Nat → Nat), RepC g' ρ' L h' (recX X) → ρ'.2 = ρ.2 → (∀ x, x ≠ ad L 31 → ρ'.1 x = ρ.1 x) → (∀ x, (x < L ∨ (L < x ∧ x < ad L 32) ∨ ad L 182 ≤ x) → g' x = g x) → Q none (g', ρ')) : WpM zt 82 [AR L] (g, ρ) Q := by
  obtain ⟨hL, x1, x2, x3, x4, x5⟩ := id hX
  obtain ⟨w1, w2, w3, w4, w5⟩ := id hW
  obtain ⟨hLf, hN, hH, hTr, hAr, hPl, hRd, hh, hinj⟩ := id hL
  by_cases e : X.2.1 = 5
  · obtain ⟨f, s⟩ := ρ
    obtain ⟨p0, q0⟩ := hh 0 (by omega)
    obtain ⟨p1, q1⟩ := hh 1 (by omega)
    obtain ⟨p2, q2⟩ := hh 2 (by omega)
    obtain ⟨p3, q3⟩ := hh 3 (by omega)
    obtain ⟨p4, q4⟩ := hh 4 (by omega)
    replace p0 : f (ad L 31) 0 = some (ad L (32 + 30 * h 0)) := p0
    replace p1 : f (ad L 31) 1 = some (ad L (32 + 30 * h 1)) := p1
    replace p2 : f (ad L 31) 2 = some (ad L (32 + 30 * h 2)) := p2
    replace p3 : f (ad L 31) 3 = some (ad L (32 + 30 * h 3)) := p3
    replace p4 : f (ad L 31) 4 = some (ad L (32 + 30 * h 4)) := p4
    have k0 := qst_kd (hH _ q0).1
    have k1 := qst_kd (hH _ q1).1
    have k2 := qst_kd (hH _ q2).1
    have k3 := qst_kd (hH _ q3).1
    have k4 := qst_kd (hH _ q4).1
    have x3' : g L 2 = 5 := by rw [x3, e]; rfl
    have hrl : ∀ i, i < 5 → (rotR f (ad L 31) (some (ad L (32 + 30 * h 0))) (some (ad L (32 + 30 * h 1))) (some (ad L (32 + 30 * h 2))) (some (ad L (32 + 30 * h 3))) (some (ad L (32 + 30 * h 4)))) (ad L 31) i = some (ad L (32 + 30 * rotH h i)) ∧ rotH h i < 5 := by
      intro i hi
      rcases (by omega : i = 0 ∨ i = 1 ∨ i = 2 ∨ i = 3 ∨ i = 4) with rfl | rfl | rfl | rfl | rfl
      · exact ⟨by unfold rotR; rw [wrR_k (by decide), wrR_k (by decide), wrR_k (by decide), wrR_k (by decide), wrR_s]; rfl, q1⟩
      · exact ⟨by unfold rotR; rw [wrR_k (by decide), wrR_k (by decide), wrR_k (by decide), wrR_s]; rfl, q2⟩
      · exact ⟨by unfold rotR; rw [wrR_k (by decide), wrR_k (by decide), wrR_s]; rfl, q3⟩
      · exact ⟨by unfold rotR; rw [wrR_k (by decide), wrR_s]; rfl, q4⟩
      · exact ⟨by unfold rotR; rw [wrR_s]; rfl, q0⟩
    have hL' : LayC (rotR f (ad L 31) (some (ad L (32 + 30 * h 0))) (some (ad L (32 + 30 * h 1))) (some (ad L (32 + 30 * h 2))) (some (ad L (32 + 30 * h 3))) (some (ad L (32 + 30 * h 4))), s) L (rotH h) := by
      refine lay_mv hL rfl (fun x z0 z1 z2 z3 => ?_) hrl (fun i j hi hj hij => ?_)
      · funext y
        show rotR f _ _ _ _ _ _ x y = f x y
        unfold rotR
        rw [wrR_x z2, wrR_x z2, wrR_x z2, wrR_x z2, wrR_x z2]
      · unfold rotH at hij
        by_cases a1 : i < 4
        · by_cases a2 : j < 4
          · rw [if_pos a1, if_pos a2] at hij
            have := hinj _ _ (by omega) (by omega) hij
            omega
          · rw [if_pos a1, if_neg a2] at hij
            have := hinj _ _ (by omega) (by omega) hij
            omega
        · by_cases a2 : j < 4
          · rw [if_neg a1, if_pos a2] at hij
            have := hinj _ _ (by omega) (by omega) hij
            omega
          · omega
    have k9 := rec_tail (zt := zt) (g := setRow g L (upd1 (g L) 2 4)) (S := X.1) (Q := Q) (o1 := some (AR (ad L (32 + 30 * h 0)))) (o2 := some (AI 5)) hL' (c := 4) (by omega) (by rw [row_s, upd_s]; rfl) (x1.kept (fun x z1 z2 => row_n (by unfold ad at z1; omega))) w1 (fun g' j1 j2 j3 j4 => by
      have jf : ∀ x, (x < ad L (32 + 30 * h 0) ∨ ad L (32 + 30 * h 0) + 30 ≤ x) → x ≠ L → g' x = g x := fun x z1 z2 => (j4 x z1 z2).trans (row_n z2)
      refine hQ g' _ (rotH h) ⟨hL', ?_, ?_, ?_, ?_, ?_⟩ rfl ?_ ?_
      · exact x1.kept (fun x z1 z2 => jf x (by unfold ad at *; omega) (by unfold ad at z1; omega))
      · intro i hi
        replace hi : i < if X.2.1 = 5 then 5 else X.2.1 + 1 := hi
        rw [if_pos e] at hi
        show SRC g' (ad L (32 + 30 * rotH h i)) (if X.2.1 = 5 then (if i < 4 then X.2.2.1 (i + 1) else X.1) else (if i = X.2.1 then X.1 else X.2.2.1 i))
        rw [if_pos e]
        unfold rotH
        by_cases a1 : i < 4
        · rw [if_pos a1, if_pos a1]
          have hne : h (i + 1) ≠ h 0 := fun q => by
            have := hinj _ _ (by omega) (by omega) q
            omega
          exact (x2 (i + 1) (by omega)).kept (fun x z1 z2 => jf x (by unfold ad at *; omega) (by unfold ad at z1; omega))
        · rw [if_neg a1, if_neg a1]
          exact j1
      · show g' L 2 = ((if X.2.1 = 5 then 5 else X.2.1 + 1 : Nat) : Int)
        rw [j2, if_pos e]
        rfl
      · show g' L 8 = X.2.2.2.1
        rw [j3, row_s, upd_n (by omega)]
        exact x4
      · intro j hj
        show g' (ad L 203) j = X.2.2.2.2 j
        rw [jf (ad L 203) (by unfold ad; omega) (by unfold ad; omega)]
        exact x5 j hj
      · intro x z
        funext y
        show rotR f _ _ _ _ _ _ x y = f x y
        unfold rotR
        rw [wrR_x z, wrR_x z, wrR_x z, wrR_x z, wrR_x z]
      · intro x z
        exact jf x (by unfold ad at *; omega) (by unfold ad at z; omega))
    unfold rotR at k9
    simp only [m_L_recordState, b_L_recordState_0, P_L_recordState_17, b_L_recordState_17, P_L_recordState_42, b_L_recordState_42, wp_aln0, wp_aln1, wp_asn1, wp_cv1, wp_cv2, wp_cv3, wp_cv4, wp_cv5, wp_cv6, wp_cv7, wp_dup, wp_goto, wp_iadd, wp_icge, wp_iclt, wp_iconst, wp_iln2, wp_inc2, wp_isn2, wp_isub, wp_nop, wp_qald2, wp_qald3, wp_ret, qlf_kd, qlf_gf0, qlf_k31, qlf_l31, qlf_gf1, qlf_gf3, qlf_gf4, qlf_gf5, qlf_gf6, qlf_k203, qlf_l203, qlf_gf7, qlf_gf2, qlf_pf2, qlf_gf8, qlf_pf8, wrI_row, cpI_row, row_s, row_n, row_ss, row_sw, upd_s, upd_n, ad_inj, ad_z, ad_z2, Nat.reduceEqDiff, reduceCtorEq, List.cons_append, List.nil_append, Option.toList_some, Option.toList_none, Int.toNat_natCast, List.length_cons, List.length_nil, Int.cast_ofNat_Int, Nat.reduceAdd, Nat.reduceLeDiff, Nat.reduceLT, Nat.reduceMul, Int.reduceAdd, Int.reduceSub, Int.reduceMul, Int.reduceNeg, Int.reduceLT, Int.reduceLE, Int.reduceEq, Int.reduceToNat, eq_self, true_and, and_true, true_or, or_true, false_or, or_false, if_true, if_false, not_true_eq_false, not_false_eq_true, and_self, ne_eq, hLf, lf_wr, ln_wr, x3', p0, p1, p2, p3, p4, wp_qald2 (kd_wr (qlf_k31 hLf)), wp_qast2 (kd_wr (qlf_k31 hLf)) (kd_wr k0), wp_qast2 (kd_wr (qlf_k31 hLf)) (kd_wr k1), wp_qast2 (kd_wr (qlf_k31 hLf)) (kd_wr k2), wp_qast2 (kd_wr (qlf_k31 hLf)) (kd_wr k3), wp_qast2 (kd_wr (qlf_k31 hLf)) (kd_wr k4), wrR_s, wrR_k]
    exact k9
  · have k1 := rec_tail (zt := zt) (g := g) (ρ := ρ) (S := X.1) (Q := Q) (o1 := none) (o2 := none) hL (c := X.2.1) (by omega) x3 x1 w1 (fun g' j1 j2 j3 j4 => by
      have hb := (hh X.2.1 (by omega)).2
      refine hQ g' ρ h ⟨hL, ?_, ?_, ?_, ?_, ?_⟩ rfl (fun _ _ => rfl) ?_
      · exact x1.kept (fun x z1 z2 => j4 x (by unfold ad at *; omega) (by unfold ad at z1; omega))
      · intro i hi
        replace hi : i < if X.2.1 = 5 then 5 else X.2.1 + 1 := hi
        rw [if_neg e] at hi
        show SRC g' (ad L (32 + 30 * h i)) (if X.2.1 = 5 then (if i < 4 then X.2.2.1 (i + 1) else X.1) else (if i = X.2.1 then X.1 else X.2.2.1 i))
        rw [if_neg e]
        by_cases a1 : i = X.2.1
        · rw [if_pos a1, a1]
          exact j1
        · rw [if_neg a1]
          have hne : h i ≠ h X.2.1 := fun q => a1 (hinj _ _ (by omega) (by omega) q)
          exact (x2 i (by omega)).kept (fun x z1 z2 => j4 x (by unfold ad at *; omega) (by unfold ad at z1; omega))
      · show g' L 2 = ((if X.2.1 = 5 then 5 else X.2.1 + 1 : Nat) : Int)
        rw [j2, if_neg e]
        omega
      · exact j3.trans x4
      · intro j hj
        show g' (ad L 203) j = X.2.2.2.2 j
        rw [j4 (ad L 203) (by unfold ad; omega) (by unfold ad; omega)]
        exact x5 j hj
      · intro x z
        exact j4 x (by unfold ad at *; omega) (by unfold ad at z; omega))
    simp only [m_L_recordState, b_L_recordState_0, wp_aln0, wp_aln1, wp_asn1, wp_cv1, wp_cv2, wp_cv3, wp_cv4, wp_cv5, wp_cv6, wp_cv7, wp_dup, wp_goto, wp_iadd, wp_icge, wp_iclt, wp_iconst, wp_iln2, wp_inc2, wp_isn2, wp_isub, wp_nop, wp_qald2, wp_qald3, wp_ret, qlf_kd, qlf_gf0, qlf_k31, qlf_l31, qlf_gf1, qlf_gf3, qlf_gf4, qlf_gf5, qlf_gf6, qlf_k203, qlf_l203, qlf_gf7, qlf_gf2, qlf_pf2, qlf_gf8, qlf_pf8, wrI_row, cpI_row, row_s, row_n, row_ss, row_sw, upd_s, upd_n, ad_inj, ad_z, ad_z2, Nat.reduceEqDiff, reduceCtorEq, List.cons_append, List.nil_append, Option.toList_some, Option.toList_none, Int.toNat_natCast, List.length_cons, List.length_nil, Int.cast_ofNat_Int, Nat.reduceAdd, Nat.reduceLeDiff, Nat.reduceLT, Nat.reduceMul, Int.reduceAdd, Int.reduceSub, Int.reduceMul, Int.reduceNeg, Int.reduceLT, Int.reduceLE, Int.reduceEq, Int.reduceToNat, eq_self, true_and, and_true, true_or, or_true, false_or, or_false, if_true, if_false, not_true_eq_false, not_false_eq_true, and_self, ne_eq, hLf, x3]
    (repeat' (first | apply And.intro | split)) <;> first | omega | exact k1
end REC
