/-! recordState -/
section REC
variable {zt : Nat → Nat} {g : Nat → Nat → Int} {ρ : Ri} {L : Nat} {h : Nat → Nat} {S : SV}
theorem wrR_s {f : Nat → Nat → Option Nat} {a k : Nat} {v : Option Nat} : wrR f a k v a k = v := if_pos ⟨rfl, rfl⟩
theorem wrR_k {f : Nat → Nat → Option Nat} {a k y : Nat} {v : Option Nat} (hn : ¬ y = k) : wrR f a k v a y = f a y := if_neg (fun q => hn q.2)
theorem wrR_x {f : Nat → Nat → Option Nat} {a k x y : Nat} {v : Option Nat} (hn : ¬ x = a) : wrR f a k v x y = f x y := if_neg (fun q => hn q.1)
theorem lf_wr {f : Nat → Nat → Option Nat} {s : (Nat → Option (Nat × Nat)) × Nat × Nat} {k : Nat} {v : Option Nat} : isLf (wrR f (ad L 31) k v, s) L ↔ isLf (f, s) L := by
  unfold isLf
  simp only [wrR_x (show ¬ L = ad L 31 by unfold ad; omega)]
theorem kd_wr {f f' : Nat → Nat → Option Nat} {s : (Nat → Option (Nat × Nat)) × Nat × Nat} {b d : Nat} (q : kdI (f, s) b d) : kdI (f', s) b d := q
theorem ln_wr {f : Nat → Nat → Option Nat} {s : (Nat → Option (Nat × Nat)) × Nat × Nat} {a k b : Nat} {v : Option Nat} : lnA (wrR f a k v, s) b = lnA (f, s) b := rfl
theorem rec_tail (hL : LayC ρ L h) {c : Nat} (hc : c < 5) (hc2 : g L 2 = c) (hR : SRC g (ad L 1) S) (hW : WFS S) {o1 o2 : Option AV} {Q : Option AV → Sto → Prop}
    (hQ : ∀ g' : Nat → Nat → Int, SRC g' (ad L (32 + 30 * h c)) S → g' L 2 = (c : Int) + 1 → g' L 8 = g L 8 → (∀ x, (x < ad L (32 + 30 * h c) ∨ ad L (32 + 30 * h c) + 30 ≤ x) → x ≠ L → g' x = g x) → Q none (g', ρ)) : Wp zt 83 (P 83 54) [some (AR L), o1, o2] [] (g, ρ) Q := by
  obtain ⟨hLf, hN, hH, hTr, hAr, hPl, hRd, hh, hinj⟩ := id hL
  obtain ⟨hh1, hh2⟩ := hh c hc
  have hN1 := hN.1
  have hT := hH (h c) hh2
  have hT1 := hT.1
  rw [P_L_recordState_54]
  simp only [m_L_recordState, b_L_recordState_0, P_L_recordState_54, b_L_recordState_54, wp_aln0, wp_aln1, wp_asn1, wp_cv1, wp_cv2, wp_cv3, wp_cv4, wp_cv5, wp_cv6, wp_cv7, wp_dup, wp_goto, wp_iadd, wp_icge, wp_iclt, wp_iconst, wp_iln2, wp_inc2, wp_isn2, wp_isub, wp_nop, wp_qald2, wp_qald3, wp_ret, qst_kd, qst_gf0, qst_k10, qst_l10, qst_gf1, qst_k29, qst_l29, qst_gf2, qlf_kd, qlf_gf0, qlf_k31, qlf_l31, qlf_gf1, qlf_gf3, qlf_gf4, qlf_gf5, qlf_gf6, qlf_k203, qlf_l203, qlf_gf7, qlf_gf2, qlf_pf2, qlf_gf8, qlf_pf8, wrI_row, cpI_row, row_s, row_n, row_ss, row_sw, upd_s, upd_n, ad_inj, ad_z, ad_z2, Nat.reduceEqDiff, reduceCtorEq, List.cons_append, List.nil_append, Option.toList_some, Option.toList_none, Int.toNat_natCast, List.length_cons, List.length_nil, Int.cast_ofNat_Int, Nat.reduceAdd, Nat.reduceLeDiff, Nat.reduceLT, Nat.reduceMul, Int.reduceAdd, Int.reduceSub, Int.reduceMul, Int.reduceNeg, Int.reduceLT, Int.reduceLE, Int.reduceEq, Int.reduceToNat, eq_self, true_and, and_true, true_or, or_true, false_or, or_false, if_true, if_false, not_true_eq_false, not_false_eq_true, and_self, ne_eq, b_L_recordState_54, hLf, hN1, hT1, hc2, hh1]
  (repeat' (first | apply And.intro | split)) <;> first | omega | skip
  refine stateCopy_ok hT hN (by unfold ad; omega) hR.tk (fun g1 he hf => ?_)
  have eL : g1 L = g L := hf L (by unfold ad; omega)
  have hs1 := hR.cp hW he
  have k1 := hQ (setRow g1 L (upd1 (g1 L) 2 ((c : Int) + 1))) (hs1.kept (fun x z1 z2 => row_n (by unfold ad at z1; omega))) (by rw [row_s, upd_s]) (by rw [row_s, upd_n (by omega), eL]) (fun x z1 z2 => by
    rw [row_n z2]
    exact hf x z1)
  have hc3 : g1 L 2 = c := by rw [eL]; exact hc2
  simp only [m_L_recordState, b_L_recordState_0, P_L_recordState_54, b_L_recordState_54, wp_aln0, wp_aln1, wp_asn1, wp_cv1, wp_cv2, wp_cv3, wp_cv4, wp_cv5, wp_cv6, wp_cv7, wp_dup, wp_goto, wp_iadd, wp_icge, wp_iclt, wp_iconst, wp_iln2, wp_inc2, wp_isn2, wp_isub, wp_nop, wp_qald2, wp_qald3, wp_ret, qst_kd, qst_gf0, qst_k10, qst_l10, qst_gf1, qst_k29, qst_l29, qst_gf2, qlf_kd, qlf_gf0, qlf_k31, qlf_l31, qlf_gf1, qlf_gf3, qlf_gf4, qlf_gf5, qlf_gf6, qlf_k203, qlf_l203, qlf_gf7, qlf_gf2, qlf_pf2, qlf_gf8, qlf_pf8, wrI_row, cpI_row, row_s, row_n, row_ss, row_sw, upd_s, upd_n, ad_inj, ad_z, ad_z2, Nat.reduceEqDiff, reduceCtorEq, List.cons_append, List.nil_append, Option.toList_some, Option.toList_none, Int.toNat_natCast, List.length_cons, List.length_nil, Int.cast_ofNat_Int, Nat.reduceAdd, Nat.reduceLeDiff, Nat.reduceLT, Nat.reduceMul, Int.reduceAdd, Int.reduceSub, Int.reduceMul, Int.reduceNeg, Int.reduceLT, Int.reduceLE, Int.reduceEq, Int.reduceToNat, eq_self, true_and, and_true, true_or, or_true, false_or, or_false, if_true, if_false, not_true_eq_false, not_false_eq_true, and_self, ne_eq, hLf, hc3]
  (repeat' (first | apply And.intro | split)) <;> first | omega | exact k1
end REC
