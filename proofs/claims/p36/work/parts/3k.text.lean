/-! THE CLASS'S TEXT, and its switches -/
section SWT
variable {zt : Nat → Nat} {k : Nat} {c : List RI} {ls : LsT} {st : List AV} {g : Nat → Nat → Int} {ρ : Ri} {Q : Option AV → Sto → Prop}
theorem wp_tsw_o {v lo hi : Int} {a : Int} {d : Nat} {b : Array Int} {ts : List Nat} (h1 : v < lo ∨ hi < v) (h2 : rng v) : Wp zt k ((.tableswitch a lo hi b, d :: ts) :: c) ls (.inl v :: st) (g, ρ) Q ↔ Wp zt k (P k d) ls st (g, ρ) Q := wp_jp (by
  show (if rng v then (if v < lo ∨ hi < v then jp d st else _) else none) = _
  rw [if_pos h2, if_pos h1]
  rfl)
theorem wp_tsw_i {v lo hi : Int} {a : Int} {d t : Nat} {b : Array Int} {ts : List Nat} (h1 : lo ≤ v ∧ v ≤ hi) (h2 : rng v) (h3 : ts[(v - lo).toNat]? = some t) : Wp zt k ((.tableswitch a lo hi b, d :: ts) :: c) ls (.inl v :: st) (g, ρ) Q ↔ Wp zt k (P k t) ls st (g, ρ) Q := wp_jp (by
  show (if rng v then (if v < lo ∨ hi < v then jp d st else match ts[(v - lo).toNat]? with | some L => jp L st | none => none) else none) = _
  rw [if_pos h2, if_neg (by omega), h3]
  rfl)
end SWT
section TXT
variable {zt : Nat → Nat} {g : Nat → Nat → Int} {ρ : Ri} {L : Nat} {h : Nat → Nat} {X : XV} {Q : Option AV → Sto → Prop}
theorem rng_32 {v : Int} (hv : i32 v) : rng v := by
  exact hv
def apX (c : Int) (X : XV) : XV := (X.1, X.2.1, X.2.2.1, X.2.2.2.1 + 1, fun j => if j = X.2.2.2.1 then c else X.2.2.2.2 j)
def sAppend (c : Int) (X : XV) : Int × XV := if 1 ≤ c ∧ c ≤ 255 then (if X.2.2.2.1 < 120 then ((X.2.2.2.1 : Int) + 1, apX c X) else (-3, X)) else (-1, X)
theorem sAppend_wf {c : Int} (hW : WFX X) : WFX (sAppend c X).2 := by
  unfold sAppend
  split
  next h1 =>
    split
    next h2 =>
      obtain ⟨w1, w2, w3, w4, w5⟩ := hW
      refine ⟨w1, w2, w3, show X.2.2.2.1 + 1 ≤ 120 by omega, fun j hj => ?_⟩
      replace hj : j < X.2.2.2.1 + 1 := hj
      show 1 ≤ (if j = X.2.2.2.1 then c else X.2.2.2.2 j) ∧ (if j = X.2.2.2.1 then c else X.2.2.2.2 j) ≤ 255
      by_cases e : j = X.2.2.2.1
      · rw [if_pos e]
        exact h1
      · rw [if_neg e]
        exact w5 j (by omega)
    next h2 => exact hW
  next h1 => exact hW
theorem c_append (hX : RepC g ρ L h X) (hW : WFX X) {c : Int} (hc : i32 c) (hQ : CQ g ρ L (sAppend c X) Q) : WpM zt 64 [AR L, AI c] (g, ρ) Q := by
  obtain ⟨hLf, hN, -⟩ := id hX.1
  obtain ⟨hR, -⟩ := id hX.2.1
  have hU := hW.1.1
  have hWV := hR.wf (by omega) hU
  have hN1 := hN.1
  have hS := hN.2.1
  have e0 : g (ad (ad L 1) 1) 0 = X.1.1 0 0 := hR.l0
  have e5 : g (ad (ad L 1) 1) 5 = X.1.1 5 0 := hR.l5
  have e8 : g (ad (ad L 1) 1) 8 = X.1.1 8 0 := hR.l8
  have b0 := hU.1
  have b5 := hU.2.2.2.2.1
  have b8 := hU.2.2.2.2.2.2.1
  have x4 : g L 8 = X.2.2.2.1 := hX.2.2.2.2.1
  have wt := hW.2.2.2.1
  unfold sAppend at hQ
  by_cases c1 : 1 ≤ c ∧ c ≤ 255
  · have ho1 := fun Q => lk_in (zt := zt) (g := g) (ρ := ρ) (lo := 1) (hi := 255) (by omega) (by omega) c1 Q
    rw [if_pos c1] at hQ
    by_cases c2 : X.2.2.2.1 < 120
    · rw [if_pos c2] at hQ
      have hlt : (X.2.2.2.1 : Int) < 120 := by omega
      have q := hQ (setRow (setRow g (ad L 203) (upd1 (g (ad L 203)) X.2.2.2.1 c)) L (upd1 (g L) 8 ((X.2.2.2.1 : Int) + 1))) ρ h (by
        obtain ⟨h1, h2, h3, h4, h5, h6⟩ := hX
        obtain ⟨-, -, -, -, -, -, -, hh, -⟩ := id h1
        have wn := hW.2.1
        refine ⟨h1, h2.kept (fun x z1 z2 => ?_), fun i hi => (h3 i hi).kept (fun x z1 z2 => ?_), ?_, ?_, fun j hj => ?_⟩
        · rw [row_n (by unfold ad at z1; omega), row_n (by unfold ad at *; omega)]
        · have := (hh i (by replace hi : i < X.2.1 := hi; omega)).2
          rw [row_n (by unfold ad at z1; omega), row_n (by unfold ad at *; omega)]
        · rw [row_s, upd_n (by omega)]
          exact h4
        · rw [row_s, upd_s]
          show (X.2.2.2.1 : Int) + 1 = ((X.2.2.2.1 + 1 : Nat) : Int)
          omega
        · replace hj : j < X.2.2.2.1 + 1 := hj
          rw [row_n (by unfold ad; omega), row_s]
          show _ = if j = X.2.2.2.1 then c else X.2.2.2.2 j
          by_cases e : j = X.2.2.2.1
          · subst e
            rw [upd_s, if_pos rfl]
          · rw [upd_n e, if_neg e]
            exact h6 j (by omega)) ⟨rfl, fun x z => ⟨rfl, by rw [row_n (by unfold ad at z; omega), row_n (by unfold ad at *; omega)]⟩⟩
      simp only [m_L_append, b_L_append_0, P_L_append_13, b_L_append_13, P_L_append_25, b_L_append_25, wp_abs, wp_aln0, wp_bipush, wp_copy, wp_cs1, wp_cs2, wp_cs3, wp_cs4, wp_cs5, wp_cs6, wp_cs7, wp_dup, wp_iadd, wp_iast, wp_iclt, wp_iconst, wp_iln1, wp_iret, wp_izeq, wp_max, wp_min, wp_sipush, wp_zret, qlf_kd, qlf_gf0, qlf_k31, qlf_l31, qlf_gf1, qlf_gf3, qlf_gf4, qlf_gf5, qlf_gf6, qlf_k203, qlf_l203, qlf_gf7, qlf_gf2, qlf_pf2, qlf_gf8, qlf_pf8, wrI_row, cpI_row, row_s, row_n, row_ss, row_sw, upd_s, upd_n, ad_inj, ad_z, ad_z2, Nat.reduceEqDiff, reduceCtorEq, List.cons_append, List.nil_append, Option.toList_some, Option.toList_none, Int.toNat_natCast, List.length_cons, List.length_nil, Int.cast_ofNat_Int, Nat.reduceAdd, Nat.reduceLeDiff, Nat.reduceLT, Nat.reduceMul, Int.reduceAdd, Int.reduceSub, Int.reduceMul, Int.reduceNeg, Int.reduceLT, Int.reduceLE, Int.reduceEq, Int.reduceToNat, eq_self, true_and, and_true, true_or, or_true, false_or, or_false, if_true, if_false, not_true_eq_false, not_false_eq_true, and_self, ne_eq, hLf, ho1, x4, hlt]
      exact ⟨by omega, by omega, q⟩
    · rw [if_neg c2] at hQ
      have q := hQ.ro hX
      have hlt : ¬ (X.2.2.2.1 : Int) < 120 := by omega
      simp only [m_L_append, b_L_append_0, P_L_append_13, b_L_append_13, P_L_append_25, b_L_append_25, wp_abs, wp_aln0, wp_bipush, wp_copy, wp_cs1, wp_cs2, wp_cs3, wp_cs4, wp_cs5, wp_cs6, wp_cs7, wp_dup, wp_iadd, wp_iast, wp_iclt, wp_iconst, wp_iln1, wp_iret, wp_izeq, wp_max, wp_min, wp_sipush, wp_zret, qlf_kd, qlf_gf0, qlf_k31, qlf_l31, qlf_gf1, qlf_gf3, qlf_gf4, qlf_gf5, qlf_gf6, qlf_k203, qlf_l203, qlf_gf7, qlf_gf2, qlf_pf2, qlf_gf8, qlf_pf8, wrI_row, cpI_row, row_s, row_n, row_ss, row_sw, upd_s, upd_n, ad_inj, ad_z, ad_z2, Nat.reduceEqDiff, reduceCtorEq, List.cons_append, List.nil_append, Option.toList_some, Option.toList_none, Int.toNat_natCast, List.length_cons, List.length_nil, Int.cast_ofNat_Int, Nat.reduceAdd, Nat.reduceLeDiff, Nat.reduceLT, Nat.reduceMul, Int.reduceAdd, Int.reduceSub, Int.reduceMul, Int.reduceNeg, Int.reduceLT, Int.reduceLE, Int.reduceEq, Int.reduceToNat, eq_self, true_and, and_true, true_or, or_true, false_or, or_false, if_true, if_false, not_true_eq_false, not_false_eq_true, and_self, ne_eq, hLf, ho1, x4, hlt]
      exact ⟨by omega, q⟩
  · have ho1 := fun Q => lk_out (zt := zt) (g := g) (ρ := ρ) (lo := 1) (hi := 255) hc (by omega) (by omega) c1 Q
    rw [if_neg c1] at hQ
    have q := hQ.ro hX
    simp only [m_L_append, b_L_append_0, P_L_append_13, b_L_append_13, P_L_append_25, b_L_append_25, wp_abs, wp_aln0, wp_bipush, wp_copy, wp_cs1, wp_cs2, wp_cs3, wp_cs4, wp_cs5, wp_cs6, wp_cs7, wp_dup, wp_iadd, wp_iast, wp_iclt, wp_iconst, wp_iln1, wp_iret, wp_izeq, wp_max, wp_min, wp_sipush, wp_zret, qlf_kd, qlf_gf0, qlf_k31, qlf_l31, qlf_gf1, qlf_gf3, qlf_gf4, qlf_gf5, qlf_gf6, qlf_k203, qlf_l203, qlf_gf7, qlf_gf2, qlf_pf2, qlf_gf8, qlf_pf8, wrI_row, cpI_row, row_s, row_n, row_ss, row_sw, upd_s, upd_n, ad_inj, ad_z, ad_z2, Nat.reduceEqDiff, reduceCtorEq, List.cons_append, List.nil_append, Option.toList_some, Option.toList_none, Int.toNat_natCast, List.length_cons, List.length_nil, Int.cast_ofNat_Int, Nat.reduceAdd, Nat.reduceLeDiff, Nat.reduceLT, Nat.reduceMul, Int.reduceAdd, Int.reduceSub, Int.reduceMul, Int.reduceNeg, Int.reduceLT, Int.reduceLE, Int.reduceEq, Int.reduceToNat, eq_self, true_and, and_true, true_or, or_true, false_or, or_false, if_true, if_false, not_true_eq_false, not_false_eq_true, and_self, ne_eq, hLf, ho1]
    (repeat' (first | apply And.intro | split)) <;> first | omega | exact q
def clX (X : XV) : XV := (X.1, X.2.1, X.2.2.1, 0, X.2.2.2.2)
theorem clX_wf (hW : WFX X) : WFX (clX X) := ⟨hW.1, hW.2.1, hW.2.2.1, by show 0 ≤ 120; omega, fun j hj => absurd hj (Nat.not_lt_zero j)⟩
theorem clX_rep {g' : Nat → Nat → Int} (hX : RepC g ρ L h X) (hW : WFX X) (hk : ∀ x, L < x → x < ad L 182 → g' x = g x) (h2 : g' L 2 = g L 2) (h8 : g' L 8 = 0) : RepC g' ρ L h (clX X) := by
  obtain ⟨h1, h2', h3, h4, h5, h6⟩ := hX
  obtain ⟨-, -, -, -, -, -, -, hh, -⟩ := id h1
  have wn := hW.2.1
  refine ⟨h1, h2'.kept (fun x z1 z2 => hk x (by unfold ad at *; omega) (by unfold ad at *; omega)), fun i hi => ?_, h2.trans h4, h8, fun j hj => absurd hj (Nat.not_lt_zero j)⟩
  replace hi : i < X.2.1 := hi
  have := (hh i (by omega)).2
  exact (h3 i hi).kept (fun x z1 z2 => hk x (by unfold ad at *; omega) (by unfold ad at *; omega))
def sSegment (s w : Int) (X : XV) : Int := if 0 ≤ s ∧ s < X.1.1 5 0 then (if w = 0 then X.1.1 6 s.toNat else if w = 1 then X.1.1 7 s.toNat else if w = 2 then sumL X.1.1 s.toNat else -1) else -1
theorem c_segment (hX : RepC g ρ L h X) (hW : WFX X) {s w : Int} (hs : i32 s) (hw : i32 w) (hQ : CQ g ρ L (sSegment s w X, X) Q) : WpM zt 71 [AR L, AI s, AI w] (g, ρ) Q := by
  obtain ⟨hLf, hN, -⟩ := id hX.1
  obtain ⟨hR, -⟩ := id hX.2.1
  have hU := hW.1.1
  have hWV := hR.wf (by omega) hU
  have hN1 := hN.1
  have hS := hN.2.1
  have e0 : g (ad (ad L 1) 1) 0 = X.1.1 0 0 := hR.l0
  have e5 : g (ad (ad L 1) 1) 5 = X.1.1 5 0 := hR.l5
  have e8 : g (ad (ad L 1) 1) 8 = X.1.1 8 0 := hR.l8
  have b0 := hU.1
  have b5 := hU.2.2.2.2.1
  have b8 := hU.2.2.2.2.2.2.1
  have q := hQ.ro hX
  unfold sSegment at q
  have hm1 := hasSegment_ok (zt := zt) (ρ := ρ) hS hWV (m := s) hs.1 hs.2
  rw [e5] at hm1
  by_cases c1 : 0 ≤ s ∧ s < X.1.1 5 0
  · rw [b2_t c1] at hm1
    rw [if_pos c1] at q
    have r6 : g (ad (ad (ad L 1) 1) 5) s.toNat = X.1.1 6 s.toNat := hR.l6 (by omega)
    have r7 : g (ad (ad (ad L 1) 1) 6) s.toNat = X.1.1 7 s.toNat := hR.l7 (by omega)
    have hff := firstFrameOf_ok (zt := zt) (ρ := ρ) hS hWV (s := s) c1.1 (by rw [e5]; omega)
    rw [hR.sum _ (by omega)] at hff
    by_cases w0 : w = 0
    · rw [if_pos w0] at q
      subst w0
      simp only [m_L_segment, b_L_segment_0, P_L_segment_18, b_L_segment_18, P_L_segment_44, b_L_segment_44, P_L_segment_51, b_L_segment_51, P_L_segment_58, b_L_segment_58, P_L_segment_64, b_L_segment_64, wp_aln0, wp_aln3, wp_asn3, wp_cv1, wp_cv2, wp_cv3, wp_cv4, wp_cv5, wp_cv6, wp_cv7, wp_iald, wp_iconst, wp_iln1, wp_iln2, wp_iret, wp_izne, wp_zret, qsc_kd, qsc_k1, qsc_l1, qsc_gf1, qsc_k2, qsc_l2, qsc_gf2, qsc_k3, qsc_l3, qsc_gf3, qsc_k4, qsc_l4, qsc_gf4, qsc_k5, qsc_l5, qsc_gf6, qsc_k6, qsc_l6, qsc_gf7, qsc_k7, qsc_l7, qsc_gf9, qsc_k8, qsc_l8, qsc_gf10, qsc_gf0, qsc_pf0, qsc_gf5, qsc_pf5, qsc_gf8, qsc_pf8, qst_kd, qst_gf0, qst_k10, qst_l10, qst_gf1, qst_k29, qst_l29, qst_gf2, qlf_kd, qlf_gf0, qlf_k31, qlf_l31, qlf_gf1, qlf_gf3, qlf_gf4, qlf_gf5, qlf_gf6, qlf_k203, qlf_l203, qlf_gf7, qlf_gf2, qlf_pf2, qlf_gf8, qlf_pf8, wrI_row, cpI_row, row_s, row_n, row_ss, row_sw, upd_s, upd_n, ad_inj, ad_z, ad_z2, Nat.reduceEqDiff, reduceCtorEq, List.cons_append, List.nil_append, Option.toList_some, Option.toList_none, Int.toNat_natCast, List.length_cons, List.length_nil, Int.cast_ofNat_Int, Nat.reduceAdd, Nat.reduceLeDiff, Nat.reduceLT, Nat.reduceMul, Int.reduceAdd, Int.reduceSub, Int.reduceMul, Int.reduceNeg, Int.reduceLT, Int.reduceLE, Int.reduceEq, Int.reduceToNat, eq_self, true_and, and_true, true_or, or_true, false_or, or_false, if_true, if_false, not_true_eq_false, not_false_eq_true, and_self, ne_eq, hLf, hN1, hS, hm1, r6, wp_tsw_i (v := 0) (lo := 0) (hi := 2) (t := 44) (ts := [44, 51, 58]) (by omega) (rng_32 (by unfold i32; omega)) rfl]
      (repeat' (first | apply And.intro | split)) <;> first | omega | exact q
    · by_cases w1 : w = 1
      · rw [if_neg w0, if_pos w1] at q
        subst w1
        simp only [m_L_segment, b_L_segment_0, P_L_segment_18, b_L_segment_18, P_L_segment_44, b_L_segment_44, P_L_segment_51, b_L_segment_51, P_L_segment_58, b_L_segment_58, P_L_segment_64, b_L_segment_64, wp_aln0, wp_aln3, wp_asn3, wp_cv1, wp_cv2, wp_cv3, wp_cv4, wp_cv5, wp_cv6, wp_cv7, wp_iald, wp_iconst, wp_iln1, wp_iln2, wp_iret, wp_izne, wp_zret, qsc_kd, qsc_k1, qsc_l1, qsc_gf1, qsc_k2, qsc_l2, qsc_gf2, qsc_k3, qsc_l3, qsc_gf3, qsc_k4, qsc_l4, qsc_gf4, qsc_k5, qsc_l5, qsc_gf6, qsc_k6, qsc_l6, qsc_gf7, qsc_k7, qsc_l7, qsc_gf9, qsc_k8, qsc_l8, qsc_gf10, qsc_gf0, qsc_pf0, qsc_gf5, qsc_pf5, qsc_gf8, qsc_pf8, qst_kd, qst_gf0, qst_k10, qst_l10, qst_gf1, qst_k29, qst_l29, qst_gf2, qlf_kd, qlf_gf0, qlf_k31, qlf_l31, qlf_gf1, qlf_gf3, qlf_gf4, qlf_gf5, qlf_gf6, qlf_k203, qlf_l203, qlf_gf7, qlf_gf2, qlf_pf2, qlf_gf8, qlf_pf8, wrI_row, cpI_row, row_s, row_n, row_ss, row_sw, upd_s, upd_n, ad_inj, ad_z, ad_z2, Nat.reduceEqDiff, reduceCtorEq, List.cons_append, List.nil_append, Option.toList_some, Option.toList_none, Int.toNat_natCast, List.length_cons, List.length_nil, Int.cast_ofNat_Int, Nat.reduceAdd, Nat.reduceLeDiff, Nat.reduceLT, Nat.reduceMul, Int.reduceAdd, Int.reduceSub, Int.reduceMul, Int.reduceNeg, Int.reduceLT, Int.reduceLE, Int.reduceEq, Int.reduceToNat, eq_self, true_and, and_true, true_or, or_true, false_or, or_false, if_true, if_false, not_true_eq_false, not_false_eq_true, and_self, ne_eq, hLf, hN1, hS, hm1, r7, wp_tsw_i (v := 1) (lo := 0) (hi := 2) (t := 51) (ts := [44, 51, 58]) (by omega) (rng_32 (by unfold i32; omega)) rfl]
        (repeat' (first | apply And.intro | split)) <;> first | omega | exact q
      · by_cases w2 : w = 2
        · rw [if_neg w0, if_neg w1, if_pos w2] at q
          subst w2
          simp only [m_L_segment, b_L_segment_0, P_L_segment_18, b_L_segment_18, P_L_segment_44, b_L_segment_44, P_L_segment_51, b_L_segment_51, P_L_segment_58, b_L_segment_58, P_L_segment_64, b_L_segment_64, wp_aln0, wp_aln3, wp_asn3, wp_cv1, wp_cv2, wp_cv3, wp_cv4, wp_cv5, wp_cv6, wp_cv7, wp_iald, wp_iconst, wp_iln1, wp_iln2, wp_iret, wp_izne, wp_zret, qsc_kd, qsc_k1, qsc_l1, qsc_gf1, qsc_k2, qsc_l2, qsc_gf2, qsc_k3, qsc_l3, qsc_gf3, qsc_k4, qsc_l4, qsc_gf4, qsc_k5, qsc_l5, qsc_gf6, qsc_k6, qsc_l6, qsc_gf7, qsc_k7, qsc_l7, qsc_gf9, qsc_k8, qsc_l8, qsc_gf10, qsc_gf0, qsc_pf0, qsc_gf5, qsc_pf5, qsc_gf8, qsc_pf8, qst_kd, qst_gf0, qst_k10, qst_l10, qst_gf1, qst_k29, qst_l29, qst_gf2, qlf_kd, qlf_gf0, qlf_k31, qlf_l31, qlf_gf1, qlf_gf3, qlf_gf4, qlf_gf5, qlf_gf6, qlf_k203, qlf_l203, qlf_gf7, qlf_gf2, qlf_pf2, qlf_gf8, qlf_pf8, wrI_row, cpI_row, row_s, row_n, row_ss, row_sw, upd_s, upd_n, ad_inj, ad_z, ad_z2, Nat.reduceEqDiff, reduceCtorEq, List.cons_append, List.nil_append, Option.toList_some, Option.toList_none, Int.toNat_natCast, List.length_cons, List.length_nil, Int.cast_ofNat_Int, Nat.reduceAdd, Nat.reduceLeDiff, Nat.reduceLT, Nat.reduceMul, Int.reduceAdd, Int.reduceSub, Int.reduceMul, Int.reduceNeg, Int.reduceLT, Int.reduceLE, Int.reduceEq, Int.reduceToNat, eq_self, true_and, and_true, true_or, or_true, false_or, or_false, if_true, if_false, not_true_eq_false, not_false_eq_true, and_self, ne_eq, hLf, hN1, hS, hm1, hff, wp_tsw_i (v := 2) (lo := 0) (hi := 2) (t := 58) (ts := [44, 51, 58]) (by omega) (rng_32 (by unfold i32; omega)) rfl]
          (repeat' (first | apply And.intro | split)) <;> first | omega | exact q
        · rw [if_neg w0, if_neg w1, if_neg w2] at q
          simp only [m_L_segment, b_L_segment_0, P_L_segment_18, b_L_segment_18, P_L_segment_44, b_L_segment_44, P_L_segment_51, b_L_segment_51, P_L_segment_58, b_L_segment_58, P_L_segment_64, b_L_segment_64, wp_aln0, wp_aln3, wp_asn3, wp_cv1, wp_cv2, wp_cv3, wp_cv4, wp_cv5, wp_cv6, wp_cv7, wp_iald, wp_iconst, wp_iln1, wp_iln2, wp_iret, wp_izne, wp_zret, qsc_kd, qsc_k1, qsc_l1, qsc_gf1, qsc_k2, qsc_l2, qsc_gf2, qsc_k3, qsc_l3, qsc_gf3, qsc_k4, qsc_l4, qsc_gf4, qsc_k5, qsc_l5, qsc_gf6, qsc_k6, qsc_l6, qsc_gf7, qsc_k7, qsc_l7, qsc_gf9, qsc_k8, qsc_l8, qsc_gf10, qsc_gf0, qsc_pf0, qsc_gf5, qsc_pf5, qsc_gf8, qsc_pf8, qst_kd, qst_gf0, qst_k10, qst_l10, qst_gf1, qst_k29, qst_l29, qst_gf2, qlf_kd, qlf_gf0, qlf_k31, qlf_l31, qlf_gf1, qlf_gf3, qlf_gf4, qlf_gf5, qlf_gf6, qlf_k203, qlf_l203, qlf_gf7, qlf_gf2, qlf_pf2, qlf_gf8, qlf_pf8, wrI_row, cpI_row, row_s, row_n, row_ss, row_sw, upd_s, upd_n, ad_inj, ad_z, ad_z2, Nat.reduceEqDiff, reduceCtorEq, List.cons_append, List.nil_append, Option.toList_some, Option.toList_none, Int.toNat_natCast, List.length_cons, List.length_nil, Int.cast_ofNat_Int, Nat.reduceAdd, Nat.reduceLeDiff, Nat.reduceLT, Nat.reduceMul, Int.reduceAdd, Int.reduceSub, Int.reduceMul, Int.reduceNeg, Int.reduceLT, Int.reduceLE, Int.reduceEq, Int.reduceToNat, eq_self, true_and, and_true, true_or, or_true, false_or, or_false, if_true, if_false, not_true_eq_false, not_false_eq_true, and_self, ne_eq, hLf, hN1, hS, hm1, wp_tsw_o (v := w) (lo := 0) (hi := 2) (by omega) (rng_32 hw)]
          (repeat' (first | apply And.intro | split)) <;> first | omega | exact q
  · rw [b2_f c1] at hm1
    rw [if_neg c1] at q
    simp only [m_L_segment, b_L_segment_0, P_L_segment_18, b_L_segment_18, P_L_segment_44, b_L_segment_44, P_L_segment_51, b_L_segment_51, P_L_segment_58, b_L_segment_58, P_L_segment_64, b_L_segment_64, wp_aln0, wp_aln3, wp_asn3, wp_cv1, wp_cv2, wp_cv3, wp_cv4, wp_cv5, wp_cv6, wp_cv7, wp_iald, wp_iconst, wp_iln1, wp_iln2, wp_iret, wp_izne, wp_zret, qsc_kd, qsc_k1, qsc_l1, qsc_gf1, qsc_k2, qsc_l2, qsc_gf2, qsc_k3, qsc_l3, qsc_gf3, qsc_k4, qsc_l4, qsc_gf4, qsc_k5, qsc_l5, qsc_gf6, qsc_k6, qsc_l6, qsc_gf7, qsc_k7, qsc_l7, qsc_gf9, qsc_k8, qsc_l8, qsc_gf10, qsc_gf0, qsc_pf0, qsc_gf5, qsc_pf5, qsc_gf8, qsc_pf8, qst_kd, qst_gf0, qst_k10, qst_l10, qst_gf1, qst_k29, qst_l29, qst_gf2, qlf_kd, qlf_gf0, qlf_k31, qlf_l31, qlf_gf1, qlf_gf3, qlf_gf4, qlf_gf5, qlf_gf6, qlf_k203, qlf_l203, qlf_gf7, qlf_gf2, qlf_pf2, qlf_gf8, qlf_pf8, wrI_row, cpI_row, row_s, row_n, row_ss, row_sw, upd_s, upd_n, ad_inj, ad_z, ad_z2, Nat.reduceEqDiff, reduceCtorEq, List.cons_append, List.nil_append, Option.toList_some, Option.toList_none, Int.toNat_natCast, List.length_cons, List.length_nil, Int.cast_ofNat_Int, Nat.reduceAdd, Nat.reduceLeDiff, Nat.reduceLT, Nat.reduceMul, Int.reduceAdd, Int.reduceSub, Int.reduceMul, Int.reduceNeg, Int.reduceLT, Int.reduceLE, Int.reduceEq, Int.reduceToNat, eq_self, true_and, and_true, true_or, or_true, false_or, or_false, if_true, if_false, not_true_eq_false, not_false_eq_true, and_self, ne_eq, hLf, hN1, hS, hm1]
    (repeat' (first | apply And.intro | split)) <;> first | omega | exact q
end TXT
