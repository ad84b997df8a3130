/-! readItem, load of the reference -/
section MLE
variable {zt : Nat → Nat} {g : Nat → Nat → Int} {ρ : Ri} {M L : Nat} {Q : Option AV → Sto → Prop} {U : Vw}
/-- what reading onto the spare page leaves -/
def itF (g : Nat → Nat → Int) (M : Nat) (g' : Nat → Nat → Int) : Prop := (∀ x, x ≠ M → x ≠ ad M 2 → g' x = g x) ∧ (∀ k, k ≠ 8 → k ≠ 9 → g' M k = g M k) ∧ ∀ y, 317 ≤ y → g' (ad M 2) y = g (ad M 2) y
def itM (g : Nat → Nat → Int) (M : Nat) (w : Int × Nat × Vw) (g' : Nat → Nat → Int) : Prop := itF g M g' ∧ (w.1 ≠ -1 → g' M 8 = w.1) ∧ (w.1 = -1 → g' M 8 = w.2.1 ∧ LR (-1) (vwM (g' (ad M 2))) w.2.2)
theorem itF.refl : itF g M g := ⟨fun _ _ _ => rfl, fun _ _ _ => rfl, fun _ _ => rfl⟩
theorem itF.trans {g1 g2 : Nat → Nat → Int} (h : itF g M g1) (h2 : itF g1 M g2) : itF g M g2 := ⟨fun x z1 z2 => (h2.1 x z1 z2).trans (h.1 x z1 z2), fun k z1 z2 => (h2.2.1 k z1 z2).trans (h.2.1 k z1 z2), fun y z => (h2.2.2 y z).trans (h.2.2 y z)⟩
theorem rdE.it {g1 : Nat → Nat → Int} (h : rdE g M g1) : itF g M g1 := ⟨fun x z1 _ => h.1 x z1, h.2, fun y _ => by rw [h.1 (ad M 2) (by unfold ad; omega)]⟩
theorem it_8 {v : Int} : itF g M (setRow g M (upd1 (g M) 8 v)) := ⟨fun x z1 _ => row_n z1, fun k z1 _ => by rw [row_s, upd_n z1], fun y _ => by rw [row_n (by unfold ad; omega)]⟩
theorem it_2 {R : Nat → Int} (h : ∀ y, 317 ≤ y → R y = g (ad M 2) y) : itF g M (setRow g (ad M 2) R) := ⟨fun x _ z2 => row_n z2, fun k _ _ => by rw [row_n (by unfold ad; omega)], fun y z => by rw [row_s]; exact h y z⟩
theorem itF.tx {g1 : Nat → Nat → Int} (h : itF g M g1) (hT : txM g M L) : txM g1 M L ∧ g1 (ad M 4) = g (ad M 4) := by
  have e := h.1 (ad M 4) (by unfold ad; omega) (by unfold ad; omega)
  obtain ⟨t1, t2, t3⟩ := hT
  refine ⟨⟨t1, by rw [h.2.1 5 (by omega) (by omega)]; exact t2, fun j hj => ?_⟩, e⟩
  rw [e]
  exact t3 j hj
theorem item_tailM (hM : isMd ρ M) (hT : txM g M L) {p : Nat} (hp : p ≤ L) (h8 : g M 8 = p) {v : Nat} (h9 : g M 9 = v) (hR : LR (-1) (vwM (g (ad M 2))) U) (hU : WFV (-1) U) {c : Int} (hc : c = 46 ∨ (97 ≤ c ∧ c ≤ 105)) (hv : 1 ≤ v ∧ v ≤ 20) (hG : U 5 0 < 30) (hF : U 8 0 + v ≤ 99) {o2 : Option AV} {o3 : Option AV}
    (hQ : ∀ g' : Nat → Nat → Int, itM g M (itm2 (g (ad M 4)) L (insV U (U 5 0).toNat (kndC c) v) (U 8 0).toNat (U 0 0 - 1) p) g' → Q (some (AI (if (itm2 (g (ad M 4)) L (insV U (U 5 0).toNat (kndC c) v) (U 8 0).toNat (U 0 0 - 1) p).1 = -1 then 1 else 0))) (g', ρ)) : Wp zt 135 (P 135 89) [some (AR M), some (AI c), o2, o3, none] [] (g, ρ) Q := by
  have b0 := hU.1
  have b5 := hU.2.2.2.2.1
  have b8 := hU.2.2.2.2.2.2.1
  have e5 := m_5 hR
  have a1 := allOf_ok (zt := zt) (g := g) (ρ := ρ) (qmd_k2 hM) (qmd_l2 hM) hR hU
  have hkd : 0 ≤ kndC c ∧ kndC c ≤ 9 := by
    unfold kndC
    split
    · omega
    · split <;> omega
  have hW1 := insV_wf hU (s := (U 5 0).toNat) (m := v) (kd := kndC c) (by omega) hG hkd hv hF
  obtain ⟨T, hTe⟩ : ∃ T, T = g (ad M 4) := ⟨_, rfl⟩
  rw [← hTe] at hQ
  have hL := hT.1
  have sb := skp_b (T := T) hp
  have main : ∀ R' : Nat → Int, LR (-1) (vwM R') (insV U (U 5 0).toNat (kndC c) v) → (∀ y, 317 ≤ y → R' y = g (ad M 2) y) → WpM zt 133 [AR M] (setRow g (ad M 2) R', ρ) (fun v2 s2 => v2 = none ∧ Wp zt 135 [(.aload_n 0, []), (.invokevirtual 142, [132, 1, 16]), (.bipush 33, []), (.if_icmp .eq 5, [146]), (.iconst 1, []), (.ireturn, [1])] [some (AR M), some (AI c), o2, o3, some (AI (U 8 0))] [] s2 Q) := by
    intro R' y1 y2
    have hF1 := it_2 (g := g) (M := M) y2
    have hT1 := hF1.tx hT
    have os := overSpaces_ok (zt := zt) (g := setRow g (ad M 2) R') (ρ := ρ) hM hT1.1 (p := p) hp (by rw [row_n (by unfold ad; omega)]; exact h8)
    rw [hT1.2, ← hTe] at os
    rw [os]
    refine ⟨rfl, ?_⟩
    obtain ⟨q, hq⟩ : ∃ q, q = skp T L p := ⟨_, rfl⟩
    rw [← hq]
    rw [← hq] at sb
    obtain ⟨g4, hg4⟩ : ∃ g4, g4 = setRow (setRow g (ad M 2) R') M (upd1 ((setRow g (ad M 2) R') M) 8 (q : Nat)) := ⟨_, rfl⟩
    rw [← hg4]
    have hF4 : itF g M g4 := by rw [hg4]; exact hF1.trans it_8
    have hT4 := hF4.tx hT
    rw [← hTe] at hT4
    have p4 : g4 M 8 = (q : Nat) := by rw [hg4, row_s, upd_s]
    have r4 : g4 (ad M 2) = R' := by rw [hg4, row_n (by unfold ad; omega), row_s]
    have hh := here_ok (zt := zt) (g := g4) (ρ := ρ) hM hT4.1 (p := q) sb.2 p4
    rw [hT4.2] at hh
    by_cases c1 : q < L ∧ T q = 33
    · have eit : itm2 T L (insV U (U 5 0).toNat (kndC c) v) (U 8 0).toNat (U 0 0 - 1) p = (if bad T L 0 (U 0 0 - 1) (skp T L (q + 1)) = true then (((skp T L (q + 1) : Nat) : Int), 0, insV U (U 5 0).toNat (kndC c) v) else (-1, (num T L (skp T L (q + 1))).1, setV (insV U (U 5 0).toNat (kndC c) v) 9 (U 8 0).toNat (num T L (skp T L (q + 1))).2) : Int × Nat × Vw) := by
        unfold itm2
        rw [← hq, if_pos c1]
      rw [eit] at hQ
      rw [if_pos c1.1, c1.2] at hh
      have r0 : g4 (ad M 2) 0 = U 0 0 := by
        rw [r4]
        have y0 := m_0 y1
        exact y0
      obtain ⟨g5, hg5⟩ : ∃ g5, g5 = setRow g4 M (upd1 (g4 M) 8 ((q : Int) + 1)) := ⟨_, rfl⟩
      have hF5 : itF g M g5 := by rw [hg5]; exact hF4.trans it_8
      have hT5 := hF5.tx hT
      rw [← hTe] at hT5
      have r5 : g5 (ad M 2) = R' := by rw [hg5, row_n (by unfold ad; omega), r4]
      have p5 : g5 M 8 = ((q + 1 : Nat) : Int) := by rw [hg5, row_s, upd_s]; omega
      have z2M : (ad M 2 = M) ↔ False := iff_false_intro (by unfold ad; omega)
      have fin : WpM zt 134 [AR M, AI 0, AI (U 0 0 - 1)] (g5, ρ) (fun v2 s2 => Wp zt 135 ((.ifCond .ne 5, [174]) :: (.iconst 0, []) :: (.ireturn, [1]) :: []) [some (AR M), some (AI c), o2, o3, some (AI (U 8 0))] (v2.toList ++ []) s2 Q) := by
        refine readNumber_okM hM hT5.1 (p := q + 1) (by omega) p5 (by omega) (by omega) (fun hb g' y3 y4 => ?_) (fun hb g' y3 y4 y5 => ?_)
        · rw [hT5.2] at hb y4
          rw [if_pos hb] at hQ
          have q9 := hQ g' ⟨hF5.trans y3.it, fun _ => y4, fun z => absurd z (by omega)⟩
          rw [if_neg (by omega)] at q9
          simp only [m_M_readItem, b_M_readItem_0, wp_abs, wp_aln0, wp_bipush, wp_copy, wp_cs1, wp_cs2, wp_cs3, wp_cs4, wp_cs5, wp_cs6, wp_cs7, wp_cv1, wp_cv2, wp_cv3, wp_cv4, wp_cv5, wp_cv6, wp_cv7, wp_dup, wp_goto, wp_iadd, wp_iald, wp_iast, wp_iceq, wp_icge, wp_icne, wp_iconst, wp_il4, wp_iln1, wp_iln2, wp_iln3, wp_iret, wp_is4, wp_isn1, wp_isn2, wp_isn3, wp_isub, wp_izeq, wp_izne, wp_max, wp_min, wp_nop, wp_zret, qmd_kd, qmd_k1, qmd_l1, qmd_gf0, qmd_k2, qmd_l2, qmd_gf1, qmd_k3, qmd_l3, qmd_gf2, qmd_k4, qmd_l4, qmd_gf4, qmd_k5, qmd_l5, qmd_gf6, qmd_k6, qmd_l6, qmd_gf7, qmd_k7, qmd_l7, qmd_gf10, qmd_k8, qmd_l8, qmd_gf11, qmd_k9, qmd_l9, qmd_gf12, qmd_gf3, qmd_pf3, qmd_gf5, qmd_pf5, qmd_gf8, qmd_pf8, qmd_gf9, qmd_pf9, wrI_row, cpI_row, row_s, row_n, row_ss, row_sw, upd_s, upd_n, ad_inj, ad_z, ad_z2, Nat.reduceEqDiff, reduceCtorEq, List.cons_append, List.nil_append, Option.toList_some, Option.toList_none, Int.toNat_natCast, List.length_cons, List.length_nil, Int.cast_ofNat_Int, Nat.reduceAdd, Nat.reduceLeDiff, Nat.reduceLT, Nat.reduceMul, Int.reduceAdd, Int.reduceSub, Int.reduceMul, Int.reduceNeg, Int.reduceLT, Int.reduceLE, Int.reduceEq, Int.reduceToNat, eq_self, true_and, and_true, true_or, or_true, false_or, or_false, if_true, if_false, not_true_eq_false, not_false_eq_true, and_self, ne_eq, hM]
          (repeat' (first | apply And.intro | split)) <;> first | omega | exact q9
        · rw [hT5.2] at hb y4 y5
          rw [if_neg (by rw [hb]; decide)] at hQ
          have nb := num_b (T := T) (L := L) (p := skp T L (q + 1)) (skp_b (T := T) (by omega)).2
          have hbn : ¬ bad T L 0 (U 0 0 - 1) (skp T L (q + 1)) = true := by rw [hb]; decide
          have hN : 0 ≤ (num T L (skp T L (q + 1))).2 ∧ (num T L (skp T L (q + 1))).2 ≤ U 0 0 - 1 := by
            exact ⟨by omega, Int.not_lt.1 (fun z => hbn (bad_i.2 (Or.inr (Or.inr (Or.inr z)))))⟩
          have r6 : g' (ad M 2) = R' := by rw [y3.1 _ (by unfold ad; omega)]; exact r5
          have e8 : (119 + U 8 0).toNat = 119 + (U 8 0).toNat := by omega
          have i58 : R' 58 ≤ 30 := by
            rw [m_5 y1]
            show U 5 0 + 1 ≤ 30
            omega
          have hu := vwM_u9 (r := R') (v := (num T L (skp T L (q + 1))).2) i58 (J := (U 8 0).toNat) (p := 119 + (U 8 0).toNat) (by omega) rfl
          have hl : LR (-1) (vwM (upd1 R' (119 + (U 8 0).toNat) (num T L (skp T L (q + 1))).2)) (setV (insV U (U 5 0).toNat (kndC c) v) 9 (U 8 0).toNat (num T L (skp T L (q + 1))).2) := lr_setp y1 (Or.inl rfl) (fun k' j' z1 z2 => hu.2 k' j' z1 z2) (by rw [hu.1, nn_1])
          have q9 := hQ (setRow g' (ad M 2) (upd1 R' (119 + (U 8 0).toNat) (num T L (skp T L (q + 1))).2)) ⟨(hF5.trans y3.it).trans (it_2 (fun y hy => by rw [upd_n (by omega), r6])), fun z => absurd rfl z, fun _ => ⟨by rw [row_n (by unfold ad; omega)]; exact y4, by rw [row_s]; exact hl⟩⟩
          rw [if_pos rfl] at q9
          have k174 : Wp zt 135 (P 135 174) [some (AR M), some (AI c), o2, o3, some (AI (U 8 0))] [] (g', ρ) Q := by
            rw [P_M_readItem_174]
            simp only [m_M_readItem, b_M_readItem_0, wp_abs, wp_aln0, wp_bipush, wp_copy, wp_cs1, wp_cs2, wp_cs3, wp_cs4, wp_cs5, wp_cs6, wp_cs7, wp_cv1, wp_cv2, wp_cv3, wp_cv4, wp_cv5, wp_cv6, wp_cv7, wp_dup, wp_goto, wp_iadd, wp_iald, wp_iast, wp_iceq, wp_icge, wp_icne, wp_iconst, wp_il4, wp_iln1, wp_iln2, wp_iln3, wp_iret, wp_is4, wp_isn1, wp_isn2, wp_isn3, wp_isub, wp_izeq, wp_izne, wp_max, wp_min, wp_nop, wp_zret, qmd_kd, qmd_k1, qmd_l1, qmd_gf0, qmd_k2, qmd_l2, qmd_gf1, qmd_k3, qmd_l3, qmd_gf2, qmd_k4, qmd_l4, qmd_gf4, qmd_k5, qmd_l5, qmd_gf6, qmd_k6, qmd_l6, qmd_gf7, qmd_k7, qmd_l7, qmd_gf10, qmd_k8, qmd_l8, qmd_gf11, qmd_k9, qmd_l9, qmd_gf12, qmd_gf3, qmd_pf3, qmd_gf5, qmd_pf5, qmd_gf8, qmd_pf8, qmd_gf9, qmd_pf9, wrI_row, cpI_row, row_s, row_n, row_ss, row_sw, upd_s, upd_n, ad_inj, ad_z, ad_z2, Nat.reduceEqDiff, reduceCtorEq, List.cons_append, List.nil_append, Option.toList_some, Option.toList_none, Int.toNat_natCast, List.length_cons, List.length_nil, Int.cast_ofNat_Int, Nat.reduceAdd, Nat.reduceLeDiff, Nat.reduceLT, Nat.reduceMul, Int.reduceAdd, Int.reduceSub, Int.reduceMul, Int.reduceNeg, Int.reduceLT, Int.reduceLE, Int.reduceEq, Int.reduceToNat, eq_self, true_and, and_true, true_or, or_true, false_or, or_false, if_true, if_false, not_true_eq_false, not_false_eq_true, and_self, ne_eq, b_M_readItem_174, hM, e8, y5, r6]
            (repeat' (first | apply And.intro | split)) <;> first | omega | exact q9
          simp only [m_M_readItem, b_M_readItem_0, wp_abs, wp_aln0, wp_bipush, wp_copy, wp_cs1, wp_cs2, wp_cs3, wp_cs4, wp_cs5, wp_cs6, wp_cs7, wp_cv1, wp_cv2, wp_cv3, wp_cv4, wp_cv5, wp_cv6, wp_cv7, wp_dup, wp_goto, wp_iadd, wp_iald, wp_iast, wp_iceq, wp_icge, wp_icne, wp_iconst, wp_il4, wp_iln1, wp_iln2, wp_iln3, wp_iret, wp_is4, wp_isn1, wp_isn2, wp_isn3, wp_isub, wp_izeq, wp_izne, wp_max, wp_min, wp_nop, wp_zret, qmd_kd, qmd_k1, qmd_l1, qmd_gf0, qmd_k2, qmd_l2, qmd_gf1, qmd_k3, qmd_l3, qmd_gf2, qmd_k4, qmd_l4, qmd_gf4, qmd_k5, qmd_l5, qmd_gf6, qmd_k6, qmd_l6, qmd_gf7, qmd_k7, qmd_l7, qmd_gf10, qmd_k8, qmd_l8, qmd_gf11, qmd_k9, qmd_l9, qmd_gf12, qmd_gf3, qmd_pf3, qmd_gf5, qmd_pf5, qmd_gf8, qmd_pf8, qmd_gf9, qmd_pf9, wrI_row, cpI_row, row_s, row_n, row_ss, row_sw, upd_s, upd_n, ad_inj, ad_z, ad_z2, Nat.reduceEqDiff, reduceCtorEq, List.cons_append, List.nil_append, Option.toList_some, Option.toList_none, Int.toNat_natCast, List.length_cons, List.length_nil, Int.cast_ofNat_Int, Nat.reduceAdd, Nat.reduceLeDiff, Nat.reduceLT, Nat.reduceMul, Int.reduceAdd, Int.reduceSub, Int.reduceMul, Int.reduceNeg, Int.reduceLT, Int.reduceLE, Int.reduceEq, Int.reduceToNat, eq_self, true_and, and_true, true_or, or_true, false_or, or_false, if_true, if_false, not_true_eq_false, not_false_eq_true, and_self, ne_eq, hM]
          (repeat' (first | apply And.intro | split)) <;> first | omega | exact k174
      have k146 : Wp zt 135 (P 135 146) [some (AR M), some (AI c), o2, o3, some (AI (U 8 0))] [] (g4, ρ) Q := by
        rw [P_M_readItem_146]
        simp only [m_M_readItem, b_M_readItem_0, wp_abs, wp_aln0, wp_bipush, wp_copy, wp_cs1, wp_cs2, wp_cs3, wp_cs4, wp_cs5, wp_cs6, wp_cs7, wp_cv1, wp_cv2, wp_cv3, wp_cv4, wp_cv5, wp_cv6, wp_cv7, wp_dup, wp_goto, wp_iadd, wp_iald, wp_iast, wp_iceq, wp_icge, wp_icne, wp_iconst, wp_il4, wp_iln1, wp_iln2, wp_iln3, wp_iret, wp_is4, wp_isn1, wp_isn2, wp_isn3, wp_isub, wp_izeq, wp_izne, wp_max, wp_min, wp_nop, wp_zret, qmd_kd, qmd_k1, qmd_l1, qmd_gf0, qmd_k2, qmd_l2, qmd_gf1, qmd_k3, qmd_l3, qmd_gf2, qmd_k4, qmd_l4, qmd_gf4, qmd_k5, qmd_l5, qmd_gf6, qmd_k6, qmd_l6, qmd_gf7, qmd_k7, qmd_l7, qmd_gf10, qmd_k8, qmd_l8, qmd_gf11, qmd_k9, qmd_l9, qmd_gf12, qmd_gf3, qmd_pf3, qmd_gf5, qmd_pf5, qmd_gf8, qmd_pf8, qmd_gf9, qmd_pf9, wrI_row, cpI_row, row_s, row_n, row_ss, row_sw, upd_s, upd_n, ad_inj, ad_z, ad_z2, Nat.reduceEqDiff, reduceCtorEq, List.cons_append, List.nil_append, Option.toList_some, Option.toList_none, Int.toNat_natCast, List.length_cons, List.length_nil, Int.cast_ofNat_Int, Nat.reduceAdd, Nat.reduceLeDiff, Nat.reduceLT, Nat.reduceMul, Int.reduceAdd, Int.reduceSub, Int.reduceMul, Int.reduceNeg, Int.reduceLT, Int.reduceLE, Int.reduceEq, Int.reduceToNat, eq_self, true_and, and_true, true_or, or_true, false_or, or_false, if_true, if_false, not_true_eq_false, not_false_eq_true, and_self, ne_eq, b_M_readItem_146, hM, p4, z2M, r0]
        rw [← hg5]
        (repeat' (first | apply And.intro | split)) <;> first | omega | exact fin
      simp only [m_M_readItem, b_M_readItem_0, wp_abs, wp_aln0, wp_bipush, wp_copy, wp_cs1, wp_cs2, wp_cs3, wp_cs4, wp_cs5, wp_cs6, wp_cs7, wp_cv1, wp_cv2, wp_cv3, wp_cv4, wp_cv5, wp_cv6, wp_cv7, wp_dup, wp_goto, wp_iadd, wp_iald, wp_iast, wp_iceq, wp_icge, wp_icne, wp_iconst, wp_il4, wp_iln1, wp_iln2, wp_iln3, wp_iret, wp_is4, wp_isn1, wp_isn2, wp_isn3, wp_isub, wp_izeq, wp_izne, wp_max, wp_min, wp_nop, wp_zret, qmd_kd, qmd_k1, qmd_l1, qmd_gf0, qmd_k2, qmd_l2, qmd_gf1, qmd_k3, qmd_l3, qmd_gf2, qmd_k4, qmd_l4, qmd_gf4, qmd_k5, qmd_l5, qmd_gf6, qmd_k6, qmd_l6, qmd_gf7, qmd_k7, qmd_l7, qmd_gf10, qmd_k8, qmd_l8, qmd_gf11, qmd_k9, qmd_l9, qmd_gf12, qmd_gf3, qmd_pf3, qmd_gf5, qmd_pf5, qmd_gf8, qmd_pf8, qmd_gf9, qmd_pf9, wrI_row, cpI_row, row_s, row_n, row_ss, row_sw, upd_s, upd_n, ad_inj, ad_z, ad_z2, Nat.reduceEqDiff, reduceCtorEq, List.cons_append, List.nil_append, Option.toList_some, Option.toList_none, Int.toNat_natCast, List.length_cons, List.length_nil, Int.cast_ofNat_Int, Nat.reduceAdd, Nat.reduceLeDiff, Nat.reduceLT, Nat.reduceMul, Int.reduceAdd, Int.reduceSub, Int.reduceMul, Int.reduceNeg, Int.reduceLT, Int.reduceLE, Int.reduceEq, Int.reduceToNat, eq_self, true_and, and_true, true_or, or_true, false_or, or_false, if_true, if_false, not_true_eq_false, not_false_eq_true, and_self, ne_eq, hM, hh]
      (repeat' (first | apply And.intro | split)) <;> first | omega | exact k146
    · have eit : itm2 T L (insV U (U 5 0).toNat (kndC c) v) (U 8 0).toNat (U 0 0 - 1) p = (-1, q, insV U (U 5 0).toNat (kndC c) v) := by
        unfold itm2
        rw [← hq, if_neg c1]
      rw [eit] at hQ
      have q9 := hQ g4 ⟨hF4, fun z => absurd rfl z, fun _ => ⟨p4, by rw [r4]; exact y1⟩⟩
      rw [if_pos rfl] at q9
      have hne : ¬ (if q < L then T q else 0) = 33 := by
        split
        next z => exact fun z2 => c1 ⟨z, z2⟩
        next z => omega
      have hbd : -2147483648 ≤ (if q < L then T q else 0) ∧ (if q < L then T q else 0) < 2147483648 := by
        split
        next z =>
          have := hT.2.2 q z
          rw [← hTe] at this
          omega
        next z => omega
      generalize (if q < L then T q else 0) = hv at *
      simp only [m_M_readItem, b_M_readItem_0, wp_abs, wp_aln0, wp_bipush, wp_copy, wp_cs1, wp_cs2, wp_cs3, wp_cs4, wp_cs5, wp_cs6, wp_cs7, wp_cv1, wp_cv2, wp_cv3, wp_cv4, wp_cv5, wp_cv6, wp_cv7, wp_dup, wp_goto, wp_iadd, wp_iald, wp_iast, wp_iceq, wp_icge, wp_icne, wp_iconst, wp_il4, wp_iln1, wp_iln2, wp_iln3, wp_iret, wp_is4, wp_isn1, wp_isn2, wp_isn3, wp_isub, wp_izeq, wp_izne, wp_max, wp_min, wp_nop, wp_zret, qmd_kd, qmd_k1, qmd_l1, qmd_gf0, qmd_k2, qmd_l2, qmd_gf1, qmd_k3, qmd_l3, qmd_gf2, qmd_k4, qmd_l4, qmd_gf4, qmd_k5, qmd_l5, qmd_gf6, qmd_k6, qmd_l6, qmd_gf7, qmd_k7, qmd_l7, qmd_gf10, qmd_k8, qmd_l8, qmd_gf11, qmd_k9, qmd_l9, qmd_gf12, qmd_gf3, qmd_pf3, qmd_gf5, qmd_pf5, qmd_gf8, qmd_pf8, qmd_gf9, qmd_pf9, wrI_row, cpI_row, row_s, row_n, row_ss, row_sw, upd_s, upd_n, ad_inj, ad_z, ad_z2, Nat.reduceEqDiff, reduceCtorEq, List.cons_append, List.nil_append, Option.toList_some, Option.toList_none, Int.toNat_natCast, List.length_cons, List.length_nil, Int.cast_ofNat_Int, Nat.reduceAdd, Nat.reduceLeDiff, Nat.reduceLT, Nat.reduceMul, Int.reduceAdd, Int.reduceSub, Int.reduceMul, Int.reduceNeg, Int.reduceLT, Int.reduceLE, Int.reduceEq, Int.reduceToNat, eq_self, true_and, and_true, true_or, or_true, false_or, or_false, if_true, if_false, not_true_eq_false, not_false_eq_true, and_self, ne_eq, hM, hh]
      (repeat' (first | apply And.intro | split)) <;> first | omega | exact q9
  have ek : (if c = 46 then (9 : Int) else c - 97) = kndC c := by
    unfold kndC
    by_cases c46 : c = 46
    · rw [if_pos c46, if_pos c46]
    · rw [if_neg c46, if_neg c46, if_pos (by omega)]
  rw [P_M_readItem_89]
  by_cases c46 : c = 46
  · rw [if_pos c46] at ek
    simp only [m_M_readItem, b_M_readItem_0, P_M_readItem_120, b_M_readItem_120, P_M_readItem_124, b_M_readItem_124, wp_abs, wp_aln0, wp_bipush, wp_copy, wp_cs1, wp_cs2, wp_cs3, wp_cs4, wp_cs5, wp_cs6, wp_cs7, wp_cv1, wp_cv2, wp_cv3, wp_cv4, wp_cv5, wp_cv6, wp_cv7, wp_dup, wp_goto, wp_iadd, wp_iald, wp_iast, wp_iceq, wp_icge, wp_icne, wp_iconst, wp_il4, wp_iln1, wp_iln2, wp_iln3, wp_iret, wp_is4, wp_isn1, wp_isn2, wp_isn3, wp_isub, wp_izeq, wp_izne, wp_max, wp_min, wp_nop, wp_zret, qmd_kd, qmd_k1, qmd_l1, qmd_gf0, qmd_k2, qmd_l2, qmd_gf1, qmd_k3, qmd_l3, qmd_gf2, qmd_k4, qmd_l4, qmd_gf4, qmd_k5, qmd_l5, qmd_gf6, qmd_k6, qmd_l6, qmd_gf7, qmd_k7, qmd_l7, qmd_gf10, qmd_k8, qmd_l8, qmd_gf11, qmd_k9, qmd_l9, qmd_gf12, qmd_gf3, qmd_pf3, qmd_gf5, qmd_pf5, qmd_gf8, qmd_pf8, qmd_gf9, qmd_pf9, wrI_row, cpI_row, row_s, row_n, row_ss, row_sw, upd_s, upd_n, ad_inj, ad_z, ad_z2, Nat.reduceEqDiff, reduceCtorEq, List.cons_append, List.nil_append, Option.toList_some, Option.toList_none, Int.toNat_natCast, List.length_cons, List.length_nil, Int.cast_ofNat_Int, Nat.reduceAdd, Nat.reduceLeDiff, Nat.reduceLT, Nat.reduceMul, Int.reduceAdd, Int.reduceSub, Int.reduceMul, Int.reduceNeg, Int.reduceLT, Int.reduceLE, Int.reduceEq, Int.reduceToNat, eq_self, true_and, and_true, true_or, or_true, false_or, or_false, if_true, if_false, not_true_eq_false, not_false_eq_true, and_self, ne_eq, b_M_readItem_89, hM, a1, e5, h9, c46]
    (repeat' (first | apply And.intro | split)) <;> first | omega | skip
    refine inserts_ok (qmd_k2 hM) (qmd_l2 hM) hR hU (s := (U 5 0).toNat) (m := v) (kd := 9) (by omega) (by omega) hv hG hF (by omega) rfl (fun R' y1 y2 => ?_)
    simp only [m_M_readItem, b_M_readItem_0, P_M_readItem_120, b_M_readItem_120, P_M_readItem_124, b_M_readItem_124, wp_abs, wp_aln0, wp_bipush, wp_copy, wp_cs1, wp_cs2, wp_cs3, wp_cs4, wp_cs5, wp_cs6, wp_cs7, wp_cv1, wp_cv2, wp_cv3, wp_cv4, wp_cv5, wp_cv6, wp_cv7, wp_dup, wp_goto, wp_iadd, wp_iald, wp_iast, wp_iceq, wp_icge, wp_icne, wp_iconst, wp_il4, wp_iln1, wp_iln2, wp_iln3, wp_iret, wp_is4, wp_isn1, wp_isn2, wp_isn3, wp_isub, wp_izeq, wp_izne, wp_max, wp_min, wp_nop, wp_zret, qmd_kd, qmd_k1, qmd_l1, qmd_gf0, qmd_k2, qmd_l2, qmd_gf1, qmd_k3, qmd_l3, qmd_gf2, qmd_k4, qmd_l4, qmd_gf4, qmd_k5, qmd_l5, qmd_gf6, qmd_k6, qmd_l6, qmd_gf7, qmd_k7, qmd_l7, qmd_gf10, qmd_k8, qmd_l8, qmd_gf11, qmd_k9, qmd_l9, qmd_gf12, qmd_gf3, qmd_pf3, qmd_gf5, qmd_pf5, qmd_gf8, qmd_pf8, qmd_gf9, qmd_pf9, wrI_row, cpI_row, row_s, row_n, row_ss, row_sw, upd_s, upd_n, ad_inj, ad_z, ad_z2, Nat.reduceEqDiff, reduceCtorEq, List.cons_append, List.nil_append, Option.toList_some, Option.toList_none, Int.toNat_natCast, List.length_cons, List.length_nil, Int.cast_ofNat_Int, Nat.reduceAdd, Nat.reduceLeDiff, Nat.reduceLT, Nat.reduceMul, Int.reduceAdd, Int.reduceSub, Int.reduceMul, Int.reduceNeg, Int.reduceLT, Int.reduceLE, Int.reduceEq, Int.reduceToNat, eq_self, true_and, and_true, true_or, or_true, false_or, or_false, if_true, if_false, not_true_eq_false, not_false_eq_true, and_self, ne_eq, hM]
    rw [ek] at y1
    refine wpm_mono (main R' y1 y2) (fun v2 s2 z => ?_)
    obtain ⟨rfl, z⟩ := z
    rw [c46] at z
    exact z
  · rw [if_neg c46] at ek
    simp only [m_M_readItem, b_M_readItem_0, P_M_readItem_120, b_M_readItem_120, P_M_readItem_124, b_M_readItem_124, wp_abs, wp_aln0, wp_bipush, wp_copy, wp_cs1, wp_cs2, wp_cs3, wp_cs4, wp_cs5, wp_cs6, wp_cs7, wp_cv1, wp_cv2, wp_cv3, wp_cv4, wp_cv5, wp_cv6, wp_cv7, wp_dup, wp_goto, wp_iadd, wp_iald, wp_iast, wp_iceq, wp_icge, wp_icne, wp_iconst, wp_il4, wp_iln1, wp_iln2, wp_iln3, wp_iret, wp_is4, wp_isn1, wp_isn2, wp_isn3, wp_isub, wp_izeq, wp_izne, wp_max, wp_min, wp_nop, wp_zret, qmd_kd, qmd_k1, qmd_l1, qmd_gf0, qmd_k2, qmd_l2, qmd_gf1, qmd_k3, qmd_l3, qmd_gf2, qmd_k4, qmd_l4, qmd_gf4, qmd_k5, qmd_l5, qmd_gf6, qmd_k6, qmd_l6, qmd_gf7, qmd_k7, qmd_l7, qmd_gf10, qmd_k8, qmd_l8, qmd_gf11, qmd_k9, qmd_l9, qmd_gf12, qmd_gf3, qmd_pf3, qmd_gf5, qmd_pf5, qmd_gf8, qmd_pf8, qmd_gf9, qmd_pf9, wrI_row, cpI_row, row_s, row_n, row_ss, row_sw, upd_s, upd_n, ad_inj, ad_z, ad_z2, Nat.reduceEqDiff, reduceCtorEq, List.cons_append, List.nil_append, Option.toList_some, Option.toList_none, Int.toNat_natCast, List.length_cons, List.length_nil, Int.cast_ofNat_Int, Nat.reduceAdd, Nat.reduceLeDiff, Nat.reduceLT, Nat.reduceMul, Int.reduceAdd, Int.reduceSub, Int.reduceMul, Int.reduceNeg, Int.reduceLT, Int.reduceLE, Int.reduceEq, Int.reduceToNat, eq_self, true_and, and_true, true_or, or_true, false_or, or_false, if_true, if_false, not_true_eq_false, not_false_eq_true, and_self, ne_eq, b_M_readItem_89, hM, a1, e5, h9, c46]
    (repeat' (first | apply And.intro | split)) <;> first | omega | skip
    refine inserts_ok (qmd_k2 hM) (qmd_l2 hM) hR hU (s := (U 5 0).toNat) (m := v) (kd := c - 97) (by omega) (by omega) hv hG hF (by omega) rfl (fun R' y1 y2 => ?_)
    simp only [m_M_readItem, b_M_readItem_0, P_M_readItem_120, b_M_readItem_120, P_M_readItem_124, b_M_readItem_124, wp_abs, wp_aln0, wp_bipush, wp_copy, wp_cs1, wp_cs2, wp_cs3, wp_cs4, wp_cs5, wp_cs6, wp_cs7, wp_cv1, wp_cv2, wp_cv3, wp_cv4, wp_cv5, wp_cv6, wp_cv7, wp_dup, wp_goto, wp_iadd, wp_iald, wp_iast, wp_iceq, wp_icge, wp_icne, wp_iconst, wp_il4, wp_iln1, wp_iln2, wp_iln3, wp_iret, wp_is4, wp_isn1, wp_isn2, wp_isn3, wp_isub, wp_izeq, wp_izne, wp_max, wp_min, wp_nop, wp_zret, qmd_kd, qmd_k1, qmd_l1, qmd_gf0, qmd_k2, qmd_l2, qmd_gf1, qmd_k3, qmd_l3, qmd_gf2, qmd_k4, qmd_l4, qmd_gf4, qmd_k5, qmd_l5, qmd_gf6, qmd_k6, qmd_l6, qmd_gf7, qmd_k7, qmd_l7, qmd_gf10, qmd_k8, qmd_l8, qmd_gf11, qmd_k9, qmd_l9, qmd_gf12, qmd_gf3, qmd_pf3, qmd_gf5, qmd_pf5, qmd_gf8, qmd_pf8, qmd_gf9, qmd_pf9, wrI_row, cpI_row, row_s, row_n, row_ss, row_sw, upd_s, upd_n, ad_inj, ad_z, ad_z2, Nat.reduceEqDiff, reduceCtorEq, List.cons_append, List.nil_append, Option.toList_some, Option.toList_none, Int.toNat_natCast, List.length_cons, List.length_nil, Int.cast_ofNat_Int, Nat.reduceAdd, Nat.reduceLeDiff, Nat.reduceLT, Nat.reduceMul, Int.reduceAdd, Int.reduceSub, Int.reduceMul, Int.reduceNeg, Int.reduceLT, Int.reduceLE, Int.reduceEq, Int.reduceToNat, eq_self, true_and, and_true, true_or, or_true, false_or, or_false, if_true, if_false, not_true_eq_false, not_false_eq_true, and_self, ne_eq, hM]
    rw [ek] at y1
    refine wpm_mono (main R' y1 y2) (fun v2 s2 z => ?_)
    obtain ⟨rfl, z⟩ := z
    exact z
theorem readItem_okM (hM : isMd ρ M) (hT : txM g M L) {p : Nat} (hp : p < L) (h8 : g M 8 = p) (hR : LR (-1) (vwM (g (ad M 2))) U) (hU : WFV (-1) U)
    (hQ : ∀ g' : Nat → Nat → Int, itM g M (itmV (g (ad M 4)) L p U) g' → Q (some (AI (if (itmV (g (ad M 4)) L p U).1 = -1 then 1 else 0))) (g', ρ)) : WpM zt 135 [AR M] (g, ρ) Q := by
  have b0 := hU.1
  have b5 := hU.2.2.2.2.1
  have b8 := hU.2.2.2.2.2.2.1
  have e5 := m_5 hR
  have hh := here_ok (zt := zt) (g := g) (ρ := ρ) hM hT (p := p) (by omega) h8
  rw [if_pos hp] at hh
  have bt := hT.2.2 p hp
  have hL := hT.1
  obtain ⟨T, hTe⟩ : ∃ T, T = g (ad M 4) := ⟨_, rfl⟩
  rw [← hTe] at hQ hh bt
  have hz : ∀ w : Int × Nat × Vw, w = itmV T L p U → w.1 ≠ -1 → g M 8 = w.1 → Q (some (AI 0)) (g, ρ) := fun w hw h1 h2 => by
    have q := hQ g (by
      rw [← hw]
      exact ⟨itF.refl, fun _ => h2, fun z => absurd z h1⟩)
    rw [← hw, if_neg h1] at q
    exact q
  by_cases cl : T p = 46 ∨ (97 ≤ T p ∧ T p ≤ 105)
  · have hkn : ¬ kndC (T p) = -1 := by
      unfold kndC
      split
      · omega
      · split <;> omega
    have k22 : Wp zt 135 (P 135 22) [some (AR M), some (AI (T p)), none, none, none] [] (g, ρ) Q := by
      by_cases cG : 30 ≤ U 5 0
      · have q := hz ((p : Int), 0, U) (by unfold itmV; rw [if_pos (Or.inr cG)]) (by show (p : Int) ≠ -1; omega) h8
        have cG' : U 5 0 = 30 := by omega
        rw [P_M_readItem_22]
        simp only [m_M_readItem, b_M_readItem_0, P_M_readItem_26, b_M_readItem_26, P_M_readItem_27, b_M_readItem_27, P_M_readItem_44, b_M_readItem_44, P_M_readItem_46, b_M_readItem_46, P_M_readItem_79, b_M_readItem_79, P_M_readItem_81, b_M_readItem_81, P_M_readItem_89, b_M_readItem_89, P_M_readItem_120, b_M_readItem_120, P_M_readItem_124, b_M_readItem_124, P_M_readItem_146, b_M_readItem_146, P_M_readItem_174, b_M_readItem_174, wp_abs, wp_aln0, wp_bipush, wp_copy, wp_cs1, wp_cs2, wp_cs3, wp_cs4, wp_cs5, wp_cs6, wp_cs7, wp_cv1, wp_cv2, wp_cv3, wp_cv4, wp_cv5, wp_cv6, wp_cv7, wp_dup, wp_goto, wp_iadd, wp_iald, wp_iast, wp_iceq, wp_icge, wp_icne, wp_iconst, wp_il4, wp_iln1, wp_iln2, wp_iln3, wp_iret, wp_is4, wp_isn1, wp_isn2, wp_isn3, wp_isub, wp_izeq, wp_izne, wp_max, wp_min, wp_nop, wp_zret, qmd_kd, qmd_k1, qmd_l1, qmd_gf0, qmd_k2, qmd_l2, qmd_gf1, qmd_k3, qmd_l3, qmd_gf2, qmd_k4, qmd_l4, qmd_gf4, qmd_k5, qmd_l5, qmd_gf6, qmd_k6, qmd_l6, qmd_gf7, qmd_k7, qmd_l7, qmd_gf10, qmd_k8, qmd_l8, qmd_gf11, qmd_k9, qmd_l9, qmd_gf12, qmd_gf3, qmd_pf3, qmd_gf5, qmd_pf5, qmd_gf8, qmd_pf8, qmd_gf9, qmd_pf9, wrI_row, cpI_row, row_s, row_n, row_ss, row_sw, upd_s, upd_n, ad_inj, ad_z, ad_z2, Nat.reduceEqDiff, reduceCtorEq, List.cons_append, List.nil_append, Option.toList_some, Option.toList_none, Int.toNat_natCast, List.length_cons, List.length_nil, Int.cast_ofNat_Int, Nat.reduceAdd, Nat.reduceLeDiff, Nat.reduceLT, Nat.reduceMul, Int.reduceAdd, Int.reduceSub, Int.reduceMul, Int.reduceNeg, Int.reduceLT, Int.reduceLE, Int.reduceEq, Int.reduceToNat, eq_self, true_and, and_true, true_or, or_true, false_or, or_false, if_true, if_false, not_true_eq_false, not_false_eq_true, and_self, ne_eq, b_M_readItem_22, hM, e5, cG']
        (repeat' (first | apply And.intro | split)) <;> first | omega | exact q
      · have cG' : ¬ U 5 0 = 30 := by omega
        have a1 := allOf_ok (zt := zt) (g := setRow g M (upd1 (g M) 8 ((p : Int) + 1))) (ρ := ρ) (qmd_k2 hM) (qmd_l2 hM) (U := U) (by rw [row_n (by unfold ad; omega)]; exact hR) hU
        have hF1 := it_8 (g := g) (M := M) (v := (p : Int) + 1)
        have hT1 := hF1.tx hT
        rw [← hTe] at hT1
        have eI : itmV T L p U = if bad T L 1 (min 20 (99 - U 8 0)) (skp T L (p + 1)) = true then (((skp T L (p + 1) : Nat) : Int), 0, U) else itm2 T L (insV U (U 5 0).toNat (kndC (T p)) (num T L (skp T L (p + 1))).2.toNat) (U 8 0).toNat (U 0 0 - 1) (num T L (skp T L (p + 1))).1 := by
          unfold itmV
          rw [if_neg (fun z => z.elim hkn cG)]
        rw [eI] at hQ
        have fin : WpM zt 134 [AR M, AI 1, AI (min 20 (99 - U 8 0))] (setRow g M (upd1 (g M) 8 ((p : Int) + 1)), ρ) (fun v2 s2 => Wp zt 135 ((.ifCond .ne 5, [89]) :: (.iconst 0, []) :: (.ireturn, [1]) :: []) [some (AR M), some (AI (T p)), some (AI 1), some (AI (99 - U 8 0)), none] (v2.toList ++ []) s2 Q) := by
          refine readNumber_okM hM hT1.1 (p := p + 1) (by omega) (by rw [row_s, upd_s]; omega) (by omega) (by omega) (fun hb g' y3 y4 => ?_) (fun hb g' y3 y4 y5 => ?_)
          · rw [hT1.2] at hb y4
            rw [if_pos hb] at hQ
            have q9 := hQ g' ⟨hF1.trans y3.it, fun _ => y4, fun z => absurd z (by omega)⟩
            rw [if_neg (by omega)] at q9
            simp only [m_M_readItem, b_M_readItem_0, P_M_readItem_26, b_M_readItem_26, P_M_readItem_27, b_M_readItem_27, P_M_readItem_44, b_M_readItem_44, P_M_readItem_46, b_M_readItem_46, P_M_readItem_79, b_M_readItem_79, P_M_readItem_81, b_M_readItem_81, P_M_readItem_120, b_M_readItem_120, P_M_readItem_124, b_M_readItem_124, P_M_readItem_146, b_M_readItem_146, P_M_readItem_174, b_M_readItem_174, wp_abs, wp_aln0, wp_bipush, wp_copy, wp_cs1, wp_cs2, wp_cs3, wp_cs4, wp_cs5, wp_cs6, wp_cs7, wp_cv1, wp_cv2, wp_cv3, wp_cv4, wp_cv5, wp_cv6, wp_cv7, wp_dup, wp_goto, wp_iadd, wp_iald, wp_iast, wp_iceq, wp_icge, wp_icne, wp_iconst, wp_il4, wp_iln1, wp_iln2, wp_iln3, wp_iret, wp_is4, wp_isn1, wp_isn2, wp_isn3, wp_isub, wp_izeq, wp_izne, wp_max, wp_min, wp_nop, wp_zret, qmd_kd, qmd_k1, qmd_l1, qmd_gf0, qmd_k2, qmd_l2, qmd_gf1, qmd_k3, qmd_l3, qmd_gf2, qmd_k4, qmd_l4, qmd_gf4, qmd_k5, qmd_l5, qmd_gf6, qmd_k6, qmd_l6, qmd_gf7, qmd_k7, qmd_l7, qmd_gf10, qmd_k8, qmd_l8, qmd_gf11, qmd_k9, qmd_l9, qmd_gf12, qmd_gf3, qmd_pf3, qmd_gf5, qmd_pf5, qmd_gf8, qmd_pf8, qmd_gf9, qmd_pf9, wrI_row, cpI_row, row_s, row_n, row_ss, row_sw, upd_s, upd_n, ad_inj, ad_z, ad_z2, Nat.reduceEqDiff, reduceCtorEq, List.cons_append, List.nil_append, Option.toList_some, Option.toList_none, Int.toNat_natCast, List.length_cons, List.length_nil, Int.cast_ofNat_Int, Nat.reduceAdd, Nat.reduceLeDiff, Nat.reduceLT, Nat.reduceMul, Int.reduceAdd, Int.reduceSub, Int.reduceMul, Int.reduceNeg, Int.reduceLT, Int.reduceLE, Int.reduceEq, Int.reduceToNat, eq_self, true_and, and_true, true_or, or_true, false_or, or_false, if_true, if_false, not_true_eq_false, not_false_eq_true, and_self, ne_eq, hM]
            (repeat' (first | apply And.intro | split)) <;> first | omega | exact q9
          · rw [hT1.2] at hb y4 y5
            rw [if_neg (by rw [hb]; decide)] at hQ
            have sb := skp_b (T := T) (L := L) (p := p + 1) (by omega)
            have nb := num_b (T := T) (L := L) (p := skp T L (p + 1)) sb.2
            have hbn : ¬ bad T L 1 (min 20 (99 - U 8 0)) (skp T L (p + 1)) = true := by rw [hb]; decide
            have hN1 : ¬ (num T L (skp T L (p + 1))).2 < 1 := fun z => hbn (bad_i.2 (Or.inr (Or.inr (Or.inl z))))
            have hN2 : ¬ min 20 (99 - U 8 0) < (num T L (skp T L (p + 1))).2 := fun z => hbn (bad_i.2 (Or.inr (Or.inr (Or.inr z))))
            have hF2 := hF1.trans y3.it
            have hT2 := hF2.tx hT
            rw [← hTe] at hT2
            have r2 : g' (ad M 2) = g (ad M 2) := by
              rw [y3.1 _ (by unfold ad; omega)]
              exact row_n (by unfold ad; omega)
            have k89 := item_tailM (zt := zt) (g := g') (ρ := ρ) (U := U) (Q := Q) (o2 := some (AI 1)) (o3 := some (AI (99 - U 8 0))) hM hT2.1 (p := (num T L (skp T L (p + 1))).1) nb.1.2 y4 (v := (num T L (skp T L (p + 1))).2.toNat) (by rw [y5]; omega) (by rw [r2]; exact hR) hU (c := T p) cl (by omega) (by omega) (by omega) (fun g'' y6 => by
              rw [hT2.2] at y6 ⊢
              exact hQ g'' ⟨hF2.trans y6.1, y6.2⟩)
            simp only [m_M_readItem, b_M_readItem_0, P_M_readItem_26, b_M_readItem_26, P_M_readItem_27, b_M_readItem_27, P_M_readItem_44, b_M_readItem_44, P_M_readItem_46, b_M_readItem_46, P_M_readItem_79, b_M_readItem_79, P_M_readItem_81, b_M_readItem_81, P_M_readItem_120, b_M_readItem_120, P_M_readItem_124, b_M_readItem_124, P_M_readItem_146, b_M_readItem_146, P_M_readItem_174, b_M_readItem_174, wp_abs, wp_aln0, wp_bipush, wp_copy, wp_cs1, wp_cs2, wp_cs3, wp_cs4, wp_cs5, wp_cs6, wp_cs7, wp_cv1, wp_cv2, wp_cv3, wp_cv4, wp_cv5, wp_cv6, wp_cv7, wp_dup, wp_goto, wp_iadd, wp_iald, wp_iast, wp_iceq, wp_icge, wp_icne, wp_iconst, wp_il4, wp_iln1, wp_iln2, wp_iln3, wp_iret, wp_is4, wp_isn1, wp_isn2, wp_isn3, wp_isub, wp_izeq, wp_izne, wp_max, wp_min, wp_nop, wp_zret, qmd_kd, qmd_k1, qmd_l1, qmd_gf0, qmd_k2, qmd_l2, qmd_gf1, qmd_k3, qmd_l3, qmd_gf2, qmd_k4, qmd_l4, qmd_gf4, qmd_k5, qmd_l5, qmd_gf6, qmd_k6, qmd_l6, qmd_gf7, qmd_k7, qmd_l7, qmd_gf10, qmd_k8, qmd_l8, qmd_gf11, qmd_k9, qmd_l9, qmd_gf12, qmd_gf3, qmd_pf3, qmd_gf5, qmd_pf5, qmd_gf8, qmd_pf8, qmd_gf9, qmd_pf9, wrI_row, cpI_row, row_s, row_n, row_ss, row_sw, upd_s, upd_n, ad_inj, ad_z, ad_z2, Nat.reduceEqDiff, reduceCtorEq, List.cons_append, List.nil_append, Option.toList_some, Option.toList_none, Int.toNat_natCast, List.length_cons, List.length_nil, Int.cast_ofNat_Int, Nat.reduceAdd, Nat.reduceLeDiff, Nat.reduceLT, Nat.reduceMul, Int.reduceAdd, Int.reduceSub, Int.reduceMul, Int.reduceNeg, Int.reduceLT, Int.reduceLE, Int.reduceEq, Int.reduceToNat, eq_self, true_and, and_true, true_or, or_true, false_or, or_false, if_true, if_false, not_true_eq_false, not_false_eq_true, and_self, ne_eq, hM]
            (repeat' (first | apply And.intro | split)) <;> first | omega | exact k89
        rw [P_M_readItem_22]
        simp only [m_M_readItem, b_M_readItem_0, P_M_readItem_26, b_M_readItem_26, P_M_readItem_27, b_M_readItem_27, P_M_readItem_44, b_M_readItem_44, P_M_readItem_46, b_M_readItem_46, P_M_readItem_79, b_M_readItem_79, P_M_readItem_81, b_M_readItem_81, P_M_readItem_120, b_M_readItem_120, P_M_readItem_124, b_M_readItem_124, P_M_readItem_146, b_M_readItem_146, P_M_readItem_174, b_M_readItem_174, wp_abs, wp_aln0, wp_bipush, wp_copy, wp_cs1, wp_cs2, wp_cs3, wp_cs4, wp_cs5, wp_cs6, wp_cs7, wp_cv1, wp_cv2, wp_cv3, wp_cv4, wp_cv5, wp_cv6, wp_cv7, wp_dup, wp_goto, wp_iadd, wp_iald, wp_iast, wp_iceq, wp_icge, wp_icne, wp_iconst, wp_il4, wp_iln1, wp_iln2, wp_iln3, wp_iret, wp_is4, wp_isn1, wp_isn2, wp_isn3, wp_isub, wp_izeq, wp_izne, wp_max, wp_min, wp_nop, wp_zret, qmd_kd, qmd_k1, qmd_l1, qmd_gf0, qmd_k2, qmd_l2, qmd_gf1, qmd_k3, qmd_l3, qmd_gf2, qmd_k4, qmd_l4, qmd_gf4, qmd_k5, qmd_l5, qmd_gf6, qmd_k6, qmd_l6, qmd_gf7, qmd_k7, qmd_l7, qmd_gf10, qmd_k8, qmd_l8, qmd_gf11, qmd_k9, qmd_l9, qmd_gf12, qmd_gf3, qmd_pf3, qmd_gf5, qmd_pf5, qmd_gf8, qmd_pf8, qmd_gf9, qmd_pf9, wrI_row, cpI_row, row_s, row_n, row_ss, row_sw, upd_s, upd_n, ad_inj, ad_z, ad_z2, Nat.reduceEqDiff, reduceCtorEq, List.cons_append, List.nil_append, Option.toList_some, Option.toList_none, Int.toNat_natCast, List.length_cons, List.length_nil, Int.cast_ofNat_Int, Nat.reduceAdd, Nat.reduceLeDiff, Nat.reduceLT, Nat.reduceMul, Int.reduceAdd, Int.reduceSub, Int.reduceMul, Int.reduceNeg, Int.reduceLT, Int.reduceLE, Int.reduceEq, Int.reduceToNat, eq_self, true_and, and_true, true_or, or_true, false_or, or_false, if_true, if_false, not_true_eq_false, not_false_eq_true, and_self, ne_eq, b_M_readItem_22, hM, e5, cG', h8, a1]
        by_cases cm : 99 - U 8 0 < 20
        · rw [show min 20 (99 - U 8 0) = 99 - U 8 0 by omega] at fin
          (repeat' (first | apply And.intro | split)) <;> first | omega | exact fin
        · rw [show min 20 (99 - U 8 0) = 20 by omega] at fin
          (repeat' (first | apply And.intro | split)) <;> first | omega | exact fin
    by_cases c46 : T p = 46
    · simp only [m_M_readItem, b_M_readItem_0, P_M_readItem_26, b_M_readItem_26, P_M_readItem_27, b_M_readItem_27, P_M_readItem_44, b_M_readItem_44, P_M_readItem_46, b_M_readItem_46, P_M_readItem_79, b_M_readItem_79, P_M_readItem_81, b_M_readItem_81, P_M_readItem_89, b_M_readItem_89, P_M_readItem_120, b_M_readItem_120, P_M_readItem_124, b_M_readItem_124, P_M_readItem_146, b_M_readItem_146, P_M_readItem_174, b_M_readItem_174, wp_abs, wp_aln0, wp_bipush, wp_copy, wp_cs1, wp_cs2, wp_cs3, wp_cs4, wp_cs5, wp_cs6, wp_cs7, wp_cv1, wp_cv2, wp_cv3, wp_cv4, wp_cv5, wp_cv6, wp_cv7, wp_dup, wp_goto, wp_iadd, wp_iald, wp_iast, wp_iceq, wp_icge, wp_icne, wp_iconst, wp_il4, wp_iln1, wp_iln2, wp_iln3, wp_iret, wp_is4, wp_isn1, wp_isn2, wp_isn3, wp_isub, wp_izeq, wp_izne, wp_max, wp_min, wp_nop, wp_zret, qmd_kd, qmd_k1, qmd_l1, qmd_gf0, qmd_k2, qmd_l2, qmd_gf1, qmd_k3, qmd_l3, qmd_gf2, qmd_k4, qmd_l4, qmd_gf4, qmd_k5, qmd_l5, qmd_gf6, qmd_k6, qmd_l6, qmd_gf7, qmd_k7, qmd_l7, qmd_gf10, qmd_k8, qmd_l8, qmd_gf11, qmd_k9, qmd_l9, qmd_gf12, qmd_gf3, qmd_pf3, qmd_gf5, qmd_pf5, qmd_gf8, qmd_pf8, qmd_gf9, qmd_pf9, wrI_row, cpI_row, row_s, row_n, row_ss, row_sw, upd_s, upd_n, ad_inj, ad_z, ad_z2, Nat.reduceEqDiff, reduceCtorEq, List.cons_append, List.nil_append, Option.toList_some, Option.toList_none, Int.toNat_natCast, List.length_cons, List.length_nil, Int.cast_ofNat_Int, Nat.reduceAdd, Nat.reduceLeDiff, Nat.reduceLT, Nat.reduceMul, Int.reduceAdd, Int.reduceSub, Int.reduceMul, Int.reduceNeg, Int.reduceLT, Int.reduceLE, Int.reduceEq, Int.reduceToNat, eq_self, true_and, and_true, true_or, or_true, false_or, or_false, if_true, if_false, not_true_eq_false, not_false_eq_true, and_self, ne_eq, hM, hh]
      (repeat' (first | apply And.intro | split)) <;> first | omega | exact k22
    · have hin := fun Q => in_t (zt := zt) (g := g) (ρ := ρ) (v := T p) (lo := 97) (hi := 105) (by omega) (by omega) (by omega) Q
      simp only [m_M_readItem, b_M_readItem_0, P_M_readItem_26, b_M_readItem_26, P_M_readItem_27, b_M_readItem_27, P_M_readItem_44, b_M_readItem_44, P_M_readItem_46, b_M_readItem_46, P_M_readItem_79, b_M_readItem_79, P_M_readItem_81, b_M_readItem_81, P_M_readItem_89, b_M_readItem_89, P_M_readItem_120, b_M_readItem_120, P_M_readItem_124, b_M_readItem_124, P_M_readItem_146, b_M_readItem_146, P_M_readItem_174, b_M_readItem_174, wp_abs, wp_aln0, wp_bipush, wp_copy, wp_cs1, wp_cs2, wp_cs3, wp_cs4, wp_cs5, wp_cs6, wp_cs7, wp_cv1, wp_cv2, wp_cv3, wp_cv4, wp_cv5, wp_cv6, wp_cv7, wp_dup, wp_goto, wp_iadd, wp_iald, wp_iast, wp_iceq, wp_icge, wp_icne, wp_iconst, wp_il4, wp_iln1, wp_iln2, wp_iln3, wp_iret, wp_is4, wp_isn1, wp_isn2, wp_isn3, wp_isub, wp_izeq, wp_izne, wp_max, wp_min, wp_nop, wp_zret, qmd_kd, qmd_k1, qmd_l1, qmd_gf0, qmd_k2, qmd_l2, qmd_gf1, qmd_k3, qmd_l3, qmd_gf2, qmd_k4, qmd_l4, qmd_gf4, qmd_k5, qmd_l5, qmd_gf6, qmd_k6, qmd_l6, qmd_gf7, qmd_k7, qmd_l7, qmd_gf10, qmd_k8, qmd_l8, qmd_gf11, qmd_k9, qmd_l9, qmd_gf12, qmd_gf3, qmd_pf3, qmd_gf5, qmd_pf5, qmd_gf8, qmd_pf8, qmd_gf9, qmd_pf9, wrI_row, cpI_row, row_s, row_n, row_ss, row_sw, upd_s, upd_n, ad_inj, ad_z, ad_z2, Nat.reduceEqDiff, reduceCtorEq, List.cons_append, List.nil_append, Option.toList_some, Option.toList_none, Int.toNat_natCast, List.length_cons, List.length_nil, Int.cast_ofNat_Int, Nat.reduceAdd, Nat.reduceLeDiff, Nat.reduceLT, Nat.reduceMul, Int.reduceAdd, Int.reduceSub, Int.reduceMul, Int.reduceNeg, Int.reduceLT, Int.reduceLE, Int.reduceEq, Int.reduceToNat, eq_self, true_and, and_true, true_or, or_true, false_or, or_false, if_true, if_false, not_true_eq_false, not_false_eq_true, and_self, ne_eq, hM, hh, c46, hin]
      (repeat' (first | apply And.intro | split)) <;> first | omega | exact k22
  · have hkn : kndC (T p) = -1 := by
      unfold kndC
      rw [if_neg (fun z => cl (Or.inl z)), if_neg (fun z => cl (Or.inr z))]
    have q := hz ((p : Int), 0, U) (by unfold itmV; rw [if_pos (Or.inl hkn)]) (by show (p : Int) ≠ -1; omega) h8
    have c46 : ¬ T p = 46 := fun z => cl (Or.inl z)
    have hin := fun Q => in_f (zt := zt) (g := g) (ρ := ρ) (v := T p) (lo := 97) (hi := 105) (by unfold i32; omega) (by omega) (by omega) (fun z => cl (Or.inr z)) Q
    simp only [m_M_readItem, b_M_readItem_0, P_M_readItem_22, b_M_readItem_22, P_M_readItem_26, b_M_readItem_26, P_M_readItem_27, b_M_readItem_27, P_M_readItem_44, b_M_readItem_44, P_M_readItem_46, b_M_readItem_46, P_M_readItem_79, b_M_readItem_79, P_M_readItem_81, b_M_readItem_81, P_M_readItem_89, b_M_readItem_89, P_M_readItem_120, b_M_readItem_120, P_M_readItem_124, b_M_readItem_124, P_M_readItem_146, b_M_readItem_146, P_M_readItem_174, b_M_readItem_174, wp_abs, wp_aln0, wp_bipush, wp_copy, wp_cs1, wp_cs2, wp_cs3, wp_cs4, wp_cs5, wp_cs6, wp_cs7, wp_cv1, wp_cv2, wp_cv3, wp_cv4, wp_cv5, wp_cv6, wp_cv7, wp_dup, wp_goto, wp_iadd, wp_iald, wp_iast, wp_iceq, wp_icge, wp_icne, wp_iconst, wp_il4, wp_iln1, wp_iln2, wp_iln3, wp_iret, wp_is4, wp_isn1, wp_isn2, wp_isn3, wp_isub, wp_izeq, wp_izne, wp_max, wp_min, wp_nop, wp_zret, qmd_kd, qmd_k1, qmd_l1, qmd_gf0, qmd_k2, qmd_l2, qmd_gf1, qmd_k3, qmd_l3, qmd_gf2, qmd_k4, qmd_l4, qmd_gf4, qmd_k5, qmd_l5, qmd_gf6, qmd_k6, qmd_l6, qmd_gf7, qmd_k7, qmd_l7, qmd_gf10, qmd_k8, qmd_l8, qmd_gf11, qmd_k9, qmd_l9, qmd_gf12, qmd_gf3, qmd_pf3, qmd_gf5, qmd_pf5, qmd_gf8, qmd_pf8, qmd_gf9, qmd_pf9, wrI_row, cpI_row, row_s, row_n, row_ss, row_sw, upd_s, upd_n, ad_inj, ad_z, ad_z2, Nat.reduceEqDiff, reduceCtorEq, List.cons_append, List.nil_append, Option.toList_some, Option.toList_none, Int.toNat_natCast, List.length_cons, List.length_nil, Int.cast_ofNat_Int, Nat.reduceAdd, Nat.reduceLeDiff, Nat.reduceLT, Nat.reduceMul, Int.reduceAdd, Int.reduceSub, Int.reduceMul, Int.reduceNeg, Int.reduceLT, Int.reduceLE, Int.reduceEq, Int.reduceToNat, eq_self, true_and, and_true, true_or, or_true, false_or, or_false, if_true, if_false, not_true_eq_false, not_false_eq_true, and_self, ne_eq, hM, hh, c46, hin]
    (repeat' (first | apply And.intro | split)) <;> first | omega | exact q
end MLE
section MLF
variable {zt : Nat → Nat} {g : Nat → Nat → Int} {ρ : Ri} {M : Nat} {X : XV} {Q : Option AV → Sto → Prop}
theorem load_finM (hX : RepM g ρ M X) (hW : WFX X) {U : Vw} {g1 : Nat → Nat → Int} (hI : TrM g M U g1) {n : Nat} (hQ : MdQ g ρ M ((n : Int), clX (actX X U)) Q) : Wp zt 136 (P 136 64) [some (AR M), some (AI n)] [] (g1, ρ) Q := by
  have hX1 := hI.rep hX
  have hM := hX.1
  rw [P_M_load_64]
  simp only [m_M_load, b_M_load_0, wp_abs, wp_aln0, wp_copy, wp_cs1, wp_cs2, wp_cs3, wp_cs4, wp_cs5, wp_cs6, wp_cs7, wp_cv1, wp_cv2, wp_cv3, wp_cv4, wp_cv5, wp_cv6, wp_cv7, wp_goto, wp_icge, wp_iconst, wp_iln1, wp_inc1, wp_iret, wp_isn1, wp_isub, wp_izne, wp_max, wp_min, wp_nop, wp_sipush, wp_zret, qmd_kd, qmd_k1, qmd_l1, qmd_gf0, qmd_k2, qmd_l2, qmd_gf1, qmd_k3, qmd_l3, qmd_gf2, qmd_k4, qmd_l4, qmd_gf4, qmd_k5, qmd_l5, qmd_gf6, qmd_k6, qmd_l6, qmd_gf7, qmd_k7, qmd_l7, qmd_gf10, qmd_k8, qmd_l8, qmd_gf11, qmd_k9, qmd_l9, qmd_gf12, qmd_gf3, qmd_pf3, qmd_gf5, qmd_pf5, qmd_gf8, qmd_pf8, qmd_gf9, qmd_pf9, wrI_row, cpI_row, row_s, row_n, row_ss, row_sw, upd_s, upd_n, ad_inj, ad_z, ad_z2, Nat.reduceEqDiff, reduceCtorEq, List.cons_append, List.nil_append, Option.toList_some, Option.toList_none, Int.toNat_natCast, List.length_cons, List.length_nil, Int.cast_ofNat_Int, Nat.reduceAdd, Nat.reduceLeDiff, Nat.reduceLT, Nat.reduceMul, Int.reduceAdd, Int.reduceSub, Int.reduceMul, Int.reduceNeg, Int.reduceLT, Int.reduceLE, Int.reduceEq, Int.reduceToNat, eq_self, true_and, and_true, true_or, or_true, false_or, or_false, if_true, if_false, not_true_eq_false, not_false_eq_true, and_self, ne_eq, b_M_load_64, hM]
  refine keep_ok hX1 hW (fun g' j1 j2 j3 => ?_)
  have f1 := fun Q => bring_ok (zt := zt) (g := g') (ρ := ρ) (b := ad M 2) (c := ad M 1) (sp := 0) (dp := 0) (n := 953) (sp' := 0) (dp' := 0) (n' := 953) (qmd_k2 hM) (qmd_k1 hM) (qmd_l2 hM) (qmd_l1 hM) (by omega) (by omega) (by omega) (by omega) (Or.inl (by unfold ad; omega)) rfl rfl rfl Q
  have hA := hI.adopt hW j1 j2
  obtain ⟨g3, hg3⟩ : ∃ g3, g3 = setRow g' (ad M 1) (cpR (g' (ad M 2)) (g' (ad M 1)) 0 0 953) := ⟨_, rfl⟩
  rw [← hg3] at hA f1
  have q := hQ (setRow g3 M (upd1 (g3 M) 5 0)) (clX_repM hA (row_n (by unfold ad; omega)) (row_n (by unfold ad; omega)) (by rw [row_s, upd_n (by omega)]) (by rw [row_s, upd_s])) (fun x z => by
    rw [row_n (by unfold ad at z; omega), hg3]
    exact (pg_fr j2 x z).trans (hI.fr x z))
  simp only [m_M_load, b_M_load_0, wp_abs, wp_aln0, wp_copy, wp_cs1, wp_cs2, wp_cs3, wp_cs4, wp_cs5, wp_cs6, wp_cs7, wp_cv1, wp_cv2, wp_cv3, wp_cv4, wp_cv5, wp_cv6, wp_cv7, wp_goto, wp_icge, wp_iconst, wp_iln1, wp_inc1, wp_iret, wp_isn1, wp_isub, wp_izne, wp_max, wp_min, wp_nop, wp_sipush, wp_zret, qmd_kd, qmd_k1, qmd_l1, qmd_gf0, qmd_k2, qmd_l2, qmd_gf1, qmd_k3, qmd_l3, qmd_gf2, qmd_k4, qmd_l4, qmd_gf4, qmd_k5, qmd_l5, qmd_gf6, qmd_k6, qmd_l6, qmd_gf7, qmd_k7, qmd_l7, qmd_gf10, qmd_k8, qmd_l8, qmd_gf11, qmd_k9, qmd_l9, qmd_gf12, qmd_gf3, qmd_pf3, qmd_gf5, qmd_pf5, qmd_gf8, qmd_pf8, qmd_gf9, qmd_pf9, wrI_row, cpI_row, row_s, row_n, row_ss, row_sw, upd_s, upd_n, ad_inj, ad_z, ad_z2, Nat.reduceEqDiff, reduceCtorEq, List.cons_append, List.nil_append, Option.toList_some, Option.toList_none, Int.toNat_natCast, List.length_cons, List.length_nil, Int.cast_ofNat_Int, Nat.reduceAdd, Nat.reduceLeDiff, Nat.reduceLT, Nat.reduceMul, Int.reduceAdd, Int.reduceSub, Int.reduceMul, Int.reduceNeg, Int.reduceLT, Int.reduceLE, Int.reduceEq, Int.reduceToNat, eq_self, true_and, and_true, true_or, or_true, false_or, or_false, if_true, if_false, not_true_eq_false, not_false_eq_true, and_self, ne_eq, hM, f1]
  (repeat' (first | apply And.intro | split)) <;> first | omega | exact q
theorem load_loopM (hX : RepM g ρ M X) (hW : WFX X) (hQ : MdQ g ρ M (sLoad X) Q) :
    ∀ (d p i : Nat) (U : Vw) (g1 : Nat → Nat → Int), X.2.2.2.1 ≤ p + d → p ≤ X.2.2.2.1 → (i : Int) ≤ U 5 0 → TrM g M U g1 → g1 M 8 = p → itmsF X.2.2.2.2 X.2.2.2.1 d p i U = ldV X → Wp zt 136 (P 136 27) [some (AR M), some (AI i)] [] (g1, ρ) Q := by
  have hM := hX.1
  have x5 : g M 5 = X.2.2.2.1 := hX.2.2.2.2.1
  have x6 := hX.2.2.2.2.2
  have wl := hW.2.2.2.1
  have wt := hW.2.2.2.2
  have stop : ∀ (p i : Nat) (U : Vw) (g1 : Nat → Nat → Int), p = X.2.2.2.1 → TrM g M U g1 → g1 M 8 = p → ((-1 : Int), i, U) = ldV X → Wp zt 136 (P 136 27) [some (AR M), some (AI i)] [] (g1, ρ) Q := fun p i U g1 h1 hI h8 hv => by
    unfold sLoad at hQ
    rw [← hv, if_pos rfl] at hQ
    have k1 := load_finM (zt := zt) hX hW hI hQ
    have f5 : g1 M 5 = X.2.2.2.1 := (hI.2.2.2.2 5 (by omega) (by omega)).trans x5
    rw [P_M_load_27]
    simp only [m_M_load, b_M_load_0, wp_abs, wp_aln0, wp_copy, wp_cs1, wp_cs2, wp_cs3, wp_cs4, wp_cs5, wp_cs6, wp_cs7, wp_cv1, wp_cv2, wp_cv3, wp_cv4, wp_cv5, wp_cv6, wp_cv7, wp_goto, wp_icge, wp_iconst, wp_iln1, wp_inc1, wp_iret, wp_isn1, wp_isub, wp_izne, wp_max, wp_min, wp_nop, wp_sipush, wp_zret, qmd_kd, qmd_k1, qmd_l1, qmd_gf0, qmd_k2, qmd_l2, qmd_gf1, qmd_k3, qmd_l3, qmd_gf2, qmd_k4, qmd_l4, qmd_gf4, qmd_k5, qmd_l5, qmd_gf6, qmd_k6, qmd_l6, qmd_gf7, qmd_k7, qmd_l7, qmd_gf10, qmd_k8, qmd_l8, qmd_gf11, qmd_k9, qmd_l9, qmd_gf12, qmd_gf3, qmd_pf3, qmd_gf5, qmd_pf5, qmd_gf8, qmd_pf8, qmd_gf9, qmd_pf9, wrI_row, cpI_row, row_s, row_n, row_ss, row_sw, upd_s, upd_n, ad_inj, ad_z, ad_z2, Nat.reduceEqDiff, reduceCtorEq, List.cons_append, List.nil_append, Option.toList_some, Option.toList_none, Int.toNat_natCast, List.length_cons, List.length_nil, Int.cast_ofNat_Int, Nat.reduceAdd, Nat.reduceLeDiff, Nat.reduceLT, Nat.reduceMul, Int.reduceAdd, Int.reduceSub, Int.reduceMul, Int.reduceNeg, Int.reduceLT, Int.reduceLE, Int.reduceEq, Int.reduceToNat, eq_self, true_and, and_true, true_or, or_true, false_or, or_false, if_true, if_false, not_true_eq_false, not_false_eq_true, and_self, ne_eq, b_M_load_27, hM, f5, h8]
    (repeat' (first | apply And.intro | split)) <;> first | omega | exact k1
  intro d
  induction d with
  | zero =>
    intro p i U g1 hd hp hi hI h8 hv
    exact stop p i U g1 (by omega) hI h8 hv
  | succ d ih =>
    intro p i U g1 hd hp hi hI h8 hv
    simp only [itmsF] at hv
    by_cases c1 : p < X.2.2.2.1
    · rw [if_pos c1] at hv
      obtain ⟨i1, i2, i3, i4, i5⟩ := id hI
      have b5 := i1.2.2.2.2.1
      have f5 : g1 M 5 = X.2.2.2.1 := (i5 5 (by omega) (by omega)).trans x5
      have e4 : g1 (ad M 4) = g (ad M 4) := i4 _ (by unfold ad; omega) (by unfold ad; omega) (by unfold ad; omega) (by unfold ad; omega)
      have hTx : txM g1 M X.2.2.2.1 := ⟨wl, f5, fun j hj => by
        rw [e4, x6 j hj]
        exact wt j hj⟩
      have hTe : ∀ j, j < X.2.2.2.1 → g1 (ad M 4) j = X.2.2.2.2 j := fun j hj => by
        rw [e4]
        exact x6 j hj
      have hpl : ¬ (X.2.2.2.1 : Int) ≤ (p : Int) := by omega
      rw [P_M_load_27]
      simp only [m_M_load, b_M_load_0, wp_abs, wp_aln0, wp_copy, wp_cs1, wp_cs2, wp_cs3, wp_cs4, wp_cs5, wp_cs6, wp_cs7, wp_cv1, wp_cv2, wp_cv3, wp_cv4, wp_cv5, wp_cv6, wp_cv7, wp_goto, wp_icge, wp_iconst, wp_iln1, wp_inc1, wp_iret, wp_isn1, wp_isub, wp_izne, wp_max, wp_min, wp_nop, wp_sipush, wp_zret, qmd_kd, qmd_k1, qmd_l1, qmd_gf0, qmd_k2, qmd_l2, qmd_gf1, qmd_k3, qmd_l3, qmd_gf2, qmd_k4, qmd_l4, qmd_gf4, qmd_k5, qmd_l5, qmd_gf6, qmd_k6, qmd_l6, qmd_gf7, qmd_k7, qmd_l7, qmd_gf10, qmd_k8, qmd_l8, qmd_gf11, qmd_k9, qmd_l9, qmd_gf12, qmd_gf3, qmd_pf3, qmd_gf5, qmd_pf5, qmd_gf8, qmd_pf8, qmd_gf9, qmd_pf9, wrI_row, cpI_row, row_s, row_n, row_ss, row_sw, upd_s, upd_n, ad_inj, ad_z, ad_z2, Nat.reduceEqDiff, reduceCtorEq, List.cons_append, List.nil_append, Option.toList_some, Option.toList_none, Int.toNat_natCast, List.length_cons, List.length_nil, Int.cast_ofNat_Int, Nat.reduceAdd, Nat.reduceLeDiff, Nat.reduceLT, Nat.reduceMul, Int.reduceAdd, Int.reduceSub, Int.reduceMul, Int.reduceNeg, Int.reduceLT, Int.reduceLE, Int.reduceEq, Int.reduceToNat, eq_self, true_and, and_true, true_or, or_true, false_or, or_false, if_true, if_false, not_true_eq_false, not_false_eq_true, and_self, ne_eq, b_M_load_27, hM, f5, h8, hpl]
      (repeat' (first | apply And.intro | split)) <;> first | omega | skip
      refine readItem_okM hM hTx c1 h8 i2 i1 (fun g2 hit => ?_)
      rw [itmV_eq hTe c1] at hit ⊢
      obtain ⟨⟨f1, f2, f3⟩, f4, f6⟩ := hit
      by_cases c2 : (itmV X.2.2.2.2 X.2.2.2.1 p U).1 = -1
      · rw [if_pos c2] at hv ⊢
        obtain ⟨j1, j2, j3, j4⟩ := itmV_ok c1 i1 c2
        obtain ⟨y1, y2⟩ := f6 c2
        have hI2 : TrM g M (itmV X.2.2.2.2 X.2.2.2.1 p U).2.2 g2 := ⟨j1, y2, fun y z1 z2 => (f3 y z1).trans (i3 y z1 z2), fun x z0 z1 z2 z3 => (f1 x z0 z1).trans (i4 x z0 z1 z2 z3), fun k z1 z2 => (f2 k z1 z2).trans (i5 k z1 z2)⟩
        have e42 : g2 (ad M 4) = g (ad M 4) := hI2.2.2.2.1 _ (by unfold ad; omega) (by unfold ad; omega) (by unfold ad; omega) (by unfold ad; omega)
        have hTx2 : txM g2 M X.2.2.2.1 := ⟨wl, (hI2.2.2.2.2 5 (by omega) (by omega)).trans x5, fun j hj => by
          rw [e42, x6 j hj]
          exact wt j hj⟩
        have os := overSpaces_ok (zt := zt) (g := g2) (ρ := ρ) hM hTx2 (p := (itmV X.2.2.2.2 X.2.2.2.1 p U).2.1) j3 y1
        have esk : skp (g2 (ad M 4)) X.2.2.2.1 (itmV X.2.2.2.2 X.2.2.2.1 p U).2.1 = skp X.2.2.2.2 X.2.2.2.1 (itmV X.2.2.2.2 X.2.2.2.1 p U).2.1 := skp_eq (fun j hj => by
          rw [e42]
          exact x6 j hj)
        rw [esk] at os
        have sb := skp_b (T := X.2.2.2.2) j3
        have k1 := ih (skp X.2.2.2.2 X.2.2.2.1 (itmV X.2.2.2.2 X.2.2.2.1 p U).2.1) (i + 1) (itmV X.2.2.2.2 X.2.2.2.1 p U).2.2 (setRow g2 M (upd1 (g2 M) 8 (skp X.2.2.2.2 X.2.2.2.1 (itmV X.2.2.2.2 X.2.2.2.1 p U).2.1 : Nat))) (by omega) sb.2 (by rw [j4]; omega) ⟨j1, by rw [row_n (by unfold ad; omega)]; exact y2, fun y z1 z2 => by rw [row_n (by unfold ad; omega)]; exact hI2.2.2.1 y z1 z2, fun x z0 z1 z2 z3 => by rw [row_n z0]; exact hI2.2.2.2.1 x z0 z1 z2 z3, fun k z1 z2 => by rw [row_s, upd_n z1]; exact hI2.2.2.2.2 k z1 z2⟩ (by rw [row_s, upd_s]) hv
        have k54 : Wp zt 136 (P 136 54) [some (AR M), some (AI i)] [] (g2, ρ) Q := by
          rw [P_M_load_54]
          simp only [m_M_load, b_M_load_0, wp_abs, wp_aln0, wp_copy, wp_cs1, wp_cs2, wp_cs3, wp_cs4, wp_cs5, wp_cs6, wp_cs7, wp_cv1, wp_cv2, wp_cv3, wp_cv4, wp_cv5, wp_cv6, wp_cv7, wp_goto, wp_icge, wp_iconst, wp_iln1, wp_inc1, wp_iret, wp_isn1, wp_isub, wp_izne, wp_max, wp_min, wp_nop, wp_sipush, wp_zret, qmd_kd, qmd_k1, qmd_l1, qmd_gf0, qmd_k2, qmd_l2, qmd_gf1, qmd_k3, qmd_l3, qmd_gf2, qmd_k4, qmd_l4, qmd_gf4, qmd_k5, qmd_l5, qmd_gf6, qmd_k6, qmd_l6, qmd_gf7, qmd_k7, qmd_l7, qmd_gf10, qmd_k8, qmd_l8, qmd_gf11, qmd_k9, qmd_l9, qmd_gf12, qmd_gf3, qmd_pf3, qmd_gf5, qmd_pf5, qmd_gf8, qmd_pf8, qmd_gf9, qmd_pf9, wrI_row, cpI_row, row_s, row_n, row_ss, row_sw, upd_s, upd_n, ad_inj, ad_z, ad_z2, Nat.reduceEqDiff, reduceCtorEq, List.cons_append, List.nil_append, Option.toList_some, Option.toList_none, Int.toNat_natCast, List.length_cons, List.length_nil, Int.cast_ofNat_Int, Nat.reduceAdd, Nat.reduceLeDiff, Nat.reduceLT, Nat.reduceMul, Int.reduceAdd, Int.reduceSub, Int.reduceMul, Int.reduceNeg, Int.reduceLT, Int.reduceLE, Int.reduceEq, Int.reduceToNat, eq_self, true_and, and_true, true_or, or_true, false_or, or_false, if_true, if_false, not_true_eq_false, not_false_eq_true, and_self, ne_eq, b_M_load_54, hM, os]
          (repeat' (first | apply And.intro | split)) <;> first | omega | exact k1
        simp only [m_M_load, b_M_load_0, wp_abs, wp_aln0, wp_copy, wp_cs1, wp_cs2, wp_cs3, wp_cs4, wp_cs5, wp_cs6, wp_cs7, wp_cv1, wp_cv2, wp_cv3, wp_cv4, wp_cv5, wp_cv6, wp_cv7, wp_goto, wp_icge, wp_iconst, wp_iln1, wp_inc1, wp_iret, wp_isn1, wp_isub, wp_izne, wp_max, wp_min, wp_nop, wp_sipush, wp_zret, qmd_kd, qmd_k1, qmd_l1, qmd_gf0, qmd_k2, qmd_l2, qmd_gf1, qmd_k3, qmd_l3, qmd_gf2, qmd_k4, qmd_l4, qmd_gf4, qmd_k5, qmd_l5, qmd_gf6, qmd_k6, qmd_l6, qmd_gf7, qmd_k7, qmd_l7, qmd_gf10, qmd_k8, qmd_l8, qmd_gf11, qmd_k9, qmd_l9, qmd_gf12, qmd_gf3, qmd_pf3, qmd_gf5, qmd_pf5, qmd_gf8, qmd_pf8, qmd_gf9, qmd_pf9, wrI_row, cpI_row, row_s, row_n, row_ss, row_sw, upd_s, upd_n, ad_inj, ad_z, ad_z2, Nat.reduceEqDiff, reduceCtorEq, List.cons_append, List.nil_append, Option.toList_some, Option.toList_none, Int.toNat_natCast, List.length_cons, List.length_nil, Int.cast_ofNat_Int, Nat.reduceAdd, Nat.reduceLeDiff, Nat.reduceLT, Nat.reduceMul, Int.reduceAdd, Int.reduceSub, Int.reduceMul, Int.reduceNeg, Int.reduceLT, Int.reduceLE, Int.reduceEq, Int.reduceToNat, eq_self, true_and, and_true, true_or, or_true, false_or, or_false, if_true, if_false, not_true_eq_false, not_false_eq_true, and_self, ne_eq, hM]
        (repeat' (first | apply And.intro | split)) <;> first | omega | exact k54
      · rw [if_neg c2] at hv ⊢
        have eb := itmV_e (T := X.2.2.2.2) (U := U) c1
        have y1 := f4 c2
        have hrep : RepM g2 ρ M X := hX.kept ((f1 _ (by unfold ad; omega) (by unfold ad; omega)).trans (i4 _ (by unfold ad; omega) (by unfold ad; omega) (by unfold ad; omega) (by unfold ad; omega))) ((f1 _ (by unfold ad; omega) (by unfold ad; omega)).trans (i4 _ (by unfold ad; omega) (by unfold ad; omega) (by unfold ad; omega) (by unfold ad; omega))) ((f1 _ (by unfold ad; omega) (by unfold ad; omega)).trans (i4 _ (by unfold ad; omega) (by unfold ad; omega) (by unfold ad; omega) (by unfold ad; omega))) ((f2 3 (by omega) (by omega)).trans (i5 3 (by omega) (by omega))) ((f2 5 (by omega) (by omega)).trans (i5 5 (by omega) (by omega)))
        unfold sLoad at hQ
        rw [← hv] at hQ
        rw [if_neg c2] at hQ
        have q := hQ g2 hrep (fun x z => (f1 x (by unfold ad at z; omega) (by unfold ad at *; omega)).trans (hI.fr x z))
        simp only [m_M_load, b_M_load_0, wp_abs, wp_aln0, wp_copy, wp_cs1, wp_cs2, wp_cs3, wp_cs4, wp_cs5, wp_cs6, wp_cs7, wp_cv1, wp_cv2, wp_cv3, wp_cv4, wp_cv5, wp_cv6, wp_cv7, wp_goto, wp_icge, wp_iconst, wp_iln1, wp_inc1, wp_iret, wp_isn1, wp_isub, wp_izne, wp_max, wp_min, wp_nop, wp_sipush, wp_zret, qmd_kd, qmd_k1, qmd_l1, qmd_gf0, qmd_k2, qmd_l2, qmd_gf1, qmd_k3, qmd_l3, qmd_gf2, qmd_k4, qmd_l4, qmd_gf4, qmd_k5, qmd_l5, qmd_gf6, qmd_k6, qmd_l6, qmd_gf7, qmd_k7, qmd_l7, qmd_gf10, qmd_k8, qmd_l8, qmd_gf11, qmd_k9, qmd_l9, qmd_gf12, qmd_gf3, qmd_pf3, qmd_gf5, qmd_pf5, qmd_gf8, qmd_pf8, qmd_gf9, qmd_pf9, wrI_row, cpI_row, row_s, row_n, row_ss, row_sw, upd_s, upd_n, ad_inj, ad_z, ad_z2, Nat.reduceEqDiff, reduceCtorEq, List.cons_append, List.nil_append, Option.toList_some, Option.toList_none, Int.toNat_natCast, List.length_cons, List.length_nil, Int.cast_ofNat_Int, Nat.reduceAdd, Nat.reduceLeDiff, Nat.reduceLT, Nat.reduceMul, Int.reduceAdd, Int.reduceSub, Int.reduceMul, Int.reduceNeg, Int.reduceLT, Int.reduceLE, Int.reduceEq, Int.reduceToNat, eq_self, true_and, and_true, true_or, or_true, false_or, or_false, if_true, if_false, not_true_eq_false, not_false_eq_true, and_self, ne_eq, hM, y1]
        (repeat' (first | apply And.intro | split)) <;> first | omega | exact q
    · rw [if_neg c1] at hv
      exact stop p i U g1 (by omega) hI h8 hv
theorem d_load (hX : RepM g ρ M X) (hW : WFX X) (hQ : MdQ g ρ M (sLoad X) Q) : WpM zt 136 [AR M] (g, ρ) Q := by
  obtain ⟨hM, hS, -⟩ := id hX
  have hR := hS.1
  have hU := hW.1.1
  have e0 := m_0 hR
  have e5 := m_5 hR
  have b0 := hU.1
  have b5 := hU.2.2.2.2.1
  have b8 := hU.2.2.2.2.2.2.1
  have x5 : g M 5 = X.2.2.2.1 := hX.2.2.2.2.1
  have x6 := hX.2.2.2.2.2
  have wl := hW.2.2.2.1
  have wt := hW.2.2.2.2
  have f1 := fun Q => bring_ok (zt := zt) (g := g) (ρ := ρ) (b := ad M 1) (c := ad M 2) (sp := 0) (dp := 0) (n := 953) (sp' := 0) (dp' := 0) (n' := 953) (qmd_k1 hM) (qmd_k2 hM) (qmd_l1 hM) (qmd_l2 hM) (by omega) (by omega) (by omega) (by omega) (Or.inl (by unfold ad; omega)) rfl rfl rfl Q
  have hI := TrM.st hX hW rfl
  obtain ⟨g1, hg1⟩ : ∃ g1, g1 = setRow g (ad M 2) (cpR (g (ad M 1)) (g (ad M 2)) 0 0 953) := ⟨_, rfl⟩
  rw [← hg1] at f1 hI
  obtain ⟨g2, hg2⟩ : ∃ g2, g2 = setRow g1 M (upd1 (g1 M) 8 0) := ⟨_, rfl⟩
  have e42 : g2 (ad M 4) = g (ad M 4) := by
    rw [hg2, row_n (by unfold ad; omega)]
    exact hI.2.2.2.1 _ (by unfold ad; omega) (by unfold ad; omega) (by unfold ad; omega) (by unfold ad; omega)
  have hTx2 : txM g2 M X.2.2.2.1 := ⟨wl, by
    rw [hg2, row_s, upd_n (by omega)]
    exact (hI.2.2.2.2 5 (by omega) (by omega)).trans x5, fun j hj => by
    rw [e42, x6 j hj]
    exact wt j hj⟩
  have os := overSpaces_ok (zt := zt) (g := g2) (ρ := ρ) hM hTx2 (p := 0) (Nat.zero_le _) (by rw [hg2, row_s, upd_s]; rfl)
  have esk : skp (g2 (ad M 4)) X.2.2.2.1 0 = skp X.2.2.2.2 X.2.2.2.1 0 := skp_eq (fun j hj => by
    rw [e42]
    exact x6 j hj)
  rw [esk, hg2, row_s, row_ss, upd_u] at os
  have sb := skp_b (T := X.2.2.2.2) (L := X.2.2.2.1) (p := 0) (Nat.zero_le _)
  have k1 := load_loopM (zt := zt) hX hW hQ X.2.2.2.1 (skp X.2.2.2.2 X.2.2.2.1 0) 0 X.1.1 (setRow g1 M (upd1 (g1 M) 8 (skp X.2.2.2.2 X.2.2.2.1 0 : Nat))) (by omega) sb.2 b5.1 ⟨hU, by rw [row_n (by unfold ad; omega)]; exact hI.2.1, fun y z1 z2 => by rw [row_n (by unfold ad; omega)]; exact hI.2.2.1 y z1 z2, fun x z0 z1 z2 z3 => by rw [row_n z0]; exact hI.2.2.2.1 x z0 z1 z2 z3, fun k z1 z2 => by rw [row_s, upd_n z1]; exact hI.2.2.2.2 k z1 z2⟩ (by rw [row_s, upd_s]) rfl
  simp only [m_M_load, b_M_load_0, P_M_load_54, b_M_load_54, P_M_load_64, b_M_load_64, wp_abs, wp_aln0, wp_copy, wp_cs1, wp_cs2, wp_cs3, wp_cs4, wp_cs5, wp_cs6, wp_cs7, wp_cv1, wp_cv2, wp_cv3, wp_cv4, wp_cv5, wp_cv6, wp_cv7, wp_goto, wp_icge, wp_iconst, wp_iln1, wp_inc1, wp_iret, wp_isn1, wp_isub, wp_izne, wp_max, wp_min, wp_nop, wp_sipush, wp_zret, qmd_kd, qmd_k1, qmd_l1, qmd_gf0, qmd_k2, qmd_l2, qmd_gf1, qmd_k3, qmd_l3, qmd_gf2, qmd_k4, qmd_l4, qmd_gf4, qmd_k5, qmd_l5, qmd_gf6, qmd_k6, qmd_l6, qmd_gf7, qmd_k7, qmd_l7, qmd_gf10, qmd_k8, qmd_l8, qmd_gf11, qmd_k9, qmd_l9, qmd_gf12, qmd_gf3, qmd_pf3, qmd_gf5, qmd_pf5, qmd_gf8, qmd_pf8, qmd_gf9, qmd_pf9, wrI_row, cpI_row, row_s, row_n, row_ss, row_sw, upd_s, upd_n, ad_inj, ad_z, ad_z2, Nat.reduceEqDiff, reduceCtorEq, List.cons_append, List.nil_append, Option.toList_some, Option.toList_none, Int.toNat_natCast, List.length_cons, List.length_nil, Int.cast_ofNat_Int, Nat.reduceAdd, Nat.reduceLeDiff, Nat.reduceLT, Nat.reduceMul, Int.reduceAdd, Int.reduceSub, Int.reduceMul, Int.reduceNeg, Int.reduceLT, Int.reduceLE, Int.reduceEq, Int.reduceToNat, eq_self, true_and, and_true, true_or, or_true, false_or, or_false, if_true, if_false, not_true_eq_false, not_false_eq_true, and_self, ne_eq, hM, f1, os]
  exact k1
end MLF
