/-! ITEMS -/
/-- what follows the segment U1 at p: its error (-1: none), where it ends, the view -/
def itm2 (T : Nat → Int) (L : Nat) (U1 : Vw) (F : Nat) (M1 : Int) (p : Nat) : Int × Nat × Vw :=
  if skp T L p < L ∧ T (skp T L p) = 33 then (if bad T L 0 M1 (skp T L (skp T L p + 1)) = true then ((skp T L (skp T L p + 1) : Nat), 0, U1) else (-1, (num T L (skp T L (skp T L p + 1))).1, setV U1 9 F (num T L (skp T L (skp T L p + 1))).2)) else (-1, skp T L p, U1)
def itmV (T : Nat → Int) (L p : Nat) (U : Vw) : Int × Nat × Vw :=
  if kndC (T p) = -1 ∨ 30 ≤ U 5 0 then (p, 0, U)
  else if bad T L 1 (min 20 (99 - U 8 0)) (skp T L (p + 1)) = true then ((skp T L (p + 1) : Nat), 0, U)
  else itm2 T L (insV U (U 5 0).toNat (kndC (T p)) (num T L (skp T L (p + 1))).2.toNat) (U 8 0).toNat (U 0 0 - 1) (num T L (skp T L (p + 1))).1
theorem openS_out {g : Nat → Nat → Int} {a s m x : Nat} {kd : Int} (h : x < a ∨ a + 9 ≤ x) : openS g a s kd m x = g x := by
  unfold openS openF
  rw [row_n (by omega), row_n (by unfold ad; omega), row_n (by unfold ad; omega), row_n (by omega), row_n (by unfold ad; omega), row_n (by unfold ad; omega)]
theorem kndC_b (c : Int) : -1 ≤ kndC c ∧ kndC c ≤ 9 := by
  unfold kndC
  split
  · omega
  · split <;> omega
def itI (g : Nat → Nat → Int) (a r L : Nat) (w : Int × Nat × Vw) (g' : Nat → Nat → Int) : Prop := (∀ x, (x < a ∨ a + 9 ≤ x) → x ≠ r → g' x = g x) ∧ g' r 2 = L ∧ g' r 0 = w.1 ∧ (∃ p' : Nat, p' ≤ L ∧ g' r 3 = p') ∧ (w.1 = -1 → g' r 3 = w.2.1 ∧ LR (-99) (vwC g' a) w.2.2)
section ITM
variable {zt : Nat → Nat} {g : Nat → Nat → Int} {ρ : Ri} {r tx L a : Nat} {U : Vw}
theorem item_tail (hS : isSc ρ a) (hA : isRd ρ r) (hx : ρ.1 r 1 = some tx) (hk : kdI ρ tx 0) (hl : lnA ρ tx = 120) (hne : ¬ tx = r) (hra : r < a ∨ a + 9 ≤ r) (hta : tx < a ∨ a + 9 ≤ tx) (hL : L ≤ 120) (hT : ∀ j, j < L → 0 ≤ g tx j ∧ g tx j ≤ 255) (h2 : g r 2 = L) (h0 : g r 0 = -1) {p : Nat} (hp : p ≤ L) (h3 : g r 3 = p) (hR : LR (-99) (vwC g a) U) (hW : WFV (-1) U) {kd : Int} (hkd : 0 ≤ kd ∧ kd ≤ 9) {v : Nat} (hv : 1 ≤ v ∧ v ≤ 20) (hG : U 5 0 < 30) (hF : U 8 0 + v ≤ 99) {Q : Option AV → Sto → Prop}
    (hQ : ∀ g' : Nat → Nat → Int, itI g a r L (itm2 (g tx) L (insV U (U 5 0).toNat kd v) (U 8 0).toNat (U 0 0 - 1) p) g' → Q none (g', ρ)) : Wp zt 20 (P 20 76) [some (AR r), some (AR a), some (AI kd), some (AI (U 8 0)), some (AI v), none] [] (g, ρ) Q := by
  obtain ⟨w1, -, -, -, w5, -, w7, -, -⟩ := id hW
  have hWV := hR.wf (by omega) hW
  have e5 : g a 5 = U 5 0 := hR.l5
  have e8 : g a 8 = U 8 0 := hR.l8
  have hop := openSegment_ok (zt := zt) hS hWV (s := (U 5 0).toNat) (m := v) (kd := kd) (by omega) (by omega) (by omega)
  rw [show (((U 5 0).toNat : Nat) : Int) = U 5 0 by omega] at hop
  have hR1 := openS_lr (m := v) (kd := kd) hR hW (s := (U 5 0).toNat) (by omega)
  have hW1 := insV_wf hW (s := (U 5 0).toNat) (m := v) (kd := kd) (by omega) hG hkd hv hF
  generalize hg3 : openS g a (U 5 0).toNat kd v = g3 at *
  generalize hU1 : insV U (U 5 0).toNat kd v = U1 at *
  have r3 : g3 r = g r := by rw [← hg3]; exact openS_out hra
  have t3 : g3 tx = g tx := by rw [← hg3]; exact openS_out hta
  have o3 : ∀ x, (x < a ∨ a + 9 ≤ x) → g3 x = g x := fun x q => by rw [← hg3]; exact openS_out q
  have m3 : g3 a 0 = U 0 0 := by
    have := hR1.l0
    rw [← hU1] at this
    exact this
  have hsk := skipSpaces_ok (zt := zt) (g := g3) (ρ := ρ) hA hx hk hl hne hL (by rw [t3]; exact hT) (by rw [r3]; exact h2) hp (by rw [r3]; exact h3)
  rw [t3, r3] at hsk
  have hqb := skF_b (T := g tx) (L := L) (L - p) p
  generalize hq : skp (g tx) L p = q at *
  have hq2 : skF (g tx) L (L - p) p = q := hq
  rw [hq2] at hqb
  have hra2 : (a = r) ↔ False := iff_false_intro (by omega)
  have hra3 : (ad a 7 = r) ↔ False := iff_false_intro (by unfold ad; omega)
  have hne2 : (tx = r) ↔ False := iff_false_intro hne
  rw [P_R_readItem_76]
  by_cases c1 : q < L ∧ g tx q = 33
  · have t4 : setRow g3 r (upd1 (g r) 3 ((q + 1 : Nat) : Int)) tx = g tx := (row_n hne).trans t3
    have hnum := readNumber_ok (zt := zt) (g := setRow g3 r (upd1 (g r) 3 ((q + 1 : Nat) : Int))) (ρ := ρ) hA hx hk hl hne hL (by rw [t4]; exact hT) (by rw [row_s, upd_n (by omega)]; exact h2) (lo := 0) (hi := U 0 0 - 1) (by omega) (by omega) (p := q + 1) (by omega) (by rw [row_s, upd_s]) rfl
    have e9 : ((q + 1 : Nat) : Int) = (q : Int) + 1 := by omega
    rw [t4, row_s, row_ss, row_ss, upd_u, e9] at hnum
    have hqb2 := skF_b (T := g tx) (L := L) (L - (q + 1)) (q + 1)
    have hnb := num_b (T := g tx) (L := L) (p := skp (g tx) L (q + 1)) (hqb2.2 (by omega))
    unfold itm2 at hQ
    rw [hq, if_pos c1] at hQ
    obtain ⟨c2, c3⟩ := c1
    generalize hs2 : skp (g tx) L (q + 1) = s2 at *
    generalize he2 : (num (g tx) L s2).1 = e2 at *
    generalize hv2 : (num (g tx) L s2).2 = v2 at *
    by_cases hb : bad (g tx) L 0 (U 0 0 - 1) s2 = true
    · rw [if_pos hb] at hnum hQ
      have k1 := hQ (setRow g3 r (upd1 (upd1 (g r) 3 e2) 0 s2)) (by
        refine ⟨fun x z1 z2 => ?_, ?_, ?_, ⟨e2, by omega, by rw [row_s, upd_n (by omega), upd_s]⟩, fun z => ?_⟩
        · rw [row_n z2]
          exact o3 x z1
        · rw [row_s, upd_n (by omega), upd_n (by omega)]
          exact h2
        · rw [row_s, upd_s]
        · exfalso
          replace z : (s2 : Int) = -1 := z
          omega)
      have hs9 : ¬ (s2 : Int) = -1 := by omega
      simp only [m_R_readItem, b_R_readItem_0, P_R_readItem_27, b_R_readItem_27, P_R_readItem_36, b_R_readItem_36, P_R_readItem_155, b_R_readItem_155, wp_abs, wp_aln0, wp_aln1, wp_bipush, wp_copy, wp_cs1, wp_cs2, wp_cs3, wp_cs4, wp_cs5, wp_cs6, wp_cs7, wp_cv1, wp_cv2, wp_cv3, wp_cv4, wp_cv5, wp_cv6, wp_cv7, wp_dup, wp_iadd, wp_iald, wp_iast, wp_iceq, wp_icge, wp_iclt, wp_icne, wp_iconst, wp_il4, wp_il5, wp_iln2, wp_iln3, wp_is4, wp_is5, wp_isn2, wp_isn3, wp_isub, wp_max, wp_min, wp_nop, wp_ret, qsc_kd, qsc_k1, qsc_l1, qsc_gf1, qsc_k2, qsc_l2, qsc_gf2, qsc_k3, qsc_l3, qsc_gf3, qsc_k4, qsc_l4, qsc_gf4, qsc_k5, qsc_l5, qsc_gf6, qsc_k6, qsc_l6, qsc_gf7, qsc_k7, qsc_l7, qsc_gf9, qsc_k8, qsc_l8, qsc_gf10, qsc_gf0, qsc_pf0, qsc_gf5, qsc_pf5, qsc_gf8, qsc_pf8, qrd_kd, qrd_gf0, qrd_pf0, qrd_gf2, qrd_pf2, qrd_gf3, qrd_pf3, wrI_row, cpI_row, row_s, row_n, row_ss, row_sw, upd_s, upd_n, ad_inj, ad_z, ad_z2, Nat.reduceEqDiff, reduceCtorEq, List.cons_append, List.nil_append, Option.toList_some, Option.toList_none, Int.toNat_natCast, List.length_cons, List.length_nil, Int.cast_ofNat_Int, Nat.reduceAdd, Nat.reduceLeDiff, Nat.reduceLT, Nat.reduceMul, Int.reduceAdd, Int.reduceSub, Int.reduceMul, Int.reduceNeg, Int.reduceLT, Int.reduceLE, Int.reduceEq, Int.reduceToNat, eq_self, true_and, and_true, true_or, or_true, false_or, or_false, if_true, if_false, not_true_eq_false, not_false_eq_true, and_self, ne_eq, b_R_readItem_76, hA, hS, gf_2_1 (qrd_kd hA) hx, hk, hl, hne2, h2, e5, hop, hsk, t3, c3, upd_u, hra2, m3, hnum, hs9]
      (repeat' (first | apply And.intro | split)) <;> first | omega | exact k1
    · rw [if_neg hb] at hnum hQ
      have k1 := hQ (setRow (setRow g3 r (upd1 (g r) 3 e2)) (ad a 7) (upd1 (g3 (ad a 7)) (U 8 0).toNat v2)) (by
        refine ⟨fun x z1 z2 => ?_, ?_, ?_, ⟨e2, by omega, by rw [row_n (by unfold ad; omega), row_s, upd_s]⟩, fun z => ⟨?_, ?_⟩⟩
        · rw [row_n (by unfold ad; omega), row_n z2]
          exact o3 x z1
        · rw [row_n (by unfold ad; omega), row_s, upd_n (by omega)]
          exact h2
        · rw [row_n (by unfold ad; omega), row_s, upd_n (by omega)]
          exact h0
        · rw [row_n (by unfold ad; omega), row_s, upd_s]
        · have ev : vwC (setRow g3 r (upd1 (g r) 3 e2)) a = vwC g3 a := vwC_kept (fun x z1 z2 => row_n (by omega))
          have er : setRow g3 r (upd1 (g r) 3 (e2 : Int)) (ad a 7) = g3 (ad a 7) := row_n (by unfold ad; omega)
          rw [← er]
          refine lr_setp hR1 (Or.inl rfl) (fun k' j' z1 z2 => ?_) ?_
          · rw [vw_p (kk := 9) (by omega) z1, if_neg z2, ev]
          · rw [vw_p (kk := 9) (by omega) (by omega), if_pos ⟨rfl, rfl⟩]
            unfold nn
            rw [if_neg (by omega)])
      simp only [m_R_readItem, b_R_readItem_0, P_R_readItem_27, b_R_readItem_27, P_R_readItem_36, b_R_readItem_36, P_R_readItem_155, b_R_readItem_155, wp_abs, wp_aln0, wp_aln1, wp_bipush, wp_copy, wp_cs1, wp_cs2, wp_cs3, wp_cs4, wp_cs5, wp_cs6, wp_cs7, wp_cv1, wp_cv2, wp_cv3, wp_cv4, wp_cv5, wp_cv6, wp_cv7, wp_dup, wp_iadd, wp_iald, wp_iast, wp_iceq, wp_icge, wp_iclt, wp_icne, wp_iconst, wp_il4, wp_il5, wp_iln2, wp_iln3, wp_is4, wp_is5, wp_isn2, wp_isn3, wp_isub, wp_max, wp_min, wp_nop, wp_ret, qsc_kd, qsc_k1, qsc_l1, qsc_gf1, qsc_k2, qsc_l2, qsc_gf2, qsc_k3, qsc_l3, qsc_gf3, qsc_k4, qsc_l4, qsc_gf4, qsc_k5, qsc_l5, qsc_gf6, qsc_k6, qsc_l6, qsc_gf7, qsc_k7, qsc_l7, qsc_gf9, qsc_k8, qsc_l8, qsc_gf10, qsc_gf0, qsc_pf0, qsc_gf5, qsc_pf5, qsc_gf8, qsc_pf8, qrd_kd, qrd_gf0, qrd_pf0, qrd_gf2, qrd_pf2, qrd_gf3, qrd_pf3, wrI_row, cpI_row, row_s, row_n, row_ss, row_sw, upd_s, upd_n, ad_inj, ad_z, ad_z2, Nat.reduceEqDiff, reduceCtorEq, List.cons_append, List.nil_append, Option.toList_some, Option.toList_none, Int.toNat_natCast, List.length_cons, List.length_nil, Int.cast_ofNat_Int, Nat.reduceAdd, Nat.reduceLeDiff, Nat.reduceLT, Nat.reduceMul, Int.reduceAdd, Int.reduceSub, Int.reduceMul, Int.reduceNeg, Int.reduceLT, Int.reduceLE, Int.reduceEq, Int.reduceToNat, eq_self, true_and, and_true, true_or, or_true, false_or, or_false, if_true, if_false, not_true_eq_false, not_false_eq_true, and_self, ne_eq, b_R_readItem_76, hA, hS, gf_2_1 (qrd_kd hA) hx, hk, hl, hne2, h2, e5, hop, hsk, t3, c3, upd_u, hra2, hra3, m3, hnum, h0]
      (repeat' (first | apply And.intro | split)) <;> first | omega | exact k1
  · have k1 := hQ (setRow g3 r (upd1 (g r) 3 q)) (by
      unfold itm2
      rw [hq, if_neg c1]
      refine ⟨fun x z1 z2 => ?_, ?_, ?_, ⟨q, by omega, by rw [row_s, upd_s]⟩, fun _ => ⟨?_, ?_⟩⟩
      · rw [row_n z2]
        exact o3 x z1
      · rw [row_s, upd_n (by omega)]
        exact h2
      · rw [row_s, upd_n (by omega)]
        exact h0
      · rw [row_s, upd_s]
      · rw [vwC_kept (g := g3) (fun x z1 z2 => row_n (by omega))]
        exact hR1)
    have b := fun (z : q < L) => hT q z
    simp only [m_R_readItem, b_R_readItem_0, P_R_readItem_27, b_R_readItem_27, P_R_readItem_36, b_R_readItem_36, P_R_readItem_155, b_R_readItem_155, wp_abs, wp_aln0, wp_aln1, wp_bipush, wp_copy, wp_cs1, wp_cs2, wp_cs3, wp_cs4, wp_cs5, wp_cs6, wp_cs7, wp_cv1, wp_cv2, wp_cv3, wp_cv4, wp_cv5, wp_cv6, wp_cv7, wp_dup, wp_iadd, wp_iald, wp_iast, wp_iceq, wp_icge, wp_iclt, wp_icne, wp_iconst, wp_il4, wp_il5, wp_iln2, wp_iln3, wp_is4, wp_is5, wp_isn2, wp_isn3, wp_isub, wp_max, wp_min, wp_nop, wp_ret, qsc_kd, qsc_k1, qsc_l1, qsc_gf1, qsc_k2, qsc_l2, qsc_gf2, qsc_k3, qsc_l3, qsc_gf3, qsc_k4, qsc_l4, qsc_gf4, qsc_k5, qsc_l5, qsc_gf6, qsc_k6, qsc_l6, qsc_gf7, qsc_k7, qsc_l7, qsc_gf9, qsc_k8, qsc_l8, qsc_gf10, qsc_gf0, qsc_pf0, qsc_gf5, qsc_pf5, qsc_gf8, qsc_pf8, qrd_kd, qrd_gf0, qrd_pf0, qrd_gf2, qrd_pf2, qrd_gf3, qrd_pf3, wrI_row, cpI_row, row_s, row_n, row_ss, row_sw, upd_s, upd_n, ad_inj, ad_z, ad_z2, Nat.reduceEqDiff, reduceCtorEq, List.cons_append, List.nil_append, Option.toList_some, Option.toList_none, Int.toNat_natCast, List.length_cons, List.length_nil, Int.cast_ofNat_Int, Nat.reduceAdd, Nat.reduceLeDiff, Nat.reduceLT, Nat.reduceMul, Int.reduceAdd, Int.reduceSub, Int.reduceMul, Int.reduceNeg, Int.reduceLT, Int.reduceLE, Int.reduceEq, Int.reduceToNat, eq_self, true_and, and_true, true_or, or_true, false_or, or_false, if_true, if_false, not_true_eq_false, not_false_eq_true, and_self, ne_eq, b_R_readItem_76, hA, hS, gf_2_1 (qrd_kd hA) hx, hk, hl, hne2, h2, e5, hop, hsk, t3]
    by_cases z : q < L
    · have b2 := b z
      (repeat' (first | apply And.intro | split)) <;> first | omega | exact k1
    · (repeat' (first | apply And.intro | split)) <;> first | omega | exact k1
end ITM
