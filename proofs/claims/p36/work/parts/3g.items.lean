/-! READING ON -/
theorem bad_n {T : Nat → Int} {L : Nat} {lo hi : Int} {st : Nat} (h : ¬ bad T L lo hi st = true) (hs : st ≤ L) : st < (num T L st).1 ∧ (num T L st).1 ≤ L ∧ lo ≤ (num T L st).2 ∧ (num T L st).2 ≤ hi := by
  have h1 := num_b (T := T) (L := L) hs
  have h2 : ¬ ((num T L st).1 = st ∨ (st + 1 < (num T L st).1 ∧ T st = 48) ∨ (num T L st).2 < lo ∨ hi < (num T L st).2) := fun q => h (bad_i.2 q)
  omega
theorem skp_b {T : Nat → Int} {L p : Nat} (h : p ≤ L) : p ≤ skp T L p ∧ skp T L p ≤ L := by
  have := skF_b (T := T) (L := L) (L - p) p
  unfold skp
  omega
theorem itmV_ok {T : Nat → Int} {L p : Nat} {U : Vw} (hp : p < L) (hW : WFV (-1) U) (h : (itmV T L p U).1 = -1) : WFV (-1) (itmV T L p U).2.2 ∧ p < (itmV T L p U).2.1 ∧ (itmV T L p U).2.1 ≤ L ∧ (itmV T L p U).2.2 5 0 = U 5 0 + 1 := by
  obtain ⟨w1, -, -, -, w5, -, w7, -, -⟩ := id hW
  unfold itmV at h ⊢
  by_cases c1 : kndC (T p) = -1 ∨ 30 ≤ U 5 0
  · rw [if_pos c1] at h
    exfalso
    replace h : (p : Int) = -1 := h
    omega
  rw [if_neg c1] at h ⊢
  have s1 := skp_b (T := T) (L := L) (p := p + 1) (by omega)
  by_cases c2 : bad T L 1 (min 20 (99 - U 8 0)) (skp T L (p + 1)) = true
  · rw [if_pos c2] at h
    exfalso
    replace h : ((skp T L (p + 1) : Nat) : Int) = -1 := h
    omega
  rw [if_neg c2] at h ⊢
  have n1 := bad_n c2 s1.2
  have hkb := kndC_b (T p)
  have hW1 := insV_wf hW (s := (U 5 0).toNat) (m := (num T L (skp T L (p + 1))).2.toNat) (kd := kndC (T p)) (by omega) (by omega) (by omega) (by omega) (by omega)
  generalize hU1 : insV U (U 5 0).toNat (kndC (T p)) (num T L (skp T L (p + 1))).2.toNat = U1 at *
  have e5 : U1 5 0 = U 5 0 + 1 := by rw [← hU1]; rfl
  have e0 : U1 0 0 = U 0 0 := by rw [← hU1]; rfl
  generalize (num T L (skp T L (p + 1))).1 = e at *
  have s2 := skp_b (T := T) (L := L) (p := e) (by omega)
  unfold itm2 at h ⊢
  by_cases c3 : skp T L e < L ∧ T (skp T L e) = 33
  · rw [if_pos c3] at h ⊢
    have s3 := skp_b (T := T) (L := L) (p := skp T L e + 1) (by omega)
    by_cases c4 : bad T L 0 (U 0 0 - 1) (skp T L (skp T L e + 1)) = true
    · rw [if_pos c4] at h
      exfalso
      replace h : ((skp T L (skp T L e + 1) : Nat) : Int) = -1 := h
      omega
    · rw [if_neg c4] at h ⊢
      have n2 := bad_n c4 s3.2
      refine ⟨set_wfp hW1 (Or.inl rfl) (Or.inr ⟨by omega, by rw [e0]; omega⟩), ?_, ?_, ?_⟩
      · show p < _
        dsimp only
        omega
      · dsimp only
        omega
      · dsimp only
        rw [set_n (by omega)]
        exact e5
  · rw [if_neg c3] at h ⊢
    refine ⟨hW1, ?_, ?_, e5⟩
    · dsimp only
      omega
    · dsimp only
      omega
theorem itmV_e {T : Nat → Int} {L p : Nat} {U : Vw} (hp : p < L) : -1 ≤ (itmV T L p U).1 ∧ (itmV T L p U).1 ≤ L := by
  have s1 := skp_b (T := T) (L := L) (p := p + 1) (by omega)
  have n1 := num_b (T := T) (L := L) s1.2
  have s2 := skp_b (T := T) (L := L) n1.1.2
  unfold itmV itm2
  split
  · dsimp only
    omega
  · split
    · dsimp only
      omega
    · split
      next c3 =>
        have s3 := skp_b (T := T) (L := L) (p := skp T L (num T L (skp T L (p + 1))).1 + 1) (by omega)
        split
        · dsimp only
          omega
        · dsimp only
          omega
      next c3 =>
        dsimp only
        omega
/-- all items from p on: the error (-1: none), how many, the view -/
def itmsF (T : Nat → Int) (L : Nat) : Nat → Nat → Nat → Vw → Int × Nat × Vw
  | 0, _, i, U => (-1, i, U)
  | d + 1, p, i, U => if p < L then (if (itmV T L p U).1 = -1 then itmsF T L d (skp T L (itmV T L p U).2.1) (i + 1) (itmV T L p U).2.2 else ((itmV T L p U).1, i, U)) else (-1, i, U)
theorem itmsF_wf {T : Nat → Int} {L : Nat} : ∀ (d p i : Nat) (U : Vw), p ≤ L → WFV (-1) U → WFV (-1) (itmsF T L d p i U).2.2 ∧ -1 ≤ (itmsF T L d p i U).1 ∧ (itmsF T L d p i U).1 ≤ L
  | 0, p, i, U, hp, hW => by
    simp only [itmsF]
    exact ⟨hW, by omega, by omega⟩
  | d + 1, p, i, U, hp, hW => by
    simp only [itmsF]
    split
    next c1 =>
      split
      next c2 =>
        obtain ⟨j1, j2, j3, j4⟩ := itmV_ok c1 hW c2
        exact itmsF_wf d _ _ _ (skp_b j3).2 j1
      next c2 => exact ⟨hW, itmV_e c1⟩
    next c1 => exact ⟨hW, by omega, by omega⟩
section ITS
variable {zt : Nat → Nat} {g : Nat → Nat → Int} {ρ : Ri} {r tx L a : Nat} {U : Vw}
theorem readItem_ok (hS : isSc ρ a) (hA : isRd ρ r) (hx : ρ.1 r 1 = some tx) (hk : kdI ρ tx 0) (hl : lnA ρ tx = 120) (hne : ¬ tx = r) (hra : r < a ∨ a + 9 ≤ r) (hta : tx < a ∨ a + 9 ≤ tx) (hL : L ≤ 120) (hT : ∀ j, j < L → 0 ≤ g tx j ∧ g tx j ≤ 255) (h2 : g r 2 = L) (h0 : g r 0 = -1) {p : Nat} (hp : p < L) (h3 : g r 3 = p) (hR : LR (-99) (vwC g a) U) (hW : WFV (-1) U) {Q : Option AV → Sto → Prop}
    (hQ : ∀ g' : Nat → Nat → Int, itI g a r L (itmV (g tx) L p U) g' → Q none (g', ρ)) : WpM zt 20 [AR r, AR a] (g, ρ) Q := by
  obtain ⟨w1, -, -, -, w5, -, w7, -, -⟩ := id hW
  have e5 : g a 5 = U 5 0 := hR.l5
  have e8 : g a 8 = U 8 0 := hR.l8
  have bt := hT p hp
  have hkb := kndC_b (g tx p)
  have hko := kindOf_ok (zt := zt) (g := g) (ρ := ρ) (c := g tx p) (by omega)
  have hra2 : (a = r) ↔ False := iff_false_intro (by omega)
  have hne2 : (tx = r) ↔ False := iff_false_intro hne
  unfold itmV at hQ
  by_cases c1 : kndC (g tx p) = -1 ∨ 30 ≤ U 5 0
  · rw [if_pos c1] at hQ
    have k1 := hQ (setRow g r (upd1 (g r) 0 p)) ⟨fun x z1 z2 => row_n z2, by rw [row_s, upd_n (by omega)]; exact h2, by rw [row_s, upd_s], ⟨p, by omega, by rw [row_s, upd_n (by omega)]; exact h3⟩, fun z => by
      exfalso
      replace z : (p : Int) = -1 := z
      omega⟩
    simp only [m_R_readItem, b_R_readItem_0, P_R_readItem_27, b_R_readItem_27, P_R_readItem_36, b_R_readItem_36, P_R_readItem_155, b_R_readItem_155, wp_abs, wp_aln0, wp_aln1, wp_bipush, wp_copy, wp_cs1, wp_cs2, wp_cs3, wp_cs4, wp_cs5, wp_cs6, wp_cs7, wp_cv1, wp_cv2, wp_cv3, wp_cv4, wp_cv5, wp_cv6, wp_cv7, wp_dup, wp_iadd, wp_iald, wp_iast, wp_iceq, wp_icge, wp_iclt, wp_icne, wp_iconst, wp_il4, wp_il5, wp_iln2, wp_iln3, wp_is4, wp_is5, wp_isn2, wp_isn3, wp_isub, wp_max, wp_min, wp_nop, wp_ret, qsc_kd, qsc_k1, qsc_l1, qsc_gf1, qsc_k2, qsc_l2, qsc_gf2, qsc_k3, qsc_l3, qsc_gf3, qsc_k4, qsc_l4, qsc_gf4, qsc_k5, qsc_l5, qsc_gf6, qsc_k6, qsc_l6, qsc_gf7, qsc_k7, qsc_l7, qsc_gf9, qsc_k8, qsc_l8, qsc_gf10, qsc_gf0, qsc_pf0, qsc_gf5, qsc_pf5, qsc_gf8, qsc_pf8, qrd_kd, qrd_gf0, qrd_pf0, qrd_gf2, qrd_pf2, qrd_gf3, qrd_pf3, wrI_row, cpI_row, row_s, row_n, row_ss, row_sw, upd_s, upd_n, ad_inj, ad_z, ad_z2, Nat.reduceEqDiff, reduceCtorEq, List.cons_append, List.nil_append, Option.toList_some, Option.toList_none, Int.toNat_natCast, List.length_cons, List.length_nil, Int.cast_ofNat_Int, Nat.reduceAdd, Nat.reduceLeDiff, Nat.reduceLT, Nat.reduceMul, Int.reduceAdd, Int.reduceSub, Int.reduceMul, Int.reduceNeg, Int.reduceLT, Int.reduceLE, Int.reduceEq, Int.reduceToNat, eq_self, true_and, and_true, true_or, or_true, false_or, or_false, if_true, if_false, not_true_eq_false, not_false_eq_true, and_self, ne_eq, hA, hS, gf_2_1 (qrd_kd hA) hx, hk, hl, hne2, h2, h3, e5, hko]
    (repeat' (first | apply And.intro | split)) <;> first | omega | exact k1
  rw [if_neg c1] at hQ
  have s1 := skp_b (T := g tx) (L := L) (p := p + 1) (by omega)
  have t4 : setRow g r (upd1 (g r) 3 ((p + 1 : Nat) : Int)) tx = g tx := row_n hne
  have hnum := readNumber_ok (zt := zt) (g := setRow g r (upd1 (g r) 3 ((p + 1 : Nat) : Int))) (ρ := ρ) hA hx hk hl hne hL (by rw [t4]; exact hT) (by rw [row_s, upd_n (by omega)]; exact h2) (lo := 1) (hi := min 20 (99 - U 8 0)) (by omega) (by omega) (p := p + 1) (by omega) (by rw [row_s, upd_s]) rfl
  have e9 : ((p + 1 : Nat) : Int) = (p : Int) + 1 := by omega
  rw [t4, row_s, row_ss, row_ss, upd_u, e9] at hnum
  have hnb := num_b (T := g tx) (L := L) (p := skp (g tx) L (p + 1)) s1.2
  have hck : ¬ kndC (g tx p) = -1 := fun q => c1 (Or.inl q)
  by_cases hb : bad (g tx) L 1 (min 20 (99 - U 8 0)) (skp (g tx) L (p + 1)) = true
  · rw [if_pos hb] at hnum hQ
    generalize hs2 : skp (g tx) L (p + 1) = s2 at *
    have hs9 : ¬ (s2 : Int) = -1 := by omega
    have k1 := hQ (setRow g r (upd1 (upd1 (g r) 3 (num (g tx) L s2).1) 0 s2)) ⟨fun x z1 z2 => row_n z2, by rw [row_s, upd_n (by omega), upd_n (by omega)]; exact h2, by rw [row_s, upd_s], ⟨_, hnb.1.2, by rw [row_s, upd_n (by omega), upd_s]⟩, fun z => absurd z hs9⟩
    simp only [m_R_readItem, b_R_readItem_0, P_R_readItem_27, b_R_readItem_27, P_R_readItem_36, b_R_readItem_36, P_R_readItem_155, b_R_readItem_155, wp_abs, wp_aln0, wp_aln1, wp_bipush, wp_copy, wp_cs1, wp_cs2, wp_cs3, wp_cs4, wp_cs5, wp_cs6, wp_cs7, wp_cv1, wp_cv2, wp_cv3, wp_cv4, wp_cv5, wp_cv6, wp_cv7, wp_dup, wp_iadd, wp_iald, wp_iast, wp_iceq, wp_icge, wp_iclt, wp_icne, wp_iconst, wp_il4, wp_il5, wp_iln2, wp_iln3, wp_is4, wp_is5, wp_isn2, wp_isn3, wp_isub, wp_max, wp_min, wp_nop, wp_ret, qsc_kd, qsc_k1, qsc_l1, qsc_gf1, qsc_k2, qsc_l2, qsc_gf2, qsc_k3, qsc_l3, qsc_gf3, qsc_k4, qsc_l4, qsc_gf4, qsc_k5, qsc_l5, qsc_gf6, qsc_k6, qsc_l6, qsc_gf7, qsc_k7, qsc_l7, qsc_gf9, qsc_k8, qsc_l8, qsc_gf10, qsc_gf0, qsc_pf0, qsc_gf5, qsc_pf5, qsc_gf8, qsc_pf8, qrd_kd, qrd_gf0, qrd_pf0, qrd_gf2, qrd_pf2, qrd_gf3, qrd_pf3, wrI_row, cpI_row, row_s, row_n, row_ss, row_sw, upd_s, upd_n, ad_inj, ad_z, ad_z2, Nat.reduceEqDiff, reduceCtorEq, List.cons_append, List.nil_append, Option.toList_some, Option.toList_none, Int.toNat_natCast, List.length_cons, List.length_nil, Int.cast_ofNat_Int, Nat.reduceAdd, Nat.reduceLeDiff, Nat.reduceLT, Nat.reduceMul, Int.reduceAdd, Int.reduceSub, Int.reduceMul, Int.reduceNeg, Int.reduceLT, Int.reduceLE, Int.reduceEq, Int.reduceToNat, eq_self, true_and, and_true, true_or, or_true, false_or, or_false, if_true, if_false, not_true_eq_false, not_false_eq_true, and_self, ne_eq, hA, hS, gf_2_1 (qrd_kd hA) hx, hk, hl, hne2, h2, h3, e5, e8, hko, hck, hnum, hra2, hs9]
    (repeat' (first | apply And.intro | split)) <;> first | omega | exact k1
  · rw [if_neg hb] at hnum hQ
    have n1 := bad_n hb s1.2
    generalize hs2 : skp (g tx) L (p + 1) = s2 at *
    generalize he2 : (num (g tx) L s2).1 = e2 at *
    generalize hv2 : (num (g tx) L s2).2 = v2 at *
    have t5 : setRow g r (upd1 (g r) 3 (e2 : Int)) tx = g tx := row_n hne
    have ev : vwC (setRow g r (upd1 (g r) 3 (e2 : Int))) a = vwC g a := vwC_kept (fun x z1 z2 => row_n (by omega))
    have k1 := item_tail (zt := zt) (g := setRow g r (upd1 (g r) 3 (e2 : Int))) (ρ := ρ) (U := U) (Q := Q) hS hA hx hk hl hne hra hta hL (by rw [t5]; exact hT) (by rw [row_s, upd_n (by omega)]; exact h2) (by rw [row_s, upd_n (by omega)]; exact h0) (p := e2) (by omega) (by rw [row_s, upd_s]) (by rw [ev]; exact hR) hW (kd := kndC (g tx p)) (by omega) (v := v2.toNat) (by omega) (by omega) (by omega) (fun g' q => by
      rw [t5] at q
      refine hQ g' ⟨fun x z1 z2 => ?_, q.2.1, q.2.2.1, q.2.2.2⟩
      rw [q.1 x z1 z2]
      exact row_n z2)
    rw [show ((v2.toNat : Nat) : Int) = v2 by omega] at k1
    simp only [m_R_readItem, b_R_readItem_0, P_R_readItem_27, b_R_readItem_27, P_R_readItem_36, b_R_readItem_36, P_R_readItem_155, b_R_readItem_155, wp_abs, wp_aln0, wp_aln1, wp_bipush, wp_copy, wp_cs1, wp_cs2, wp_cs3, wp_cs4, wp_cs5, wp_cs6, wp_cs7, wp_cv1, wp_cv2, wp_cv3, wp_cv4, wp_cv5, wp_cv6, wp_cv7, wp_dup, wp_iadd, wp_iald, wp_iast, wp_iceq, wp_icge, wp_iclt, wp_icne, wp_iconst, wp_il4, wp_il5, wp_iln2, wp_iln3, wp_is4, wp_is5, wp_isn2, wp_isn3, wp_isub, wp_max, wp_min, wp_nop, wp_ret, qsc_kd, qsc_k1, qsc_l1, qsc_gf1, qsc_k2, qsc_l2, qsc_gf2, qsc_k3, qsc_l3, qsc_gf3, qsc_k4, qsc_l4, qsc_gf4, qsc_k5, qsc_l5, qsc_gf6, qsc_k6, qsc_l6, qsc_gf7, qsc_k7, qsc_l7, qsc_gf9, qsc_k8, qsc_l8, qsc_gf10, qsc_gf0, qsc_pf0, qsc_gf5, qsc_pf5, qsc_gf8, qsc_pf8, qrd_kd, qrd_gf0, qrd_pf0, qrd_gf2, qrd_pf2, qrd_gf3, qrd_pf3, wrI_row, cpI_row, row_s, row_n, row_ss, row_sw, upd_s, upd_n, ad_inj, ad_z, ad_z2, Nat.reduceEqDiff, reduceCtorEq, List.cons_append, List.nil_append, Option.toList_some, Option.toList_none, Int.toNat_natCast, List.length_cons, List.length_nil, Int.cast_ofNat_Int, Nat.reduceAdd, Nat.reduceLeDiff, Nat.reduceLT, Nat.reduceMul, Int.reduceAdd, Int.reduceSub, Int.reduceMul, Int.reduceNeg, Int.reduceLT, Int.reduceLE, Int.reduceEq, Int.reduceToNat, eq_self, true_and, and_true, true_or, or_true, false_or, or_false, if_true, if_false, not_true_eq_false, not_false_eq_true, and_self, ne_eq, hA, hS, gf_2_1 (qrd_kd hA) hx, hk, hl, hne2, h2, h3, e5, e8, hko, hck, hnum, hra2, h0]
    (repeat' (first | apply And.intro | split)) <;> first | omega | exact k1
theorem readItems_loop (hS : isSc ρ a) (hA : isRd ρ r) (hx : ρ.1 r 1 = some tx) (hk : kdI ρ tx 0) (hl : lnA ρ tx = 120) (hne : ¬ tx = r) (hra : r < a ∨ a + 9 ≤ r) (hta : tx < a ∨ a + 9 ≤ tx) (hL : L ≤ 120) (hT : ∀ j, j < L → 0 ≤ g tx j ∧ g tx j ≤ 255) {o2 : Option AV} {w : Int × Nat × Vw} {Q : Option AV → Sto → Prop}
    (hQ : ∀ (g' : Nat → Nat → Int) (v : Int), (∀ x, (x < a ∨ a + 9 ≤ x) → x ≠ r → g' x = g x) → g' r 0 = w.1 → (w.1 = -1 → v = w.2.1 ∧ LR (-99) (vwC g' a) w.2.2) → Q (some (AI v)) (g', ρ)) :
    ∀ (d p i : Nat) (U : Vw) (g1 : Nat → Nat → Int), L - p ≤ d → p ≤ L → (i : Int) ≤ U 5 0 → WFV (-1) U → LR (-99) (vwC g1 a) U → (∀ x, (x < a ∨ a + 9 ≤ x) → x ≠ r → g1 x = g x) → g1 r 0 = -1 → g1 r 2 = L → g1 r 3 = p → itmsF (g tx) L d p i U = w → Wp zt 19 (P 19 32) [some (AR r), some (AR tx), o2, some (AR a), some (AI i)] [] (g1, ρ) Q := by
  have stop : ∀ (p i : Nat) (U : Vw) (g1 : Nat → Nat → Int), p = L → LR (-99) (vwC g1 a) U → (∀ x, (x < a ∨ a + 9 ≤ x) → x ≠ r → g1 x = g x) → g1 r 0 = -1 → g1 r 2 = L → g1 r 3 = p → (-1, i, U) = w → Wp zt 19 (P 19 32) [some (AR r), some (AR tx), o2, some (AR a), some (AI i)] [] (g1, ρ) Q := by
    intro p i U g1 hp hR hfr h0 h2 h3 hw
    subst hw
    have k1 := hQ g1 i hfr h0 (fun _ => ⟨rfl, hR⟩)
    subst hp
    rw [P_R_readItems_32]
    simp only [m_R_readItems, b_R_readItems_0, P_R_readItems_73, b_R_readItems_73, wp_abs, wp_aln0, wp_aln1, wp_aln3, wp_bipush, wp_copy, wp_cs1, wp_cs2, wp_cs3, wp_cs4, wp_cs5, wp_cs6, wp_cs7, wp_cv1, wp_cv2, wp_cv3, wp_cv4, wp_cv5, wp_cv6, wp_cv7, wp_goto, wp_icge, wp_icgt, wp_icne, wp_iconst, wp_il4, wp_iln2, wp_inc4, wp_iret, wp_is4, wp_max, wp_min, wp_nop, wp_zret, qrd_kd, qrd_gf0, qrd_pf0, qrd_gf2, qrd_pf2, qrd_gf3, qrd_pf3, wrI_row, cpI_row, row_s, row_n, row_ss, row_sw, upd_s, upd_n, ad_inj, ad_z, ad_z2, Nat.reduceEqDiff, reduceCtorEq, List.cons_append, List.nil_append, Option.toList_some, Option.toList_none, Int.toNat_natCast, List.length_cons, List.length_nil, Int.cast_ofNat_Int, Nat.reduceAdd, Nat.reduceLeDiff, Nat.reduceLT, Nat.reduceMul, Int.reduceAdd, Int.reduceSub, Int.reduceMul, Int.reduceNeg, Int.reduceLT, Int.reduceLE, Int.reduceEq, Int.reduceToNat, eq_self, true_and, and_true, true_or, or_true, false_or, or_false, if_true, if_false, not_true_eq_false, not_false_eq_true, and_self, ne_eq, b_R_readItems_32, hA, h0, h2, h3]
    (repeat' (first | apply And.intro | split)) <;> first | omega | exact k1
  intro d
  induction d with
  | zero =>
    intro p i U g1 hd hp hi hW hR hfr h0 h2 h3 hw
    exact stop p i U g1 (by omega) hR hfr h0 h2 h3 hw
  | succ d ih =>
    intro p i U g1 hd hp hi hW hR hfr h0 h2 h3 hw
    simp only [itmsF] at hw
    by_cases c1 : p < L
    · rw [if_pos c1] at hw
      have w5 := hW.2.2.2.2.1
      have t1 : g1 tx = g tx := hfr tx hta hne
      have hne9 : (p : Int) < (L : Int) := by omega
      rw [P_R_readItems_32]
      simp only [m_R_readItems, b_R_readItems_0, P_R_readItems_73, b_R_readItems_73, wp_abs, wp_aln0, wp_aln1, wp_aln3, wp_bipush, wp_copy, wp_cs1, wp_cs2, wp_cs3, wp_cs4, wp_cs5, wp_cs6, wp_cs7, wp_cv1, wp_cv2, wp_cv3, wp_cv4, wp_cv5, wp_cv6, wp_cv7, wp_goto, wp_icge, wp_icgt, wp_icne, wp_iconst, wp_il4, wp_iln2, wp_inc4, wp_iret, wp_is4, wp_max, wp_min, wp_nop, wp_zret, qrd_kd, qrd_gf0, qrd_pf0, qrd_gf2, qrd_pf2, qrd_gf3, qrd_pf3, wrI_row, cpI_row, row_s, row_n, row_ss, row_sw, upd_s, upd_n, ad_inj, ad_z, ad_z2, Nat.reduceEqDiff, reduceCtorEq, List.cons_append, List.nil_append, Option.toList_some, Option.toList_none, Int.toNat_natCast, List.length_cons, List.length_nil, Int.cast_ofNat_Int, Nat.reduceAdd, Nat.reduceLeDiff, Nat.reduceLT, Nat.reduceMul, Int.reduceAdd, Int.reduceSub, Int.reduceMul, Int.reduceNeg, Int.reduceLT, Int.reduceLE, Int.reduceEq, Int.reduceToNat, eq_self, true_and, and_true, true_or, or_true, false_or, or_false, if_true, if_false, not_true_eq_false, not_false_eq_true, and_self, ne_eq, b_R_readItems_32, hA, h0, h2, h3]
      (repeat' (first | apply And.intro | split)) <;> first | omega | skip
      refine readItem_ok hS hA hx hk hl hne hra hta hL (by rw [t1]; exact hT) h2 h0 c1 h3 hR hW (fun g2 hI => ?_)
      rw [t1] at hI
      obtain ⟨i1, i2, i3, ⟨p', i4, i5⟩, i6⟩ := hI
      have t2 : g2 tx = g tx := (i1 tx hta hne).trans t1
      have hsk := skipSpaces_ok (zt := zt) (g := g2) (ρ := ρ) hA hx hk hl hne hL (by rw [t2]; exact hT) i2 i4 i5
      rw [t2] at hsk
      have hfr3 : ∀ x, (x < a ∨ a + 9 ≤ x) → x ≠ r → setRow g2 r (upd1 (g2 r) 3 (skp (g tx) L p' : Nat)) x = g x := fun x z1 z2 => by
        rw [row_n z2, i1 x z1 z2]
        exact hfr x z1 z2
      by_cases c2 : (itmV (g tx) L p U).1 = -1
      · rw [if_pos c2] at hw
        obtain ⟨j1, j2, j3, j4⟩ := itmV_ok c1 hW c2
        obtain ⟨i7, i8⟩ := i6 c2
        rw [i5] at i7
        have e : p' = (itmV (g tx) L p U).2.1 := by omega
        subst e
        have sb := skp_b (T := g tx) j3
        have k1 := ih (skp (g tx) L (itmV (g tx) L p U).2.1) (i + 1) (itmV (g tx) L p U).2.2 (setRow g2 r (upd1 (g2 r) 3 (skp (g tx) L (itmV (g tx) L p U).2.1 : Nat))) (by omega) sb.2 (by omega) j1 (by
          rw [vwC_kept (g := g2) (fun x z1 z2 => row_n (by omega))]
          exact i8) hfr3 (by rw [row_s, upd_n (by omega), i3]; exact c2) (by rw [row_s, upd_n (by omega)]; exact i2) (by rw [row_s, upd_s]) hw
        simp only [m_R_readItems, b_R_readItems_0, P_R_readItems_73, b_R_readItems_73, wp_abs, wp_aln0, wp_aln1, wp_aln3, wp_bipush, wp_copy, wp_cs1, wp_cs2, wp_cs3, wp_cs4, wp_cs5, wp_cs6, wp_cs7, wp_cv1, wp_cv2, wp_cv3, wp_cv4, wp_cv5, wp_cv6, wp_cv7, wp_goto, wp_icge, wp_icgt, wp_icne, wp_iconst, wp_il4, wp_iln2, wp_inc4, wp_iret, wp_is4, wp_max, wp_min, wp_nop, wp_zret, qrd_kd, qrd_gf0, qrd_pf0, qrd_gf2, qrd_pf2, qrd_gf3, qrd_pf3, wrI_row, cpI_row, row_s, row_n, row_ss, row_sw, upd_s, upd_n, ad_inj, ad_z, ad_z2, Nat.reduceEqDiff, reduceCtorEq, List.cons_append, List.nil_append, Option.toList_some, Option.toList_none, Int.toNat_natCast, List.length_cons, List.length_nil, Int.cast_ofNat_Int, Nat.reduceAdd, Nat.reduceLeDiff, Nat.reduceLT, Nat.reduceMul, Int.reduceAdd, Int.reduceSub, Int.reduceMul, Int.reduceNeg, Int.reduceLT, Int.reduceLE, Int.reduceEq, Int.reduceToNat, eq_self, true_and, and_true, true_or, or_true, false_or, or_false, if_true, if_false, not_true_eq_false, not_false_eq_true, and_self, ne_eq, hA, hsk]
        (repeat' (first | apply And.intro | split)) <;> first | omega | exact k1
      · rw [if_neg c2] at hw
        have e0 : setRow g2 r (upd1 (g2 r) 3 (skp (g tx) L p' : Nat)) r 0 = (itmV (g tx) L p U).1 := by rw [row_s, upd_n (by omega)]; exact i3
        have k1 := hQ (setRow g2 r (upd1 (g2 r) 3 (skp (g tx) L p' : Nat))) ((i : Int) + 1) hfr3 (by rw [e0, ← hw]) (fun z => by
          rw [← hw] at z
          exact absurd z c2)
        have eb := itmV_e (U := U) (T := g tx) c1
        rw [← i3] at eb c2
        simp only [m_R_readItems, b_R_readItems_0, P_R_readItems_32, b_R_readItems_32, P_R_readItems_73, b_R_readItems_73, wp_abs, wp_aln0, wp_aln1, wp_aln3, wp_bipush, wp_copy, wp_cs1, wp_cs2, wp_cs3, wp_cs4, wp_cs5, wp_cs6, wp_cs7, wp_cv1, wp_cv2, wp_cv3, wp_cv4, wp_cv5, wp_cv6, wp_cv7, wp_goto, wp_icge, wp_icgt, wp_icne, wp_iconst, wp_il4, wp_iln2, wp_inc4, wp_iret, wp_is4, wp_max, wp_min, wp_nop, wp_zret, qrd_kd, qrd_gf0, qrd_pf0, qrd_gf2, qrd_pf2, qrd_gf3, qrd_pf3, wrI_row, cpI_row, row_s, row_n, row_ss, row_sw, upd_s, upd_n, ad_inj, ad_z, ad_z2, Nat.reduceEqDiff, reduceCtorEq, List.cons_append, List.nil_append, Option.toList_some, Option.toList_none, Int.toNat_natCast, List.length_cons, List.length_nil, Int.cast_ofNat_Int, Nat.reduceAdd, Nat.reduceLeDiff, Nat.reduceLT, Nat.reduceMul, Int.reduceAdd, Int.reduceSub, Int.reduceMul, Int.reduceNeg, Int.reduceLT, Int.reduceLE, Int.reduceEq, Int.reduceToNat, eq_self, true_and, and_true, true_or, or_true, false_or, or_false, if_true, if_false, not_true_eq_false, not_false_eq_true, and_self, ne_eq, hA, hsk]
        (repeat' (first | apply And.intro | split)) <;> first | omega | exact k1
    · rw [if_neg c1] at hw
      exact stop p i U g1 (by omega) hR hfr h0 h2 h3 hw
/-- the store of references with the reader's text set -/
def rdP (ρ : Ri) (r tx : Nat) : Ri := (wrR ρ.1 r 1 (some tx), ρ.2)
theorem rdP_1 {x : Nat} (h : ¬ x = r) : (rdP ρ r tx).1 x = ρ.1 x := by
  funext y
  show (if x = r ∧ y = 1 then some tx else ρ.1 x y) = _
  rw [if_neg (fun q => h q.1)]
theorem readItems_ok (hS : isSc ρ a) (hA : isRd ρ r) (hk : kdI ρ tx 0) (hl : lnA ρ tx = 120) (hne : ¬ tx = r) (hra : r < a ∨ a + 9 ≤ r) (hta : tx < a ∨ a + 9 ≤ tx) (hL : L ≤ 120) (hT : ∀ j, j < L → 0 ≤ g tx j ∧ g tx j ≤ 255) (hR : LR (-99) (vwC g a) U) (hW : WFV (-1) U) {Q : Option AV → Sto → Prop}
    (hQ : ∀ (g' : Nat → Nat → Int) (v : Int), (∀ x, (x < a ∨ a + 9 ≤ x) → x ≠ r → g' x = g x) → g' r 0 = (itmsF (g tx) L L (skp (g tx) L 0) 0 U).1 → ((itmsF (g tx) L L (skp (g tx) L 0) 0 U).1 = -1 → v = (itmsF (g tx) L L (skp (g tx) L 0) 0 U).2.1 ∧ LR (-99) (vwC g' a) (itmsF (g tx) L L (skp (g tx) L 0) 0 U).2.2) → Q (some (AI v)) (g', rdP ρ r tx)) : WpM zt 19 [AR r, AR tx, AI L, AR a] (g, ρ) Q := by
  have hS' : isSc (rdP ρ r tx) a := by
    have e := rdP_1 (ρ := ρ) (r := r) (tx := tx) (x := a) (by omega)
    unfold isSc at hS ⊢
    rw [e]
    exact hS
  have hA' : isRd (rdP ρ r tx) r := hA
  have hk' : kdI (rdP ρ r tx) tx 0 := hk
  have hl' : lnA (rdP ρ r tx) tx = 120 := hl
  have hx' : (rdP ρ r tx).1 r 1 = some tx := if_pos ⟨rfl, rfl⟩
  have et : setRow g r (upd1 (upd1 (upd1 (g r) 2 L) 3 0) 0 (-1)) tx = g tx := row_n hne
  have hsk := skipSpaces_ok (zt := zt) (g := setRow g r (upd1 (upd1 (upd1 (g r) 2 L) 3 0) 0 (-1))) (ρ := rdP ρ r tx) hA' hx' hk' hl' hne hL (by rw [et]; exact hT) (by rw [row_s, upd_n (by omega), upd_n (by omega), upd_s]) (p := 0) (by omega) (by rw [row_s, upd_n (by omega), upd_s]; rfl)
  rw [et, row_s, row_ss] at hsk
  have hsb := skp_b (T := g tx) (L := L) (p := 0) (by omega)
  have k1 := readItems_loop (zt := zt) (g := g) (o2 := some (AI L)) hS' hA' hx' hk' hl' hne hra hta hL hT hQ L (skp (g tx) L 0) 0 U (setRow g r (upd1 (upd1 (upd1 (upd1 (g r) 2 L) 3 0) 0 (-1)) 3 (skp (g tx) L 0 : Nat))) (by omega) hsb.2 (by have := hW.2.2.2.2.1; omega) hW (by
    rw [vwC_kept (g := g) (fun x z1 z2 => row_n (by omega))]
    exact hR) (fun x z1 z2 => row_n z2) (by rw [row_s, upd_n (by omega), upd_s]) (by rw [row_s, upd_n (by omega), upd_n (by omega), upd_n (by omega), upd_s]) (by rw [row_s, upd_s]) rfl
  have hmin : min (L : Int) 120 = L := by omega
  unfold rdP at hA' hk' hl' hsk k1
  simp only [m_R_readItems, b_R_readItems_0, P_R_readItems_73, b_R_readItems_73, wp_abs, wp_aln0, wp_aln1, wp_aln3, wp_bipush, wp_copy, wp_cs1, wp_cs2, wp_cs3, wp_cs4, wp_cs5, wp_cs6, wp_cs7, wp_cv1, wp_cv2, wp_cv3, wp_cv4, wp_cv5, wp_cv6, wp_cv7, wp_goto, wp_icge, wp_icgt, wp_icne, wp_iconst, wp_il4, wp_iln2, wp_inc4, wp_iret, wp_is4, wp_max, wp_min, wp_nop, wp_zret, qrd_kd, qrd_gf0, qrd_pf0, qrd_gf2, qrd_pf2, qrd_gf3, qrd_pf3, wrI_row, cpI_row, row_s, row_n, row_ss, row_sw, upd_s, upd_n, ad_inj, ad_z, ad_z2, Nat.reduceEqDiff, reduceCtorEq, List.cons_append, List.nil_append, Option.toList_some, Option.toList_none, Int.toNat_natCast, List.length_cons, List.length_nil, Int.cast_ofNat_Int, Nat.reduceAdd, Nat.reduceLeDiff, Nat.reduceLT, Nat.reduceMul, Int.reduceAdd, Int.reduceSub, Int.reduceMul, Int.reduceNeg, Int.reduceLT, Int.reduceLE, Int.reduceEq, Int.reduceToNat, eq_self, true_and, and_true, true_or, or_true, false_or, or_false, if_true, if_false, not_true_eq_false, not_false_eq_true, and_self, ne_eq, hA, hA', pf_2_1 (qrd_kd hA), wp_alen hk' (by omega), hl', hsk, hmin]
  (repeat' (first | apply And.intro | split)) <;> first | omega | exact k1
end ITS
