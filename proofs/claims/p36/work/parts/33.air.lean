/-! AIR -/
def chgV (V : Vw) (kd : Int) : Int := if kd = 9 then V 4 4 else -V 3 (kd * 4 + 3).toNat
/-- the air ahead of a frame -/
def airV (V : Vw) : Nat → Int
  | 0 => V 4 3
  | f + 1 => min (max (airV V f + chgV V (kndV V f)) 0) (V 4 3)
def gspV (V : Vw) (f : Nat) : Prop := airV V f + chgV V (kndV V f) < 0
theorem gspV_or (V : Vw) (f : Nat) : gspV V f ∨ ¬ gspV V f := Classical.em _
/-- how many gasps ahead of a frame -/
noncomputable def gcnV (V : Vw) : Nat → Int
  | 0 => 0
  | f + 1 => if airV V f + chgV V (kndV V f) < 0 then gcnV V f + 1 else gcnV V f
/-- the segment of the first gasp ahead of a frame; -1 where there is none -/
noncomputable def gsgV (V : Vw) : Nat → Int
  | 0 => -1
  | f + 1 => if airV V f + chgV V (kndV V f) < 0 ∧ gcnV V f = 0 then segV V f else gsgV V f
theorem gcnV_b (V : Vw) : ∀ f : Nat, 0 ≤ gcnV V f ∧ gcnV V f ≤ f
  | 0 => ⟨Int.le_refl _, Int.le_refl _⟩
  | f + 1 => by
    have h := gcnV_b V f
    simp only [gcnV]
    split <;> omega
theorem airV_b {V : Vw} (h : 1 ≤ V 4 3 ∧ V 4 3 ≤ 99) : ∀ f : Nat, 0 ≤ airV V f ∧ airV V f ≤ V 4 3
  | 0 => ⟨by simp only [airV]; omega, by simp only [airV]; omega⟩
  | f + 1 => by simp only [airV]; omega
/-- the segment of a frame of the segment s -/
theorem segF_at {V : Vw} {m : Int} (h : ∀ j : Nat, (j : Int) < m → 1 ≤ V 7 j ∧ V 7 j ≤ 20) {s : Nat} (hs : (s : Int) < m) {f : Int} (h1 : sumL V s ≤ f) (h2 : f < sumL V (s + 1)) : ∀ (d t : Nat), t ≤ s → s < t + d → segF V f d t = s
  | 0, t, q1, q2 => by omega
  | d + 1, t, q1, q2 => by
    simp only [segF]
    by_cases e : t = s
    · subst e
      rw [if_pos h2]
    · have hle := sumL_le h (s := t + 1) (s - (t + 1)) (by omega)
      rw [show t + 1 + (s - (t + 1)) = s by omega] at hle
      rw [if_neg (by omega)]
      exact segF_at h hs h1 h2 d (t + 1) (by omega) (by omega)
theorem segV_at {g : Nat → Nat → Int} {a : Nat} (hW : WFV (-99) (vwC g a)) {s : Nat} (hs : (s : Int) < g a 5) {f : Int} (h1 : sumL (vwC g a) s ≤ f) (h2 : f < sumL (vwC g a) (s + 1)) : segV (vwC g a) f = s :=
  segF_at (V := vwC g a) (m := g a 5) (fun j hj => w_ln hW hj) hs h1 h2 (g a 5).toNat 0 (Nat.zero_le _) (by omega)
theorem da_1 {a w i j : Nat} (h : a + 9 ≤ w ∨ w + 9 ≤ a) (hi : i ≤ 8) (hj : j ≤ 8) : (ad a i = ad w j) ↔ False := iff_false_intro (by unfold ad; omega)
section AIR
variable {zt : Nat → Nat} {g : Nat → Nat → Int} {ρ : Ri} {a w : Nat}
theorem changeIn_ok (hS : isSc ρ a) (hW : WFV (-99) (vwC g a)) {kd : Int} (hk0 : 0 ≤ kd) (hk1 : kd ≤ 9) (Q : Option AV → Sto → Prop) : WpM zt 2 [AR a, AI kd] (g, ρ) Q ↔ Q (some (AI (chgV (vwC g a) kd))) (g, ρ) := by
  refine wpm_iff (fun Q hQ => ?_) Q
  unfold chgV at hQ
  by_cases hc : kd = 9
  · rw [if_pos hc] at hQ
    subst hc
    simp only [m_A_changeIn, b_A_changeIn_0, P_A_changeIn_15, b_A_changeIn_15, P_A_changeIn_26, b_A_changeIn_26, wp_aln0, wp_bipush, wp_goto, wp_iadd, wp_iald, wp_icne, wp_iconst, wp_iln1, wp_imul, wp_ineg, wp_iret, wp_nop, wp_zret, qsc_kd, qsc_k1, qsc_l1, qsc_gf1, qsc_k2, qsc_l2, qsc_gf2, qsc_k3, qsc_l3, qsc_gf3, qsc_k4, qsc_l4, qsc_gf4, qsc_k5, qsc_l5, qsc_gf6, qsc_k6, qsc_l6, qsc_gf7, qsc_k7, qsc_l7, qsc_gf9, qsc_k8, qsc_l8, qsc_gf10, qsc_gf0, qsc_pf0, qsc_gf5, qsc_pf5, qsc_gf8, qsc_pf8, wrI_row, cpI_row, row_s, row_n, row_ss, row_sw, upd_s, upd_n, ad_inj, ad_z, ad_z2, Nat.reduceEqDiff, reduceCtorEq, List.cons_append, List.nil_append, Option.toList_some, Option.toList_none, Int.toNat_natCast, List.length_cons, List.length_nil, Int.cast_ofNat_Int, Nat.reduceAdd, Nat.reduceLeDiff, Nat.reduceLT, Nat.reduceMul, Int.reduceAdd, Int.reduceSub, Int.reduceMul, Int.reduceNeg, Int.reduceLT, Int.reduceLE, Int.reduceEq, Int.reduceToNat, eq_self, true_and, and_true, true_or, or_true, false_or, or_false, if_true, if_false, not_true_eq_false, not_false_eq_true, and_self, ne_eq, hS]
    (repeat' (first | apply And.intro | split)) <;> first | omega | exact hQ | (rw [b2_t (by omega)] at hQ; exact hQ) | (rw [b2_f (by omega)] at hQ; exact hQ)
  · rw [if_neg hc] at hQ
    simp only [m_A_changeIn, b_A_changeIn_0, P_A_changeIn_15, b_A_changeIn_15, P_A_changeIn_26, b_A_changeIn_26, wp_aln0, wp_bipush, wp_goto, wp_iadd, wp_iald, wp_icne, wp_iconst, wp_iln1, wp_imul, wp_ineg, wp_iret, wp_nop, wp_zret, qsc_kd, qsc_k1, qsc_l1, qsc_gf1, qsc_k2, qsc_l2, qsc_gf2, qsc_k3, qsc_l3, qsc_gf3, qsc_k4, qsc_l4, qsc_gf4, qsc_k5, qsc_l5, qsc_gf6, qsc_k6, qsc_l6, qsc_gf7, qsc_k7, qsc_l7, qsc_gf9, qsc_k8, qsc_l8, qsc_gf10, qsc_gf0, qsc_pf0, qsc_gf5, qsc_pf5, qsc_gf8, qsc_pf8, wrI_row, cpI_row, row_s, row_n, row_ss, row_sw, upd_s, upd_n, ad_inj, ad_z, ad_z2, Nat.reduceEqDiff, reduceCtorEq, List.cons_append, List.nil_append, Option.toList_some, Option.toList_none, Int.toNat_natCast, List.length_cons, List.length_nil, Int.cast_ofNat_Int, Nat.reduceAdd, Nat.reduceLeDiff, Nat.reduceLT, Nat.reduceMul, Int.reduceAdd, Int.reduceSub, Int.reduceMul, Int.reduceNeg, Int.reduceLT, Int.reduceLE, Int.reduceEq, Int.reduceToNat, eq_self, true_and, and_true, true_or, or_true, false_or, or_false, if_true, if_false, not_true_eq_false, not_false_eq_true, and_self, ne_eq, hS, hc]
    (repeat' (first | apply And.intro | split)) <;> first | omega | exact hQ | (rw [b2_t (by omega)] at hQ; exact hQ) | (rw [b2_f (by omega)] at hQ; exact hQ)
theorem chgV_b (hW : WFV (-99) (vwC g a)) {kd : Int} (hk0 : 0 ≤ kd) (hk1 : kd ≤ 9) : -9 ≤ chgV (vwC g a) kd ∧ chgV (vwC g a) kd ≤ 20 := by
  have hN := w_nm hW
  unfold chgV
  by_cases hc : kd = 9
  · rw [if_pos hc]
    show -9 ≤ g (ad a 4) 4 ∧ g (ad a 4) 4 ≤ 20
    omega
  · rw [if_neg hc]
    have h3 := w_sn hW (j := (kd * 4 + 3).toNat) (by omega)
    show -9 ≤ -g (ad a 3) (kd * 4 + 3).toNat ∧ -g (ad a 3) (kd * 4 + 3).toNat ≤ 20
    omega
/-- the air object's rows as far as frame f -/
def airI (g : Nat → Nat → Int) (a w : Nat) (f : Nat) (g1 : Nat → Nat → Int) : Prop :=
  (∀ j, j < f → g1 (ad w 1) j = airV (vwC g a) (j + 1)) ∧ (∀ j, j < f → (gspV (vwC g a) j → g1 (ad w 2) j = 1) ∧ (¬ gspV (vwC g a) j → g1 (ad w 2) j = 0)) ∧ g1 w 2 = gcnV (vwC g a) f ∧ g1 w 3 = gsgV (vwC g a) f ∧ ∀ x, ¬ x = w → ¬ x = ad w 1 → ¬ x = ad w 2 → g1 x = g x
theorem follow_body (hS : isSc ρ a) (hA : isAr ρ w) (hd : a + 9 ≤ w ∨ w + 9 ≤ a) (hW : WFV (-99) (vwC g a)) {s f : Nat} (hs : (s : Int) < g a 5) (hf1 : sumL (vwC g a) s ≤ f) (hf2 : (f : Int) < sumL (vwC g a) (s + 1)) (hf3 : (f : Int) < g a 8) {o6 : Option AV} {g1 : Nat → Nat → Int} (hI : airI g a w f g1) {Q : Option AV → Sto → Prop}
    (kk : ∀ (g2 : Nat → Nat → Int) (o : Option AV), airI g a w (f + 1) g2 → Wp zt 1 (P 1 49) [some (AR w), some (AR a), some (AI (airV (vwC g a) (f + 1))), some (AI ((f : Int) + 1)), some (AI s), some (AI (sumL (vwC g a) (s + 1))), o] [] (g2, ρ) Q) :
    Wp zt 1 (P 1 49) [some (AR w), some (AR a), some (AI (airV (vwC g a) f)), some (AI f), some (AI s), some (AI (sumL (vwC g a) (s + 1))), o6] [] (g1, ρ) Q := by
  have hN := w_nm hW
  have hF := w_F hW
  have hG := w_G hW
  have hkd := w_kd hW hs
  obtain ⟨i1, i2, i3, i4, i5⟩ := hI
  have hair := airV_b (V := vwC g a) hN.2.2.2.1 f
  have hair3 : airV (vwC g a) f ≤ 99 := by
    have h1 := hair.2
    have h2 : vwC g a 4 3 = g (ad a 4) 3 := rfl
    omega
  have hsum := sumL_mono (V := vwC g a) (m := g a 5) (fun j hj => w_ln hW hj) (s + 1) (by omega)
  have hseg := segV_at hW hs hf1 hf2
  have hknd : kndV (vwC g a) f = g (ad a 5) s := by unfold kndV; rw [hseg]; simp [vwC]
  have ea : ∀ j, j ≤ 8 → g1 (ad a j) = g (ad a j) := fun j hj => i5 _ (by unfold ad; omega) (by unfold ad; omega) (by unfold ad; omega)
  have e0 : g1 a = g a := i5 _ (by omega) (by unfold ad; omega) (by unfold ad; omega)
  have ev : vwC g1 a = vwC g a := vwC_kept (fun x q1 q2 => i5 x (by omega) (by unfold ad; omega) (by unfold ad; omega))
  have hch := chgV_b hW hkd.1 hkd.2
  have hcn := gcnV_b (vwC g a) f
  have e4 := ea 4 (by decide)
  have e5 := ea 5 (by decide)
  have e6 := ea 6 (by decide)
  have hci := changeIn_ok (zt := zt) (g := g1) hS (by rw [ev]; exact hW) (kd := g (ad a 5) s) hkd.1 hkd.2
  rw [ev] at hci
  have hair1 : airV (vwC g a) (f + 1) = min (max (airV (vwC g a) f + chgV (vwC g a) (g (ad a 5) s)) 0) (g (ad a 4) 3) := by
    simp only [airV, hknd]
    rfl
  have c1 : (ad a 4 = ad w 1) ↔ False := da_1 hd (by decide) (by decide)
  have c2 : (ad a 4 = ad w 2) ↔ False := da_1 hd (by decide) (by decide)
  have c3 : (ad a 4 = w) ↔ False := iff_false_intro (by unfold ad; omega)
  have cw : (airV (vwC g a) f + chgV (vwC g a) (g (ad a 5) s) < 0) ∨ ¬ (airV (vwC g a) f + chgV (vwC g a) (g (ad a 5) s) < 0) := Decidable.em _
  have key : ∀ (g2 : Nat → Nat → Int), g2 (ad w 1) = upd1 (g1 (ad w 1)) f (airV (vwC g a) (f + 1)) → (gspV (vwC g a) f → g2 (ad w 2) = upd1 (g1 (ad w 2)) f 1) → (¬ gspV (vwC g a) f → g2 (ad w 2) = upd1 (g1 (ad w 2)) f 0) → g2 w 2 = gcnV (vwC g a) (f + 1) → g2 w 3 = gsgV (vwC g a) (f + 1) → (∀ x, ¬ x = w → ¬ x = ad w 1 → ¬ x = ad w 2 → g2 x = g1 x) → airI g a w (f + 1) g2 := by
    intro g2 b1 b2' b3 b4 b5 b6
    refine ⟨fun j hj => ?_, fun j hj => ?_, b4, b5, fun x q1 q2 q3 => (b6 x q1 q2 q3).trans (i5 x q1 q2 q3)⟩
    · rw [b1]
      by_cases e : j = f
      · subst e; exact upd_s
      · rw [upd_n e]; exact i1 j (by omega)
    · by_cases e : j = f
      · subst e
        exact ⟨fun q => by rw [b2' q]; exact upd_s, fun q => by rw [b3 q]; exact upd_s⟩
      · refine ⟨fun q => ?_, fun q => ?_⟩
        · rcases gspV_or (vwC g a) f with z | z
          · rw [b2' z, upd_n e]; exact (i2 j (by omega)).1 q
          · rw [b3 z, upd_n e]; exact (i2 j (by omega)).1 q
        · rcases gspV_or (vwC g a) f with z | z
          · rw [b2' z, upd_n e]; exact (i2 j (by omega)).2 q
          · rw [b3 z, upd_n e]; exact (i2 j (by omega)).2 q
  have egs : gspV (vwC g a) f ↔ airV (vwC g a) f + chgV (vwC g a) (g (ad a 5) s) < 0 := by unfold gspV; rw [hknd]
  have hgc1 : airV (vwC g a) f + chgV (vwC g a) (g (ad a 5) s) < 0 → gcnV (vwC g a) (f + 1) = gcnV (vwC g a) f + 1 := fun q => by simp only [gcnV, hknd]; rw [if_pos q]
  have hgc0 : ¬ airV (vwC g a) f + chgV (vwC g a) (g (ad a 5) s) < 0 → gcnV (vwC g a) (f + 1) = gcnV (vwC g a) f := fun q => by simp only [gcnV, hknd]; rw [if_neg q]
  have hgs1 : airV (vwC g a) f + chgV (vwC g a) (g (ad a 5) s) < 0 ∧ gcnV (vwC g a) f = 0 → gsgV (vwC g a) (f + 1) = s := fun q => by simp only [gsgV, hknd, hseg]; rw [if_pos q]
  have hgs0 : ¬ (airV (vwC g a) f + chgV (vwC g a) (g (ad a 5) s) < 0 ∧ gcnV (vwC g a) f = 0) → gsgV (vwC g a) (f + 1) = gsgV (vwC g a) f := fun q => by simp only [gsgV, hknd]; rw [if_neg q]
  rcases cw with hg | hg
  · have hng : ¬ (0 ≤ airV (vwC g a) f + chgV (vwC g a) (g (ad a 5) s)) := by omega
    by_cases hc0 : gcnV (vwC g a) f = 0
    · rw [P_A_follow_49]
      simp only [m_A_follow, b_A_follow_0, P_A_follow_84, b_A_follow_84, P_A_follow_85, b_A_follow_85, P_A_follow_108, b_A_follow_108, P_A_follow_112, b_A_follow_112, P_A_follow_125, b_A_follow_125, P_A_follow_156, b_A_follow_156, P_A_follow_162, b_A_follow_162, wp_abs, wp_aln0, wp_aln1, wp_bald, wp_bast, wp_copy, wp_cs1, wp_cs2, wp_cs3, wp_cs4, wp_cs5, wp_cs6, wp_cs7, wp_dup, wp_goto, wp_iadd, wp_iald, wp_iast, wp_icge, wp_iconst, wp_il4, wp_il5, wp_il6, wp_iln2, wp_iln3, wp_inc3, wp_inc4, wp_is4, wp_is5, wp_is6, wp_isn2, wp_isn3, wp_izeq, wp_izge, wp_izne, wp_max, wp_min, wp_nop, wp_ret, qsc_kd, qsc_k1, qsc_l1, qsc_gf1, qsc_k2, qsc_l2, qsc_gf2, qsc_k3, qsc_l3, qsc_gf3, qsc_k4, qsc_l4, qsc_gf4, qsc_k5, qsc_l5, qsc_gf6, qsc_k6, qsc_l6, qsc_gf7, qsc_k7, qsc_l7, qsc_gf9, qsc_k8, qsc_l8, qsc_gf10, qsc_gf0, qsc_pf0, qsc_gf5, qsc_pf5, qsc_gf8, qsc_pf8, qar_kd, qar_k1, qar_l1, qar_gf0, qar_k2, qar_l2, qar_gf1, qar_gf2, qar_pf2, qar_gf3, qar_pf3, wrI_row, cpI_row, row_s, row_n, row_ss, row_sw, upd_s, upd_n, ad_inj, ad_z, ad_z2, Nat.reduceEqDiff, reduceCtorEq, List.cons_append, List.nil_append, Option.toList_some, Option.toList_none, Int.toNat_natCast, List.length_cons, List.length_nil, Int.cast_ofNat_Int, Nat.reduceAdd, Nat.reduceLeDiff, Nat.reduceLT, Nat.reduceMul, Int.reduceAdd, Int.reduceSub, Int.reduceMul, Int.reduceNeg, Int.reduceLT, Int.reduceLE, Int.reduceEq, Int.reduceToNat, eq_self, true_and, and_true, true_or, or_true, false_or, or_false, if_true, if_false, not_true_eq_false, not_false_eq_true, and_self, ne_eq, b_A_follow_49, hS, hA, e4, e5, e6, e0, hci, hng, c1, c2, c3, i3, hc0]
      (repeat' (first | apply And.intro | split)) <;> first | omega | skip
      rw [← hair1]
      refine kk _ _ (key _ ?_ (fun _ => ?_) (fun q => absurd (egs.mpr hg) q) ?_ ?_ (fun x q1 q2 q3 => ?_))
      · simp only [row_s, row_n, ad_inj, ad_z, ad_z2, Nat.reduceEqDiff, not_false_eq_true]
      · simp only [row_s, row_n, ad_inj, ad_z, ad_z2, Nat.reduceEqDiff, not_false_eq_true]
      · simp only [row_s, row_n, ad_inj, ad_z, ad_z2, Nat.reduceEqDiff, not_false_eq_true, upd_s, upd_n]
        rw [hgc1 hg, hc0]; rfl
      · simp only [row_s, row_n, ad_inj, ad_z, ad_z2, Nat.reduceEqDiff, not_false_eq_true, upd_s, upd_n]
        rw [hgs1 ⟨hg, hc0⟩]
      · rw [row_n q2, row_n q1, row_n q3]
    · rw [P_A_follow_49]
      simp only [m_A_follow, b_A_follow_0, P_A_follow_84, b_A_follow_84, P_A_follow_85, b_A_follow_85, P_A_follow_108, b_A_follow_108, P_A_follow_112, b_A_follow_112, P_A_follow_125, b_A_follow_125, P_A_follow_156, b_A_follow_156, P_A_follow_162, b_A_follow_162, wp_abs, wp_aln0, wp_aln1, wp_bald, wp_bast, wp_copy, wp_cs1, wp_cs2, wp_cs3, wp_cs4, wp_cs5, wp_cs6, wp_cs7, wp_dup, wp_goto, wp_iadd, wp_iald, wp_iast, wp_icge, wp_iconst, wp_il4, wp_il5, wp_il6, wp_iln2, wp_iln3, wp_inc3, wp_inc4, wp_is4, wp_is5, wp_is6, wp_isn2, wp_isn3, wp_izeq, wp_izge, wp_izne, wp_max, wp_min, wp_nop, wp_ret, qsc_kd, qsc_k1, qsc_l1, qsc_gf1, qsc_k2, qsc_l2, qsc_gf2, qsc_k3, qsc_l3, qsc_gf3, qsc_k4, qsc_l4, qsc_gf4, qsc_k5, qsc_l5, qsc_gf6, qsc_k6, qsc_l6, qsc_gf7, qsc_k7, qsc_l7, qsc_gf9, qsc_k8, qsc_l8, qsc_gf10, qsc_gf0, qsc_pf0, qsc_gf5, qsc_pf5, qsc_gf8, qsc_pf8, qar_kd, qar_k1, qar_l1, qar_gf0, qar_k2, qar_l2, qar_gf1, qar_gf2, qar_pf2, qar_gf3, qar_pf3, wrI_row, cpI_row, row_s, row_n, row_ss, row_sw, upd_s, upd_n, ad_inj, ad_z, ad_z2, Nat.reduceEqDiff, reduceCtorEq, List.cons_append, List.nil_append, Option.toList_some, Option.toList_none, Int.toNat_natCast, List.length_cons, List.length_nil, Int.cast_ofNat_Int, Nat.reduceAdd, Nat.reduceLeDiff, Nat.reduceLT, Nat.reduceMul, Int.reduceAdd, Int.reduceSub, Int.reduceMul, Int.reduceNeg, Int.reduceLT, Int.reduceLE, Int.reduceEq, Int.reduceToNat, eq_self, true_and, and_true, true_or, or_true, false_or, or_false, if_true, if_false, not_true_eq_false, not_false_eq_true, and_self, ne_eq, b_A_follow_49, hS, hA, e4, e5, e6, e0, hci, hng, c1, c2, c3, i3, hc0]
      (repeat' (first | apply And.intro | split)) <;> first | omega | skip
      rw [← hair1]
      refine kk _ _ (key _ ?_ (fun _ => ?_) (fun q => absurd (egs.mpr hg) q) ?_ ?_ (fun x q1 q2 q3 => ?_))
      · simp only [row_s, row_n, ad_inj, ad_z, ad_z2, Nat.reduceEqDiff, not_false_eq_true]
      · simp only [row_s, row_n, ad_inj, ad_z, ad_z2, Nat.reduceEqDiff, not_false_eq_true]
      · simp only [row_s, row_n, ad_inj, ad_z, ad_z2, Nat.reduceEqDiff, not_false_eq_true, upd_s, upd_n]
        rw [hgc1 hg]
      · simp only [row_s, row_n, ad_inj, ad_z, ad_z2, Nat.reduceEqDiff, not_false_eq_true, upd_s, upd_n]
        rw [hgs0 (fun q => hc0 q.2)]
        exact i4
      · rw [row_n q2, row_n q1, row_n q3]
  · have hng : 0 ≤ airV (vwC g a) f + chgV (vwC g a) (g (ad a 5) s) := by omega
    rw [P_A_follow_49]
    simp only [m_A_follow, b_A_follow_0, P_A_follow_84, b_A_follow_84, P_A_follow_85, b_A_follow_85, P_A_follow_108, b_A_follow_108, P_A_follow_112, b_A_follow_112, P_A_follow_125, b_A_follow_125, P_A_follow_156, b_A_follow_156, P_A_follow_162, b_A_follow_162, wp_abs, wp_aln0, wp_aln1, wp_bald, wp_bast, wp_copy, wp_cs1, wp_cs2, wp_cs3, wp_cs4, wp_cs5, wp_cs6, wp_cs7, wp_dup, wp_goto, wp_iadd, wp_iald, wp_iast, wp_icge, wp_iconst, wp_il4, wp_il5, wp_il6, wp_iln2, wp_iln3, wp_inc3, wp_inc4, wp_is4, wp_is5, wp_is6, wp_isn2, wp_isn3, wp_izeq, wp_izge, wp_izne, wp_max, wp_min, wp_nop, wp_ret, qsc_kd, qsc_k1, qsc_l1, qsc_gf1, qsc_k2, qsc_l2, qsc_gf2, qsc_k3, qsc_l3, qsc_gf3, qsc_k4, qsc_l4, qsc_gf4, qsc_k5, qsc_l5, qsc_gf6, qsc_k6, qsc_l6, qsc_gf7, qsc_k7, qsc_l7, qsc_gf9, qsc_k8, qsc_l8, qsc_gf10, qsc_gf0, qsc_pf0, qsc_gf5, qsc_pf5, qsc_gf8, qsc_pf8, qar_kd, qar_k1, qar_l1, qar_gf0, qar_k2, qar_l2, qar_gf1, qar_gf2, qar_pf2, qar_gf3, qar_pf3, wrI_row, cpI_row, row_s, row_n, row_ss, row_sw, upd_s, upd_n, ad_inj, ad_z, ad_z2, Nat.reduceEqDiff, reduceCtorEq, List.cons_append, List.nil_append, Option.toList_some, Option.toList_none, Int.toNat_natCast, List.length_cons, List.length_nil, Int.cast_ofNat_Int, Nat.reduceAdd, Nat.reduceLeDiff, Nat.reduceLT, Nat.reduceMul, Int.reduceAdd, Int.reduceSub, Int.reduceMul, Int.reduceNeg, Int.reduceLT, Int.reduceLE, Int.reduceEq, Int.reduceToNat, eq_self, true_and, and_true, true_or, or_true, false_or, or_false, if_true, if_false, not_true_eq_false, not_false_eq_true, and_self, ne_eq, b_A_follow_49, hS, hA, e4, e5, e6, e0, hci, hng, c1, c2, c3, i3]
    (repeat' (first | apply And.intro | split)) <;> first | omega | skip
    rw [← hair1]
    refine kk _ _ (key _ ?_ (fun q => absurd (egs.mp q) hg) (fun _ => ?_) ?_ ?_ (fun x q1 q2 q3 => ?_))
    · simp only [row_s, row_n, ad_inj, ad_z, ad_z2, Nat.reduceEqDiff, not_false_eq_true]
    · simp only [row_s, row_n, ad_inj, ad_z, ad_z2, Nat.reduceEqDiff, not_false_eq_true]
    · simp only [row_s, row_n, ad_inj, ad_z, ad_z2, Nat.reduceEqDiff, not_false_eq_true]
      rw [hgc0 hg]
      exact i3
    · simp only [row_s, row_n, ad_inj, ad_z, ad_z2, Nat.reduceEqDiff, not_false_eq_true]
      rw [hgs0 (fun q => hg q.1)]
      exact i4
    · rw [row_n q2, row_n q3]
theorem follow_inner (hS : isSc ρ a) (hA : isAr ρ w) (hd : a + 9 ≤ w ∨ w + 9 ≤ a) (hW : WFV (-99) (vwC g a)) {s : Nat} (hs : (s : Int) < g a 5) (hle : sumL (vwC g a) (s + 1) ≤ g a 8) {Q : Option AV → Sto → Prop}
    (kk : ∀ (g2 : Nat → Nat → Int) (o5 o6 : Option AV) (f : Nat), (f : Int) = sumL (vwC g a) (s + 1) → airI g a w f g2 → Wp zt 1 (P 1 22) [some (AR w), some (AR a), some (AI (airV (vwC g a) f)), some (AI f), some (AI ((s : Int) + 1)), o5, o6] [] (g2, ρ) Q) :
    ∀ (d f : Nat) (g1 : Nat → Nat → Int) (o6 : Option AV), (f : Int) + d = sumL (vwC g a) (s + 1) → sumL (vwC g a) s ≤ f → airI g a w f g1 → Wp zt 1 (P 1 49) [some (AR w), some (AR a), some (AI (airV (vwC g a) f)), some (AI f), some (AI s), some (AI (sumL (vwC g a) (s + 1))), o6] [] (g1, ρ) Q := by
  have hF := w_F hW
  intro d
  induction d with
  | zero =>
    intro f g1 o6 h1 h2 hI
    have k1 := kk g1 (some (AI (sumL (vwC g a) (s + 1)))) o6 f (by omega) hI
    rw [P_A_follow_49]
    simp only [m_A_follow, b_A_follow_0, P_A_follow_84, b_A_follow_84, P_A_follow_85, b_A_follow_85, P_A_follow_108, b_A_follow_108, P_A_follow_112, b_A_follow_112, P_A_follow_125, b_A_follow_125, P_A_follow_156, b_A_follow_156, P_A_follow_162, b_A_follow_162, wp_abs, wp_aln0, wp_aln1, wp_bald, wp_bast, wp_copy, wp_cs1, wp_cs2, wp_cs3, wp_cs4, wp_cs5, wp_cs6, wp_cs7, wp_dup, wp_goto, wp_iadd, wp_iald, wp_iast, wp_icge, wp_iconst, wp_il4, wp_il5, wp_il6, wp_iln2, wp_iln3, wp_inc3, wp_inc4, wp_is4, wp_is5, wp_is6, wp_isn2, wp_isn3, wp_izeq, wp_izge, wp_izne, wp_max, wp_min, wp_nop, wp_ret, qsc_kd, qsc_k1, qsc_l1, qsc_gf1, qsc_k2, qsc_l2, qsc_gf2, qsc_k3, qsc_l3, qsc_gf3, qsc_k4, qsc_l4, qsc_gf4, qsc_k5, qsc_l5, qsc_gf6, qsc_k6, qsc_l6, qsc_gf7, qsc_k7, qsc_l7, qsc_gf9, qsc_k8, qsc_l8, qsc_gf10, qsc_gf0, qsc_pf0, qsc_gf5, qsc_pf5, qsc_gf8, qsc_pf8, qar_kd, qar_k1, qar_l1, qar_gf0, qar_k2, qar_l2, qar_gf1, qar_gf2, qar_pf2, qar_gf3, qar_pf3, wrI_row, cpI_row, row_s, row_n, row_ss, row_sw, upd_s, upd_n, ad_inj, ad_z, ad_z2, Nat.reduceEqDiff, reduceCtorEq, List.cons_append, List.nil_append, Option.toList_some, Option.toList_none, Int.toNat_natCast, List.length_cons, List.length_nil, Int.cast_ofNat_Int, Nat.reduceAdd, Nat.reduceLeDiff, Nat.reduceLT, Nat.reduceMul, Int.reduceAdd, Int.reduceSub, Int.reduceMul, Int.reduceNeg, Int.reduceLT, Int.reduceLE, Int.reduceEq, Int.reduceToNat, eq_self, true_and, and_true, true_or, or_true, false_or, or_false, if_true, if_false, not_true_eq_false, not_false_eq_true, and_self, ne_eq, b_A_follow_49, hS, hA]
    (repeat' (first | apply And.intro | split)) <;> first | omega | exact k1
  | succ d ih =>
    intro f g1 o6 h1 h2 hI
    refine follow_body hS hA hd hW hs h2 (by omega) (by omega) hI (fun g2 o hI2 => ?_)
    exact ih (f + 1) g2 o (by omega) (by omega) hI2
theorem follow_loop (hS : isSc ρ a) (hA : isAr ρ w) (hd : a + 9 ≤ w ∨ w + 9 ≤ a) (hW : WFV (-99) (vwC g a)) {Q : Option AV → Sto → Prop} (hQ : ∀ g2 : Nat → Nat → Int, airI g a w (g a 8).toNat g2 → Q none (g2, ρ)) :
    ∀ (d s f : Nat) (g1 : Nat → Nat → Int) (o5 o6 : Option AV), (s : Int) + d = g a 5 → (f : Int) = sumL (vwC g a) s → airI g a w f g1 → Wp zt 1 (P 1 22) [some (AR w), some (AR a), some (AI (airV (vwC g a) f)), some (AI f), some (AI s), o5, o6] [] (g1, ρ) Q := by
  have hF := w_F hW
  have hG := w_G hW
  intro d
  induction d with
  | zero =>
    intro s f g1 o5 o6 h1 h2 hI
    have e : (g a 8).toNat = f := by
      have := w_sum hW
      rw [show (g a 5).toNat = s by omega] at this
      omega
    rw [e] at hQ
    have k1 := hQ g1 hI
    have e0 : g1 a = g a := hI.2.2.2.2 _ (by omega) (by unfold ad; omega) (by unfold ad; omega)
    rw [P_A_follow_22]
    simp only [m_A_follow, b_A_follow_0, P_A_follow_84, b_A_follow_84, P_A_follow_85, b_A_follow_85, P_A_follow_108, b_A_follow_108, P_A_follow_112, b_A_follow_112, P_A_follow_125, b_A_follow_125, P_A_follow_156, b_A_follow_156, P_A_follow_162, b_A_follow_162, wp_abs, wp_aln0, wp_aln1, wp_bald, wp_bast, wp_copy, wp_cs1, wp_cs2, wp_cs3, wp_cs4, wp_cs5, wp_cs6, wp_cs7, wp_dup, wp_goto, wp_iadd, wp_iald, wp_iast, wp_icge, wp_iconst, wp_il4, wp_il5, wp_il6, wp_iln2, wp_iln3, wp_inc3, wp_inc4, wp_is4, wp_is5, wp_is6, wp_isn2, wp_isn3, wp_izeq, wp_izge, wp_izne, wp_max, wp_min, wp_nop, wp_ret, qsc_kd, qsc_k1, qsc_l1, qsc_gf1, qsc_k2, qsc_l2, qsc_gf2, qsc_k3, qsc_l3, qsc_gf3, qsc_k4, qsc_l4, qsc_gf4, qsc_k5, qsc_l5, qsc_gf6, qsc_k6, qsc_l6, qsc_gf7, qsc_k7, qsc_l7, qsc_gf9, qsc_k8, qsc_l8, qsc_gf10, qsc_gf0, qsc_pf0, qsc_gf5, qsc_pf5, qsc_gf8, qsc_pf8, qar_kd, qar_k1, qar_l1, qar_gf0, qar_k2, qar_l2, qar_gf1, qar_gf2, qar_pf2, qar_gf3, qar_pf3, wrI_row, cpI_row, row_s, row_n, row_ss, row_sw, upd_s, upd_n, ad_inj, ad_z, ad_z2, Nat.reduceEqDiff, reduceCtorEq, List.cons_append, List.nil_append, Option.toList_some, Option.toList_none, Int.toNat_natCast, List.length_cons, List.length_nil, Int.cast_ofNat_Int, Nat.reduceAdd, Nat.reduceLeDiff, Nat.reduceLT, Nat.reduceMul, Int.reduceAdd, Int.reduceSub, Int.reduceMul, Int.reduceNeg, Int.reduceLT, Int.reduceLE, Int.reduceEq, Int.reduceToNat, eq_self, true_and, and_true, true_or, or_true, false_or, or_false, if_true, if_false, not_true_eq_false, not_false_eq_true, and_self, ne_eq, b_A_follow_22, hS, hA, e0]
    (repeat' (first | apply And.intro | split)) <;> first | omega | exact k1
  | succ d ih =>
    intro s f g1 o5 o6 h1 h2 hI
    have e0 : g1 a = g a := hI.2.2.2.2 _ (by omega) (by unfold ad; omega) (by unfold ad; omega)
    have e6 : g1 (ad a 6) = g (ad a 6) := hI.2.2.2.2 _ (by unfold ad; omega) (by unfold ad; omega) (by unfold ad; omega)
    have hs : (s : Int) < g a 5 := by omega
    have hln := w_ln hW hs
    have hle : sumL (vwC g a) (s + 1) ≤ g a 8 := by
      have h1 := sumL_le (V := vwC g a) (m := g a 5) (fun j hj => w_ln hW hj) (s := s + 1) ((g a 5).toNat - (s + 1)) (by omega)
      rw [show s + 1 + ((g a 5).toNat - (s + 1)) = (g a 5).toNat by omega, w_sum hW] at h1
      omega
    have hsu : sumL (vwC g a) (s + 1) = sumL (vwC g a) s + g (ad a 6) s := rfl
    have hmin : min ((f : Int) + g (ad a 6) s) (g a 8) = sumL (vwC g a) (s + 1) := by omega
    have k1 := follow_inner (zt := zt) hS hA hd hW hs hle (Q := Q) (fun g2 o5 o6 f2 q1 q2 => ih (s + 1) f2 g2 o5 o6 (by omega) q1 q2) (sumL (vwC g a) (s + 1) - f).toNat f g1 o6 (by omega) (by omega) hI
    rw [P_A_follow_22]
    simp only [m_A_follow, b_A_follow_0, P_A_follow_84, b_A_follow_84, P_A_follow_85, b_A_follow_85, P_A_follow_108, b_A_follow_108, P_A_follow_112, b_A_follow_112, P_A_follow_125, b_A_follow_125, P_A_follow_156, b_A_follow_156, P_A_follow_162, b_A_follow_162, wp_abs, wp_aln0, wp_aln1, wp_bald, wp_bast, wp_copy, wp_cs1, wp_cs2, wp_cs3, wp_cs4, wp_cs5, wp_cs6, wp_cs7, wp_dup, wp_goto, wp_iadd, wp_iald, wp_iast, wp_icge, wp_iconst, wp_il4, wp_il5, wp_il6, wp_iln2, wp_iln3, wp_inc3, wp_inc4, wp_is4, wp_is5, wp_is6, wp_isn2, wp_isn3, wp_izeq, wp_izge, wp_izne, wp_max, wp_min, wp_nop, wp_ret, qsc_kd, qsc_k1, qsc_l1, qsc_gf1, qsc_k2, qsc_l2, qsc_gf2, qsc_k3, qsc_l3, qsc_gf3, qsc_k4, qsc_l4, qsc_gf4, qsc_k5, qsc_l5, qsc_gf6, qsc_k6, qsc_l6, qsc_gf7, qsc_k7, qsc_l7, qsc_gf9, qsc_k8, qsc_l8, qsc_gf10, qsc_gf0, qsc_pf0, qsc_gf5, qsc_pf5, qsc_gf8, qsc_pf8, qar_kd, qar_k1, qar_l1, qar_gf0, qar_k2, qar_l2, qar_gf1, qar_gf2, qar_pf2, qar_gf3, qar_pf3, wrI_row, cpI_row, row_s, row_n, row_ss, row_sw, upd_s, upd_n, ad_inj, ad_z, ad_z2, Nat.reduceEqDiff, reduceCtorEq, List.cons_append, List.nil_append, Option.toList_some, Option.toList_none, Int.toNat_natCast, List.length_cons, List.length_nil, Int.cast_ofNat_Int, Nat.reduceAdd, Nat.reduceLeDiff, Nat.reduceLT, Nat.reduceMul, Int.reduceAdd, Int.reduceSub, Int.reduceMul, Int.reduceNeg, Int.reduceLT, Int.reduceLE, Int.reduceEq, Int.reduceToNat, eq_self, true_and, and_true, true_or, or_true, false_or, or_false, if_true, if_false, not_true_eq_false, not_false_eq_true, and_self, ne_eq, b_A_follow_22, hS, hA, e0, e6, hmin]
    (repeat' (first | apply And.intro | split)) <;> first | omega | exact k1
theorem follow_ok (hS : isSc ρ a) (hA : isAr ρ w) (hd : a + 9 ≤ w ∨ w + 9 ≤ a) (hW : WFV (-99) (vwC g a)) {Q : Option AV → Sto → Prop} (hQ : ∀ g2 : Nat → Nat → Int, airI g a w (g a 8).toNat g2 → Q none (g2, ρ)) : WpM zt 1 [AR w, AR a] (g, ρ) Q := by
  have hG := w_G hW
  have c4 : (ad a 4 = w) ↔ False := iff_false_intro (by unfold ad; omega)
  simp only [m_A_follow, b_A_follow_0, P_A_follow_84, b_A_follow_84, P_A_follow_85, b_A_follow_85, P_A_follow_108, b_A_follow_108, P_A_follow_112, b_A_follow_112, P_A_follow_125, b_A_follow_125, P_A_follow_156, b_A_follow_156, P_A_follow_162, b_A_follow_162, wp_abs, wp_aln0, wp_aln1, wp_bald, wp_bast, wp_copy, wp_cs1, wp_cs2, wp_cs3, wp_cs4, wp_cs5, wp_cs6, wp_cs7, wp_dup, wp_goto, wp_iadd, wp_iald, wp_iast, wp_icge, wp_iconst, wp_il4, wp_il5, wp_il6, wp_iln2, wp_iln3, wp_inc3, wp_inc4, wp_is4, wp_is5, wp_is6, wp_isn2, wp_isn3, wp_izeq, wp_izge, wp_izne, wp_max, wp_min, wp_nop, wp_ret, qsc_kd, qsc_k1, qsc_l1, qsc_gf1, qsc_k2, qsc_l2, qsc_gf2, qsc_k3, qsc_l3, qsc_gf3, qsc_k4, qsc_l4, qsc_gf4, qsc_k5, qsc_l5, qsc_gf6, qsc_k6, qsc_l6, qsc_gf7, qsc_k7, qsc_l7, qsc_gf9, qsc_k8, qsc_l8, qsc_gf10, qsc_gf0, qsc_pf0, qsc_gf5, qsc_pf5, qsc_gf8, qsc_pf8, qar_kd, qar_k1, qar_l1, qar_gf0, qar_k2, qar_l2, qar_gf1, qar_gf2, qar_pf2, qar_gf3, qar_pf3, wrI_row, cpI_row, row_s, row_n, row_ss, row_sw, upd_s, upd_n, ad_inj, ad_z, ad_z2, Nat.reduceEqDiff, reduceCtorEq, List.cons_append, List.nil_append, Option.toList_some, Option.toList_none, Int.toNat_natCast, List.length_cons, List.length_nil, Int.cast_ofNat_Int, Nat.reduceAdd, Nat.reduceLeDiff, Nat.reduceLT, Nat.reduceMul, Int.reduceAdd, Int.reduceSub, Int.reduceMul, Int.reduceNeg, Int.reduceLT, Int.reduceLE, Int.reduceEq, Int.reduceToNat, eq_self, true_and, and_true, true_or, or_true, false_or, or_false, if_true, if_false, not_true_eq_false, not_false_eq_true, and_self, ne_eq, hS, hA, c4]
  refine follow_loop hS hA hd hW hQ (g a 5).toNat 0 0 _ _ _ (by omega) rfl ⟨fun j hj => by omega, fun j hj => by omega, ?_, ?_, fun x q1 q2 q3 => row_n q1⟩
  · simp only [row_s, upd_s, upd_n, Nat.reduceEqDiff, not_false_eq_true]
    rfl
  · simp only [row_s, upd_s, upd_n, Nat.reduceEqDiff, not_false_eq_true]
    rfl
end AIR
