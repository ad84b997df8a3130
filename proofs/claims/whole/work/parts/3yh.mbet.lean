/-! nearest, between, fault of the reference -/
section AMN
variable {p : Nat → Bool} {f : Nat → Int}
theorem aminP_ne {j : Nat} (hj : p j = true) : ∀ n : Nat, j < n → aminP p f n ≠ -1
  | 0, h => by omega
  | n + 1, h => by
    have hb := aminP_b (p := p) (f := f) n
    simp only [aminP]
    split
    next c => omega
    next c =>
      intro q
      by_cases e : j = n
      · subst e
        exact c ⟨hj, Or.inl q⟩
      · exact aminP_ne hj n (by omega) q
theorem aminP_true : ∀ n : Nat, aminP (fun _ => true) f (n + 1) = (amin f (n + 1) : Nat)
  | 0 => by
    rw [amin_1]
    simp [aminP]
  | n + 1 => by
    have h1 := aminP_true n
    have e : aminP (fun _ => true) f (n + 1 + 1) = if (true = true) ∧ (aminP (fun _ => true) f (n + 1) = -1 ∨ f (n + 1) < f (aminP (fun _ => true) f (n + 1)).toNat) then ((n + 1 : Nat) : Int) else aminP (fun _ => true) f (n + 1) := rfl
    have e2 : amin f (n + 1 + 1) = if f (n + 1) < f (amin f (n + 1)) then n + 1 else amin f (n + 1) := rfl
    rw [e, e2, h1, Int.toNat_natCast]
    by_cases c : f (n + 1) < f (amin f (n + 1))
    · rw [if_pos ⟨rfl, Or.inr c⟩, if_pos c]
    · rw [if_neg (fun z => z.2.elim (fun q => by omega) c), if_neg c]
end AMN
/-- the best so far and its distance -/
def bsI (p : Nat → Bool) (f : Nat → Int) (k : Nat) (B D : Int) : Prop := (aminP p f k = -1 ∧ B = -99 ∧ D = 1000000) ∨ (0 ≤ aminP p f k ∧ B = aminP p f k ∧ D = f (aminP p f k).toNat)
theorem bsI_new {p : Nat → Bool} {f : Nat → Int} {k : Nat} {B D : Int} (h : bsI p f k B D) (hp : p k = true) (hl : f k < D) : bsI p f (k + 1) k (f k) := by
  refine Or.inr ?_
  have e : aminP p f (k + 1) = (k : Int) := by
    simp only [aminP]
    refine if_pos ⟨hp, ?_⟩
    rcases h with ⟨a1, a2, a3⟩ | ⟨a1, a2, a3⟩
    · exact Or.inl a1
    · rw [a3] at hl
      exact Or.inr hl
  rw [e, Int.toNat_natCast]
  exact ⟨by omega, rfl, rfl⟩
theorem bsI_old {p : Nat → Bool} {f : Nat → Int} {k : Nat} {B D : Int} (h : bsI p f k B D) (hf : f k < 1000000) (hn : ¬ (p k = true ∧ f k < D)) : bsI p f (k + 1) B D := by
  have e : aminP p f (k + 1) = aminP p f k := by
    simp only [aminP]
    refine if_neg (fun q => hn ⟨q.1, ?_⟩)
    rcases h with ⟨a1, a2, a3⟩ | ⟨a1, a2, a3⟩
    · rw [a3]
      exact hf
    · rw [a3]
      exact q.2.resolve_left (by omega)
  unfold bsI
  rw [e]
  exact h
section NRT
variable {zt : Nat → Nat} {g : Nat → Nat → Int} {ρ : Ri} {a : Nat} {U : Vw}
theorem nearestTo_loop (hM : isMd ρ a) (hR : LR (-1) (vwM (g (ad a 1))) U) (hU : WFV (-1) U) {o w x : Int} (ho : -1000 ≤ o ∧ o ≤ 1000) (hw : -1000 ≤ w ∧ w ≤ 1000) {p : Nat → Bool} (hp : (-99 ≤ x ∧ x < 0 ∧ ∀ m, p m = true) ∨ (0 ≤ x ∧ x < U 0 0 ∧ ∀ m, p m = decide (jmpV U x.toNat m ≤ U 4 0))) {Q : Option AV → Sto → Prop} (hQ : ∀ B D : Int, bsI p (fun m => dstV U m o w) (U 0 0).toNat B D → Q (some (AI B)) (g, ρ)) :
    ∀ (d k : Nat) (B D : Int) (o7 o8 : Option AV), (k : Int) + d = U 0 0 → bsI p (fun m => dstV U m o w) k B D → Wp zt 121 (P 121 11) [some (AR a), some (AI o), some (AI w), some (AI x), some (AI B), some (AI D), some (AI k), o7, o8] [] (g, ρ) Q := by
  have b0 := hU.1
  have b4 := hU.2.2.2.1
  have e0 := m_0 hR
  have hdb : ∀ m : Nat, (m : Int) < U 0 0 → 0 ≤ dstV U m o w ∧ dstV U m o w ≤ 2000 := fun m hm => by
    have := hU.2.1 m hm
    unfold dstV
    omega
  intro d
  induction d with
  | zero =>
    intro k B D o7 o8 hk hI
    rw [show k = (U 0 0).toNat by omega] at hI
    have q := hQ B D hI
    rw [P_M_nearestTo_11]
    simp only [m_M_nearestTo, b_M_nearestTo_0, P_M_nearestTo_66, b_M_nearestTo_66, P_M_nearestTo_77, b_M_nearestTo_77, P_M_nearestTo_78, b_M_nearestTo_78, P_M_nearestTo_90, b_M_nearestTo_90, P_M_nearestTo_92, b_M_nearestTo_92, P_M_nearestTo_104, b_M_nearestTo_104, P_M_nearestTo_106, b_M_nearestTo_106, P_M_nearestTo_114, b_M_nearestTo_114, wp_abs, wp_aln0, wp_bipush, wp_copy, wp_cs1, wp_cs2, wp_cs3, wp_cs4, wp_cs5, wp_cs6, wp_cs7, wp_cv1, wp_cv2, wp_cv3, wp_cv4, wp_cv5, wp_cv6, wp_cv7, wp_goto, wp_iald, wp_icge, wp_icgt, wp_iconst, wp_il4, wp_il5, wp_il6, wp_il7, wp_il8, wp_iln1, wp_iln2, wp_iln3, wp_inc6, wp_iret, wp_is4, wp_is5, wp_is6, wp_is7, wp_is8, wp_izeq, wp_izlt, wp_ldc, wp_max, wp_min, wp_nop, wp_zret, qmd_kd, qmd_k1, qmd_l1, qmd_gf0, qmd_k2, qmd_l2, qmd_gf1, qmd_k3, qmd_l3, qmd_gf2, qmd_k4, qmd_l4, qmd_gf4, qmd_k5, qmd_l5, qmd_gf6, qmd_k6, qmd_l6, qmd_gf7, qmd_k7, qmd_l7, qmd_gf10, qmd_k8, qmd_l8, qmd_gf11, qmd_k9, qmd_l9, qmd_gf12, qmd_gf3, qmd_pf3, qmd_gf5, qmd_pf5, qmd_gf8, qmd_pf8, qmd_gf9, qmd_pf9, wrI_row, cpI_row, row_s, row_n, row_ss, row_sw, upd_s, upd_n, ad_inj, ad_z, ad_z2, Nat.reduceEqDiff, reduceCtorEq, List.cons_append, List.nil_append, Option.toList_some, Option.toList_none, Int.toNat_natCast, List.length_cons, List.length_nil, Int.cast_ofNat_Int, Nat.reduceAdd, Nat.reduceLeDiff, Nat.reduceLT, Nat.reduceMul, Int.reduceAdd, Int.reduceSub, Int.reduceMul, Int.reduceNeg, Int.reduceLT, Int.reduceLE, Int.reduceEq, Int.reduceToNat, eq_self, true_and, and_true, true_or, or_true, false_or, or_false, if_true, if_false, not_true_eq_false, not_false_eq_true, and_self, ne_eq, b_M_nearestTo_11, hM, e0]
    (repeat' (first | apply And.intro | split)) <;> first | omega | exact q
  | succ d ih =>
    intro k B D o7 o8 hk hI
    have hkU : (k : Int) < U 0 0 := by omega
    have bm := hU.2.1 k hkU
    have db := hdb k hkU
    have Db : 0 ≤ D ∧ D ≤ 1000000 := by
      rcases hI with ⟨a1, a2, a3⟩ | ⟨a1, a2, a3⟩
      · omega
      · have := aminP_b (p := p) (f := fun m => dstV U m o w) k
        have := hdb (aminP p (fun m => dstV U m o w) k).toNat (by omega)
        replace a3 : D = dstV U (aminP p (fun m => dstV U m o w) k).toNat o w := a3
        omega
    have o1 := opening_ok (zt := zt) hM hR hU (m := (k : Int)) (by omega) hkU
    have w1 := width_ok (zt := zt) hM hR hU (m := (k : Int)) (by omega) hkU
    rw [Int.toNat_natCast] at o1 w1
    have a1 := fun Q => apart_ok (zt := zt) (g := g) (ρ := ρ) (x := U 1 k) (y := o) (by omega) (by omega) Q
    have a2 := fun Q => apart_ok (zt := zt) (g := g) (ρ := ρ) (x := U 2 k) (y := w) (by omega) (by omega) Q
    have g1 := fun Q => greater_ok (zt := zt) (g := g) (ρ := ρ) (x := ((U 1 k - o).natAbs : Int)) (y := ((U 2 k - w).natAbs : Int)) (by omega) (by omega) Q
    have eD : dstV U k o w = max ((U 1 k - o).natAbs : Int) ((U 2 k - w).natAbs : Int) := rfl
    have inew : p k = true → dstV U k o w < D → Wp zt 121 (P 121 11) [some (AR a), some (AI o), some (AI w), some (AI x), some (AI k), some (AI (dstV U k o w)), some (AI ((k : Int) + 1)), some (AI (dstV U k o w)), some (AI 1)] [] (g, ρ) Q := fun z1 z2 => ih (k + 1) k (dstV U k o w) (some (AI (dstV U k o w))) (some (AI 1)) (by omega) (bsI_new hI z1 z2)
    have iold : ¬ (p k = true ∧ dstV U k o w < D) → Wp zt 121 (P 121 11) [some (AR a), some (AI o), some (AI w), some (AI x), some (AI B), some (AI D), some (AI ((k : Int) + 1)), some (AI (dstV U k o w)), some (AI 0)] [] (g, ρ) Q := fun z => ih (k + 1) B D (some (AI (dstV U k o w))) (some (AI 0)) (by omega) (bsI_old hI (show dstV U k o w < 1000000 by omega) z)
    rw [← eD] at g1
    clear eD
    generalize dstV U k o w = far at *
    rcases hp with ⟨hx, hn, hp⟩ | ⟨h0, h1, hp⟩
    · by_cases c : far < D
      · have k1 := inew (hp k) c
        rw [P_M_nearestTo_11]
        simp only [m_M_nearestTo, b_M_nearestTo_0, P_M_nearestTo_66, b_M_nearestTo_66, P_M_nearestTo_77, b_M_nearestTo_77, P_M_nearestTo_78, b_M_nearestTo_78, P_M_nearestTo_90, b_M_nearestTo_90, P_M_nearestTo_92, b_M_nearestTo_92, P_M_nearestTo_104, b_M_nearestTo_104, P_M_nearestTo_106, b_M_nearestTo_106, P_M_nearestTo_114, b_M_nearestTo_114, wp_abs, wp_aln0, wp_bipush, wp_copy, wp_cs1, wp_cs2, wp_cs3, wp_cs4, wp_cs5, wp_cs6, wp_cs7, wp_cv1, wp_cv2, wp_cv3, wp_cv4, wp_cv5, wp_cv6, wp_cv7, wp_goto, wp_iald, wp_icge, wp_icgt, wp_iconst, wp_il4, wp_il5, wp_il6, wp_il7, wp_il8, wp_iln1, wp_iln2, wp_iln3, wp_inc6, wp_iret, wp_is4, wp_is5, wp_is6, wp_is7, wp_is8, wp_izeq, wp_izlt, wp_ldc, wp_max, wp_min, wp_nop, wp_zret, qmd_kd, qmd_k1, qmd_l1, qmd_gf0, qmd_k2, qmd_l2, qmd_gf1, qmd_k3, qmd_l3, qmd_gf2, qmd_k4, qmd_l4, qmd_gf4, qmd_k5, qmd_l5, qmd_gf6, qmd_k6, qmd_l6, qmd_gf7, qmd_k7, qmd_l7, qmd_gf10, qmd_k8, qmd_l8, qmd_gf11, qmd_k9, qmd_l9, qmd_gf12, qmd_gf3, qmd_pf3, qmd_gf5, qmd_pf5, qmd_gf8, qmd_pf8, qmd_gf9, qmd_pf9, wrI_row, cpI_row, row_s, row_n, row_ss, row_sw, upd_s, upd_n, ad_inj, ad_z, ad_z2, Nat.reduceEqDiff, reduceCtorEq, List.cons_append, List.nil_append, Option.toList_some, Option.toList_none, Int.toNat_natCast, List.length_cons, List.length_nil, Int.cast_ofNat_Int, Nat.reduceAdd, Nat.reduceLeDiff, Nat.reduceLT, Nat.reduceMul, Int.reduceAdd, Int.reduceSub, Int.reduceMul, Int.reduceNeg, Int.reduceLT, Int.reduceLE, Int.reduceEq, Int.reduceToNat, eq_self, true_and, and_true, true_or, or_true, false_or, or_false, if_true, if_false, not_true_eq_false, not_false_eq_true, and_self, ne_eq, b_M_nearestTo_11, hM, e0, o1, w1, a1, a2, g1]
        (repeat' (first | apply And.intro | split)) <;> first | omega | exact k1
      · have k1 := iold (fun z => c z.2)
        rw [P_M_nearestTo_11]
        simp only [m_M_nearestTo, b_M_nearestTo_0, P_M_nearestTo_66, b_M_nearestTo_66, P_M_nearestTo_77, b_M_nearestTo_77, P_M_nearestTo_78, b_M_nearestTo_78, P_M_nearestTo_90, b_M_nearestTo_90, P_M_nearestTo_92, b_M_nearestTo_92, P_M_nearestTo_104, b_M_nearestTo_104, P_M_nearestTo_106, b_M_nearestTo_106, P_M_nearestTo_114, b_M_nearestTo_114, wp_abs, wp_aln0, wp_bipush, wp_copy, wp_cs1, wp_cs2, wp_cs3, wp_cs4, wp_cs5, wp_cs6, wp_cs7, wp_cv1, wp_cv2, wp_cv3, wp_cv4, wp_cv5, wp_cv6, wp_cv7, wp_goto, wp_iald, wp_icge, wp_icgt, wp_iconst, wp_il4, wp_il5, wp_il6, wp_il7, wp_il8, wp_iln1, wp_iln2, wp_iln3, wp_inc6, wp_iret, wp_is4, wp_is5, wp_is6, wp_is7, wp_is8, wp_izeq, wp_izlt, wp_ldc, wp_max, wp_min, wp_nop, wp_zret, qmd_kd, qmd_k1, qmd_l1, qmd_gf0, qmd_k2, qmd_l2, qmd_gf1, qmd_k3, qmd_l3, qmd_gf2, qmd_k4, qmd_l4, qmd_gf4, qmd_k5, qmd_l5, qmd_gf6, qmd_k6, qmd_l6, qmd_gf7, qmd_k7, qmd_l7, qmd_gf10, qmd_k8, qmd_l8, qmd_gf11, qmd_k9, qmd_l9, qmd_gf12, qmd_gf3, qmd_pf3, qmd_gf5, qmd_pf5, qmd_gf8, qmd_pf8, qmd_gf9, qmd_pf9, wrI_row, cpI_row, row_s, row_n, row_ss, row_sw, upd_s, upd_n, ad_inj, ad_z, ad_z2, Nat.reduceEqDiff, reduceCtorEq, List.cons_append, List.nil_append, Option.toList_some, Option.toList_none, Int.toNat_natCast, List.length_cons, List.length_nil, Int.cast_ofNat_Int, Nat.reduceAdd, Nat.reduceLeDiff, Nat.reduceLT, Nat.reduceMul, Int.reduceAdd, Int.reduceSub, Int.reduceMul, Int.reduceNeg, Int.reduceLT, Int.reduceLE, Int.reduceEq, Int.reduceToNat, eq_self, true_and, and_true, true_or, or_true, false_or, or_false, if_true, if_false, not_true_eq_false, not_false_eq_true, and_self, ne_eq, b_M_nearestTo_11, hM, e0, o1, w1, a1, a2, g1]
        (repeat' (first | apply And.intro | split)) <;> first | omega | exact k1
    · have fb := farBetween_ok (zt := zt) hM hR hU h0 h1 (y := (k : Int)) (by omega) hkU
      rw [Int.toNat_natCast] at fb
      have jb := jmpV_b hU (x := x.toNat) (y := k) (by omega) hkU
      have s0 := setting_ok (zt := zt) hM hR (w := 0) (by omega) (by omega)
      have es0 : U 4 (0 : Int).toNat = U 4 0 := rfl
      rw [es0] at s0
      have hxn : ¬ x < 0 := by omega
      by_cases cj : jmpV U x.toNat k ≤ U 4 0
      · have hpk : p k = true := by rw [hp k]; exact decide_eq_true cj
        by_cases c : far < D
        · have k1 := inew hpk c
          rw [P_M_nearestTo_11]
          simp only [m_M_nearestTo, b_M_nearestTo_0, P_M_nearestTo_66, b_M_nearestTo_66, P_M_nearestTo_77, b_M_nearestTo_77, P_M_nearestTo_78, b_M_nearestTo_78, P_M_nearestTo_90, b_M_nearestTo_90, P_M_nearestTo_92, b_M_nearestTo_92, P_M_nearestTo_104, b_M_nearestTo_104, P_M_nearestTo_106, b_M_nearestTo_106, P_M_nearestTo_114, b_M_nearestTo_114, wp_abs, wp_aln0, wp_bipush, wp_copy, wp_cs1, wp_cs2, wp_cs3, wp_cs4, wp_cs5, wp_cs6, wp_cs7, wp_cv1, wp_cv2, wp_cv3, wp_cv4, wp_cv5, wp_cv6, wp_cv7, wp_goto, wp_iald, wp_icge, wp_icgt, wp_iconst, wp_il4, wp_il5, wp_il6, wp_il7, wp_il8, wp_iln1, wp_iln2, wp_iln3, wp_inc6, wp_iret, wp_is4, wp_is5, wp_is6, wp_is7, wp_is8, wp_izeq, wp_izlt, wp_ldc, wp_max, wp_min, wp_nop, wp_zret, qmd_kd, qmd_k1, qmd_l1, qmd_gf0, qmd_k2, qmd_l2, qmd_gf1, qmd_k3, qmd_l3, qmd_gf2, qmd_k4, qmd_l4, qmd_gf4, qmd_k5, qmd_l5, qmd_gf6, qmd_k6, qmd_l6, qmd_gf7, qmd_k7, qmd_l7, qmd_gf10, qmd_k8, qmd_l8, qmd_gf11, qmd_k9, qmd_l9, qmd_gf12, qmd_gf3, qmd_pf3, qmd_gf5, qmd_pf5, qmd_gf8, qmd_pf8, qmd_gf9, qmd_pf9, wrI_row, cpI_row, row_s, row_n, row_ss, row_sw, upd_s, upd_n, ad_inj, ad_z, ad_z2, Nat.reduceEqDiff, reduceCtorEq, List.cons_append, List.nil_append, Option.toList_some, Option.toList_none, Int.toNat_natCast, List.length_cons, List.length_nil, Int.cast_ofNat_Int, Nat.reduceAdd, Nat.reduceLeDiff, Nat.reduceLT, Nat.reduceMul, Int.reduceAdd, Int.reduceSub, Int.reduceMul, Int.reduceNeg, Int.reduceLT, Int.reduceLE, Int.reduceEq, Int.reduceToNat, eq_self, true_and, and_true, true_or, or_true, false_or, or_false, if_true, if_false, not_true_eq_false, not_false_eq_true, and_self, ne_eq, b_M_nearestTo_11, hM, e0, o1, w1, a1, a2, g1, fb, s0]
          (repeat' (first | apply And.intro | split)) <;> first | omega | exact k1
        · have k1 := iold (fun z => c z.2)
          rw [P_M_nearestTo_11]
          simp only [m_M_nearestTo, b_M_nearestTo_0, P_M_nearestTo_66, b_M_nearestTo_66, P_M_nearestTo_77, b_M_nearestTo_77, P_M_nearestTo_78, b_M_nearestTo_78, P_M_nearestTo_90, b_M_nearestTo_90, P_M_nearestTo_92, b_M_nearestTo_92, P_M_nearestTo_104, b_M_nearestTo_104, P_M_nearestTo_106, b_M_nearestTo_106, P_M_nearestTo_114, b_M_nearestTo_114, wp_abs, wp_aln0, wp_bipush, wp_copy, wp_cs1, wp_cs2, wp_cs3, wp_cs4, wp_cs5, wp_cs6, wp_cs7, wp_cv1, wp_cv2, wp_cv3, wp_cv4, wp_cv5, wp_cv6, wp_cv7, wp_goto, wp_iald, wp_icge, wp_icgt, wp_iconst, wp_il4, wp_il5, wp_il6, wp_il7, wp_il8, wp_iln1, wp_iln2, wp_iln3, wp_inc6, wp_iret, wp_is4, wp_is5, wp_is6, wp_is7, wp_is8, wp_izeq, wp_izlt, wp_ldc, wp_max, wp_min, wp_nop, wp_zret, qmd_kd, qmd_k1, qmd_l1, qmd_gf0, qmd_k2, qmd_l2, qmd_gf1, qmd_k3, qmd_l3, qmd_gf2, qmd_k4, qmd_l4, qmd_gf4, qmd_k5, qmd_l5, qmd_gf6, qmd_k6, qmd_l6, qmd_gf7, qmd_k7, qmd_l7, qmd_gf10, qmd_k8, qmd_l8, qmd_gf11, qmd_k9, qmd_l9, qmd_gf12, qmd_gf3, qmd_pf3, qmd_gf5, qmd_pf5, qmd_gf8, qmd_pf8, qmd_gf9, qmd_pf9, wrI_row, cpI_row, row_s, row_n, row_ss, row_sw, upd_s, upd_n, ad_inj, ad_z, ad_z2, Nat.reduceEqDiff, reduceCtorEq, List.cons_append, List.nil_append, Option.toList_some, Option.toList_none, Int.toNat_natCast, List.length_cons, List.length_nil, Int.cast_ofNat_Int, Nat.reduceAdd, Nat.reduceLeDiff, Nat.reduceLT, Nat.reduceMul, Int.reduceAdd, Int.reduceSub, Int.reduceMul, Int.reduceNeg, Int.reduceLT, Int.reduceLE, Int.reduceEq, Int.reduceToNat, eq_self, true_and, and_true, true_or, or_true, false_or, or_false, if_true, if_false, not_true_eq_false, not_false_eq_true, and_self, ne_eq, b_M_nearestTo_11, hM, e0, o1, w1, a1, a2, g1, fb, s0]
          (repeat' (first | apply And.intro | split)) <;> first | omega | exact k1
      · have k1 := iold (fun z => by
          have := z.1
          rw [hp k] at this
          exact cj (of_decide_eq_true this))
        rw [P_M_nearestTo_11]
        simp only [m_M_nearestTo, b_M_nearestTo_0, P_M_nearestTo_66, b_M_nearestTo_66, P_M_nearestTo_77, b_M_nearestTo_77, P_M_nearestTo_78, b_M_nearestTo_78, P_M_nearestTo_90, b_M_nearestTo_90, P_M_nearestTo_92, b_M_nearestTo_92, P_M_nearestTo_104, b_M_nearestTo_104, P_M_nearestTo_106, b_M_nearestTo_106, P_M_nearestTo_114, b_M_nearestTo_114, wp_abs, wp_aln0, wp_bipush, wp_copy, wp_cs1, wp_cs2, wp_cs3, wp_cs4, wp_cs5, wp_cs6, wp_cs7, wp_cv1, wp_cv2, wp_cv3, wp_cv4, wp_cv5, wp_cv6, wp_cv7, wp_goto, wp_iald, wp_icge, wp_icgt, wp_iconst, wp_il4, wp_il5, wp_il6, wp_il7, wp_il8, wp_iln1, wp_iln2, wp_iln3, wp_inc6, wp_iret, wp_is4, wp_is5, wp_is6, wp_is7, wp_is8, wp_izeq, wp_izlt, wp_ldc, wp_max, wp_min, wp_nop, wp_zret, qmd_kd, qmd_k1, qmd_l1, qmd_gf0, qmd_k2, qmd_l2, qmd_gf1, qmd_k3, qmd_l3, qmd_gf2, qmd_k4, qmd_l4, qmd_gf4, qmd_k5, qmd_l5, qmd_gf6, qmd_k6, qmd_l6, qmd_gf7, qmd_k7, qmd_l7, qmd_gf10, qmd_k8, qmd_l8, qmd_gf11, qmd_k9, qmd_l9, qmd_gf12, qmd_gf3, qmd_pf3, qmd_gf5, qmd_pf5, qmd_gf8, qmd_pf8, qmd_gf9, qmd_pf9, wrI_row, cpI_row, row_s, row_n, row_ss, row_sw, upd_s, upd_n, ad_inj, ad_z, ad_z2, Nat.reduceEqDiff, reduceCtorEq, List.cons_append, List.nil_append, Option.toList_some, Option.toList_none, Int.toNat_natCast, List.length_cons, List.length_nil, Int.cast_ofNat_Int, Nat.reduceAdd, Nat.reduceLeDiff, Nat.reduceLT, Nat.reduceMul, Int.reduceAdd, Int.reduceSub, Int.reduceMul, Int.reduceNeg, Int.reduceLT, Int.reduceLE, Int.reduceEq, Int.reduceToNat, eq_self, true_and, and_true, true_or, or_true, false_or, or_false, if_true, if_false, not_true_eq_false, not_false_eq_true, and_self, ne_eq, b_M_nearestTo_11, hM, e0, o1, w1, a1, a2, g1, fb, s0]
        (repeat' (first | apply And.intro | split)) <;> first | omega | exact k1
theorem jmpV_xx {U : Vw} {x : Nat} : jmpV U x x = 0 := by
  unfold jmpV dstV
  omega
theorem nearestTo_n (hM : isMd ρ a) (hR : LR (-1) (vwM (g (ad a 1))) U) (hU : WFV (-1) U) {o w : Int} (ho : -1000 ≤ o ∧ o ≤ 1000) (hw : -1000 ≤ w ∧ w ≤ 1000) (Q : Option AV → Sto → Prop) : WpM zt 121 [AR a, AI o, AI w, AI (-99)] (g, ρ) Q ↔ Q (some (AI (amin (fun m => dstV U m o w) (U 0 0).toNat : Nat))) (g, ρ) := by
  refine wpm_iff (fun Q hQ => ?_) Q
  have b0 := hU.1
  have k1 := nearestTo_loop (zt := zt) hM hR hU ho hw (x := -99) (p := fun _ => true) (Or.inl ⟨by omega, by omega, fun _ => rfl⟩) (Q := Q) (fun B D hI => ?_) (U 0 0).toNat 0 (-99) 1000000 none none (by omega) (Or.inl ⟨rfl, rfl, rfl⟩)
  · simp only [m_M_nearestTo, b_M_nearestTo_0, P_M_nearestTo_66, b_M_nearestTo_66, P_M_nearestTo_77, b_M_nearestTo_77, P_M_nearestTo_78, b_M_nearestTo_78, P_M_nearestTo_90, b_M_nearestTo_90, P_M_nearestTo_92, b_M_nearestTo_92, P_M_nearestTo_104, b_M_nearestTo_104, P_M_nearestTo_106, b_M_nearestTo_106, P_M_nearestTo_114, b_M_nearestTo_114, wp_abs, wp_aln0, wp_bipush, wp_copy, wp_cs1, wp_cs2, wp_cs3, wp_cs4, wp_cs5, wp_cs6, wp_cs7, wp_cv1, wp_cv2, wp_cv3, wp_cv4, wp_cv5, wp_cv6, wp_cv7, wp_goto, wp_iald, wp_icge, wp_icgt, wp_iconst, wp_il4, wp_il5, wp_il6, wp_il7, wp_il8, wp_iln1, wp_iln2, wp_iln3, wp_inc6, wp_iret, wp_is4, wp_is5, wp_is6, wp_is7, wp_is8, wp_izeq, wp_izlt, wp_ldc, wp_max, wp_min, wp_nop, wp_zret, qmd_kd, qmd_k1, qmd_l1, qmd_gf0, qmd_k2, qmd_l2, qmd_gf1, qmd_k3, qmd_l3, qmd_gf2, qmd_k4, qmd_l4, qmd_gf4, qmd_k5, qmd_l5, qmd_gf6, qmd_k6, qmd_l6, qmd_gf7, qmd_k7, qmd_l7, qmd_gf10, qmd_k8, qmd_l8, qmd_gf11, qmd_k9, qmd_l9, qmd_gf12, qmd_gf3, qmd_pf3, qmd_gf5, qmd_pf5, qmd_gf8, qmd_pf8, qmd_gf9, qmd_pf9, wrI_row, cpI_row, row_s, row_n, row_ss, row_sw, upd_s, upd_n, ad_inj, ad_z, ad_z2, Nat.reduceEqDiff, reduceCtorEq, List.cons_append, List.nil_append, Option.toList_some, Option.toList_none, Int.toNat_natCast, List.length_cons, List.length_nil, Int.cast_ofNat_Int, Nat.reduceAdd, Nat.reduceLeDiff, Nat.reduceLT, Nat.reduceMul, Int.reduceAdd, Int.reduceSub, Int.reduceMul, Int.reduceNeg, Int.reduceLT, Int.reduceLE, Int.reduceEq, Int.reduceToNat, eq_self, true_and, and_true, true_or, or_true, false_or, or_false, if_true, if_false, not_true_eq_false, not_false_eq_true, and_self, ne_eq, hM]
    exact k1
  · obtain ⟨n, hn⟩ : ∃ n, (U 0 0).toNat = n + 1 := ⟨(U 0 0).toNat - 1, by omega⟩
    rw [hn] at hI hQ
    unfold bsI at hI
    rw [aminP_true] at hI
    rcases hI with ⟨a1, a2, a3⟩ | ⟨a1, a2, a3⟩
    · omega
    · rw [a2]
      exact hQ
theorem nearestTo_U (hM : isMd ρ a) (hR : LR (-1) (vwM (g (ad a 1))) U) (hU : WFV (-1) U) {x : Nat} (hx : (x : Int) < U 0 0) {o w : Int} (ho : -1000 ≤ o ∧ o ≤ 1000) (hw : -1000 ≤ w ∧ w ≤ 1000) (Q : Option AV → Sto → Prop) : WpM zt 121 [AR a, AI o, AI w, AI x] (g, ρ) Q ↔ Q (some (AI (nwU U x o w : Nat))) (g, ρ) := by
  refine wpm_iff (fun Q hQ => ?_) Q
  have b0 := hU.1
  have b4 := hU.2.2.2.1
  have k1 := nearestTo_loop (zt := zt) hM hR hU ho hw (x := (x : Int)) (p := fun m => decide (jmpV U x m ≤ U 4 0)) (Or.inr ⟨by omega, hx, fun _ => rfl⟩) (Q := Q) (fun B D hI => ?_) (U 0 0).toNat 0 (-99) 1000000 none none (by omega) (Or.inl ⟨rfl, rfl, rfl⟩)
  · simp only [m_M_nearestTo, b_M_nearestTo_0, P_M_nearestTo_66, b_M_nearestTo_66, P_M_nearestTo_77, b_M_nearestTo_77, P_M_nearestTo_78, b_M_nearestTo_78, P_M_nearestTo_90, b_M_nearestTo_90, P_M_nearestTo_92, b_M_nearestTo_92, P_M_nearestTo_104, b_M_nearestTo_104, P_M_nearestTo_106, b_M_nearestTo_106, P_M_nearestTo_114, b_M_nearestTo_114, wp_abs, wp_aln0, wp_bipush, wp_copy, wp_cs1, wp_cs2, wp_cs3, wp_cs4, wp_cs5, wp_cs6, wp_cs7, wp_cv1, wp_cv2, wp_cv3, wp_cv4, wp_cv5, wp_cv6, wp_cv7, wp_goto, wp_iald, wp_icge, wp_icgt, wp_iconst, wp_il4, wp_il5, wp_il6, wp_il7, wp_il8, wp_iln1, wp_iln2, wp_iln3, wp_inc6, wp_iret, wp_is4, wp_is5, wp_is6, wp_is7, wp_is8, wp_izeq, wp_izlt, wp_ldc, wp_max, wp_min, wp_nop, wp_zret, qmd_kd, qmd_k1, qmd_l1, qmd_gf0, qmd_k2, qmd_l2, qmd_gf1, qmd_k3, qmd_l3, qmd_gf2, qmd_k4, qmd_l4, qmd_gf4, qmd_k5, qmd_l5, qmd_gf6, qmd_k6, qmd_l6, qmd_gf7, qmd_k7, qmd_l7, qmd_gf10, qmd_k8, qmd_l8, qmd_gf11, qmd_k9, qmd_l9, qmd_gf12, qmd_gf3, qmd_pf3, qmd_gf5, qmd_pf5, qmd_gf8, qmd_pf8, qmd_gf9, qmd_pf9, wrI_row, cpI_row, row_s, row_n, row_ss, row_sw, upd_s, upd_n, ad_inj, ad_z, ad_z2, Nat.reduceEqDiff, reduceCtorEq, List.cons_append, List.nil_append, Option.toList_some, Option.toList_none, Int.toNat_natCast, List.length_cons, List.length_nil, Int.cast_ofNat_Int, Nat.reduceAdd, Nat.reduceLeDiff, Nat.reduceLT, Nat.reduceMul, Int.reduceAdd, Int.reduceSub, Int.reduceMul, Int.reduceNeg, Int.reduceLT, Int.reduceLE, Int.reduceEq, Int.reduceToNat, eq_self, true_and, and_true, true_or, or_true, false_or, or_false, if_true, if_false, not_true_eq_false, not_false_eq_true, and_self, ne_eq, hM]
    exact k1
  · have hne := aminP_ne (p := fun m => decide (jmpV U x m ≤ U 4 0)) (f := fun m => dstV U m o w) (j := x) (decide_eq_true (by rw [jmpV_xx]; omega)) (U 0 0).toNat (by omega)
    rcases hI with ⟨a1, a2, a3⟩ | ⟨a1, a2, a3⟩
    · exact absurd a1 hne
    · have e : ((nwU U x o w : Nat) : Int) = B := by
        unfold nwU
        rw [if_neg hne, a2]
        omega
      rw [e] at hQ
      exact hQ
end NRT
section MBT
variable {zt : Nat → Nat} {g : Nat → Nat → Int} {ρ : Ri} {M : Nat} {X : XV} {Q : Option AV → Sto → Prop}
theorem d_nearest (hX : RepM g ρ M X) (hW : WFX X) {o w : Int} (hoo : i32 o) (hw : i32 w) (hQ : MdQ g ρ M (sNearest o w X, X) Q) : WpM zt 162 [AR M, AI o, AI w] (g, ρ) Q := by
  obtain ⟨hM, hS, -⟩ := id hX
  have hR := hS.1
  have hU := hW.1.1
  have e0 := m_0 hR
  have e5 := m_5 hR
  have b0 := hU.1
  have b5 := hU.2.2.2.2.1
  have b8 := hU.2.2.2.2.2.2.1
  have q := hQ.ro hX
  unfold sNearest at q
  have h1 := isSize_ok (zt := zt) (g := g) (ρ := ρ) hoo
  have h2 := isSize_ok (zt := zt) (g := g) (ρ := ρ) hw
  by_cases c1 : 0 ≤ o ∧ o ≤ 9
  · rw [b2_t c1] at h1
    by_cases c2 : 0 ≤ w ∧ w ≤ 9
    · rw [b2_t c2] at h2
      rw [if_pos ⟨c1, c2⟩] at q
      have hn := nearestTo_n (zt := zt) hM hR hU (o := o) (w := w) (by omega) (by omega)
      simp only [m_M_nearest, b_M_nearest_0, P_M_nearest_25, b_M_nearest_25, P_M_nearest_26, b_M_nearest_26, wp_abs, wp_aln0, wp_bipush, wp_copy, wp_cs1, wp_cs2, wp_cs3, wp_cs4, wp_cs5, wp_cs6, wp_cs7, wp_cv1, wp_cv2, wp_cv3, wp_cv4, wp_cv5, wp_cv6, wp_cv7, wp_goto, wp_iconst, wp_iln1, wp_iln2, wp_iret, wp_izeq, wp_max, wp_min, wp_nop, wp_zret, qmd_kd, qmd_k1, qmd_l1, qmd_gf0, qmd_k2, qmd_l2, qmd_gf1, qmd_k3, qmd_l3, qmd_gf2, qmd_k4, qmd_l4, qmd_gf4, qmd_k5, qmd_l5, qmd_gf6, qmd_k6, qmd_l6, qmd_gf7, qmd_k7, qmd_l7, qmd_gf10, qmd_k8, qmd_l8, qmd_gf11, qmd_k9, qmd_l9, qmd_gf12, qmd_gf3, qmd_pf3, qmd_gf5, qmd_pf5, qmd_gf8, qmd_pf8, qmd_gf9, qmd_pf9, wrI_row, cpI_row, row_s, row_n, row_ss, row_sw, upd_s, upd_n, ad_inj, ad_z, ad_z2, Nat.reduceEqDiff, reduceCtorEq, List.cons_append, List.nil_append, Option.toList_some, Option.toList_none, Int.toNat_natCast, List.length_cons, List.length_nil, Int.cast_ofNat_Int, Nat.reduceAdd, Nat.reduceLeDiff, Nat.reduceLT, Nat.reduceMul, Int.reduceAdd, Int.reduceSub, Int.reduceMul, Int.reduceNeg, Int.reduceLT, Int.reduceLE, Int.reduceEq, Int.reduceToNat, eq_self, true_and, and_true, true_or, or_true, false_or, or_false, if_true, if_false, not_true_eq_false, not_false_eq_true, and_self, ne_eq, hM, h1, h2, hn]
      (repeat' (first | apply And.intro | split)) <;> first | omega | exact q
    · rw [b2_f c2] at h2
      rw [if_neg (fun z => c2 z.2)] at q
      simp only [m_M_nearest, b_M_nearest_0, P_M_nearest_25, b_M_nearest_25, P_M_nearest_26, b_M_nearest_26, wp_abs, wp_aln0, wp_bipush, wp_copy, wp_cs1, wp_cs2, wp_cs3, wp_cs4, wp_cs5, wp_cs6, wp_cs7, wp_cv1, wp_cv2, wp_cv3, wp_cv4, wp_cv5, wp_cv6, wp_cv7, wp_goto, wp_iconst, wp_iln1, wp_iln2, wp_iret, wp_izeq, wp_max, wp_min, wp_nop, wp_zret, qmd_kd, qmd_k1, qmd_l1, qmd_gf0, qmd_k2, qmd_l2, qmd_gf1, qmd_k3, qmd_l3, qmd_gf2, qmd_k4, qmd_l4, qmd_gf4, qmd_k5, qmd_l5, qmd_gf6, qmd_k6, qmd_l6, qmd_gf7, qmd_k7, qmd_l7, qmd_gf10, qmd_k8, qmd_l8, qmd_gf11, qmd_k9, qmd_l9, qmd_gf12, qmd_gf3, qmd_pf3, qmd_gf5, qmd_pf5, qmd_gf8, qmd_pf8, qmd_gf9, qmd_pf9, wrI_row, cpI_row, row_s, row_n, row_ss, row_sw, upd_s, upd_n, ad_inj, ad_z, ad_z2, Nat.reduceEqDiff, reduceCtorEq, List.cons_append, List.nil_append, Option.toList_some, Option.toList_none, Int.toNat_natCast, List.length_cons, List.length_nil, Int.cast_ofNat_Int, Nat.reduceAdd, Nat.reduceLeDiff, Nat.reduceLT, Nat.reduceMul, Int.reduceAdd, Int.reduceSub, Int.reduceMul, Int.reduceNeg, Int.reduceLT, Int.reduceLE, Int.reduceEq, Int.reduceToNat, eq_self, true_and, and_true, true_or, or_true, false_or, or_false, if_true, if_false, not_true_eq_false, not_false_eq_true, and_self, ne_eq, hM, h1, h2]
      (repeat' (first | apply And.intro | split)) <;> first | omega | exact q
  · rw [b2_f c1] at h1
    rw [if_neg (fun z => c1 z.1)] at q
    simp only [m_M_nearest, b_M_nearest_0, P_M_nearest_25, b_M_nearest_25, P_M_nearest_26, b_M_nearest_26, wp_abs, wp_aln0, wp_bipush, wp_copy, wp_cs1, wp_cs2, wp_cs3, wp_cs4, wp_cs5, wp_cs6, wp_cs7, wp_cv1, wp_cv2, wp_cv3, wp_cv4, wp_cv5, wp_cv6, wp_cv7, wp_goto, wp_iconst, wp_iln1, wp_iln2, wp_iret, wp_izeq, wp_max, wp_min, wp_nop, wp_zret, qmd_kd, qmd_k1, qmd_l1, qmd_gf0, qmd_k2, qmd_l2, qmd_gf1, qmd_k3, qmd_l3, qmd_gf2, qmd_k4, qmd_l4, qmd_gf4, qmd_k5, qmd_l5, qmd_gf6, qmd_k6, qmd_l6, qmd_gf7, qmd_k7, qmd_l7, qmd_gf10, qmd_k8, qmd_l8, qmd_gf11, qmd_k9, qmd_l9, qmd_gf12, qmd_gf3, qmd_pf3, qmd_gf5, qmd_pf5, qmd_gf8, qmd_pf8, qmd_gf9, qmd_pf9, wrI_row, cpI_row, row_s, row_n, row_ss, row_sw, upd_s, upd_n, ad_inj, ad_z, ad_z2, Nat.reduceEqDiff, reduceCtorEq, List.cons_append, List.nil_append, Option.toList_some, Option.toList_none, Int.toNat_natCast, List.length_cons, List.length_nil, Int.cast_ofNat_Int, Nat.reduceAdd, Nat.reduceLeDiff, Nat.reduceLT, Nat.reduceMul, Int.reduceAdd, Int.reduceSub, Int.reduceMul, Int.reduceNeg, Int.reduceLT, Int.reduceLE, Int.reduceEq, Int.reduceToNat, eq_self, true_and, and_true, true_or, or_true, false_or, or_false, if_true, if_false, not_true_eq_false, not_false_eq_true, and_self, ne_eq, hM, h1]
    (repeat' (first | apply And.intro | split)) <;> first | omega | exact q
theorem btU_at {U : Vw} {s e : Nat} {n : Int} {f t : Nat} (hs : U 10 f = (s : Int)) (h : f < t) : btU U s e n f t 10 (t - 1) = ((btM U s e n (t - 1 - f) : Nat) : Int) := by
  unfold btU
  by_cases c : t - 1 = f
  · rw [if_neg (by omega), c, hs, show f - f = 0 by omega]
    rfl
  · rw [if_pos (by omega)]
theorem between_loopM (hM : isMd ρ M) {U : Vw} (hU : WFV (-1) U) {f l s e : Nat} (hfl : f < l) (hl : (l : Int) < U 8 0) (hs : (s : Int) < U 0 0) (he : (e : Int) < U 0 0) (hsf : U 10 f = (s : Int)) {Q : Option AV → Sto → Prop} (hQ : ∀ R' : Nat → Int, LR (-1) (vwM R') (btU U s e ((l : Int) - f) f l) → (∀ y, 317 ≤ y → R' y = g (ad M 1) y) → Q (some (AI (jmpV U (btM U s e ((l : Int) - f) (l - 1 - f)) e))) (setRow g (ad M 1) R', ρ)) :
    ∀ (d t : Nat) (R : Nat → Int) (o6 o7 : Option AV), t + d = l → f < t → LR (-1) (vwM R) (btU U s e ((l : Int) - f) f t) → (∀ y, 317 ≤ y → R y = g (ad M 1) y) → Wp zt 122 (P 122 67) [some (AR M), some (AI f), some (AI l), some (AI s), some (AI e), some (AI t), o6, o7] [] (setRow g (ad M 1) R, ρ) Q := by
  have b8 := hU.2.2.2.2.2.2.1
  have b0 := hU.1
  have b5 := hU.2.2.2.2.1
  have hzn : ∀ t k j, k ≠ 10 → btU U s e ((l : Int) - f) f t k j = U k j := fun t k j z => btU_n z
  have hb := btM_lt (e := e) hU hs ((l : Int) - f)
  intro d
  induction d with
  | zero =>
    intro t R o6 o7 ht hf hR hfr
    have et : t = l := by omega
    subst et
    have q := hQ R hR hfr
    have hU' := btU_wf (e := e) (n := (t : Int) - f) (f := f) (t := t) hU hs
    have hR' : LR (-1) (vwM (setRow g (ad M 1) R (ad M 1))) (btU U s e ((t : Int) - f) f t) := by rw [row_s]; exact hR
    have rd := (p_9 hR hU' (j := t - 1) (by rw [hzn _ 8 0 (by decide)]; omega)).2
    rw [btU_at hsf hf] at rd
    have ei : (218 + (t : Int) - 1).toNat = 218 + (t - 1) := by omega
    have fb := farBetween_ok (zt := zt) hM hR' hU' (x := ((btM U s e ((t : Int) - f) (t - 1 - f) : Nat) : Int)) (y := (e : Int)) (by omega) (by rw [hzn _ 0 0 (by decide)]; exact hb _) (by omega) (by rw [hzn _ 0 0 (by decide)]; exact he)
    rw [Int.toNat_natCast, Int.toNat_natCast] at fb
    have ej : jmpV (btU U s e ((t : Int) - f) f t) (btM U s e ((t : Int) - f) (t - 1 - f)) e = jmpV U (btM U s e ((t : Int) - f) (t - 1 - f)) e := by
      unfold jmpV dstV
      rw [hzn _ 1 _ (by decide), hzn _ 1 _ (by decide), hzn _ 2 _ (by decide), hzn _ 2 _ (by decide)]
    rw [ej] at fb
    rw [P_M_between_67]
    simp only [m_M_between, b_M_between_0, P_M_between_21, b_M_between_21, P_M_between_23, b_M_between_23, P_M_between_55, b_M_between_55, P_M_between_58, b_M_between_58, P_M_between_169, b_M_between_169, wp_aln0, wp_bipush, wp_cv1, wp_cv2, wp_cv3, wp_cv4, wp_cv5, wp_cv6, wp_cv7, wp_goto, wp_iadd, wp_iald, wp_iast, wp_icge, wp_icgt, wp_iconst, wp_idiv, wp_il4, wp_il5, wp_il6, wp_il7, wp_iln1, wp_iln2, wp_iln3, wp_imul, wp_inc5, wp_iret, wp_is4, wp_is5, wp_is6, wp_is7, wp_isn3, wp_isub, wp_izeq, wp_izge, wp_izlt, wp_nop, wp_sipush, wp_zret, qmd_kd, qmd_k1, qmd_l1, qmd_gf0, qmd_k2, qmd_l2, qmd_gf1, qmd_k3, qmd_l3, qmd_gf2, qmd_k4, qmd_l4, qmd_gf4, qmd_k5, qmd_l5, qmd_gf6, qmd_k6, qmd_l6, qmd_gf7, qmd_k7, qmd_l7, qmd_gf10, qmd_k8, qmd_l8, qmd_gf11, qmd_k9, qmd_l9, qmd_gf12, qmd_gf3, qmd_pf3, qmd_gf5, qmd_pf5, qmd_gf8, qmd_pf8, qmd_gf9, qmd_pf9, wrI_row, cpI_row, row_s, row_n, row_ss, row_sw, upd_s, upd_n, ad_inj, ad_z, ad_z2, Nat.reduceEqDiff, reduceCtorEq, List.cons_append, List.nil_append, Option.toList_some, Option.toList_none, Int.toNat_natCast, List.length_cons, List.length_nil, Int.cast_ofNat_Int, Nat.reduceAdd, Nat.reduceLeDiff, Nat.reduceLT, Nat.reduceMul, Int.reduceAdd, Int.reduceSub, Int.reduceMul, Int.reduceNeg, Int.reduceLT, Int.reduceLE, Int.reduceEq, Int.reduceToNat, eq_self, true_and, and_true, true_or, or_true, false_or, or_false, if_true, if_false, not_true_eq_false, not_false_eq_true, and_self, ne_eq, b_M_between_67, hM, ei, rd, fb]
    (repeat' (first | apply And.intro | split)) <;> first | omega | exact q
  | succ d ih =>
    intro t R o6 o7 ht hf hR hfr
    have hU' := btU_wf (e := e) (n := (l : Int) - f) (f := f) (t := t) hU hs
    have hR' : LR (-1) (vwM (setRow g (ad M 1) R (ad M 1))) (btU U s e ((l : Int) - f) f t) := by rw [row_s]; exact hR
    have rd := (p_9 hR hU' (j := t - 1) (by rw [hzn _ 8 0 (by decide)]; omega)).2
    rw [btU_at hsf hf] at rd
    have ei : (218 + (t : Int) - 1).toNat = 218 + (t - 1) := by omega
    have ei2 : (218 + (t : Int)).toNat = 218 + t := by omega
    have os := opening_ok (zt := zt) hM hR' hU' (m := (s : Int)) (by omega) (by rw [hzn _ 0 0 (by decide)]; exact hs)
    have oe := opening_ok (zt := zt) hM hR' hU' (m := (e : Int)) (by omega) (by rw [hzn _ 0 0 (by decide)]; exact he)
    have ws := width_ok (zt := zt) hM hR' hU' (m := (s : Int)) (by omega) (by rw [hzn _ 0 0 (by decide)]; exact hs)
    have we := width_ok (zt := zt) hM hR' hU' (m := (e : Int)) (by omega) (by rw [hzn _ 0 0 (by decide)]; exact he)
    rw [Int.toNat_natCast, hzn _ 1 _ (by decide)] at os oe
    rw [Int.toNat_natCast, hzn _ 2 _ (by decide)] at ws we
    have bs := hU.2.1 s hs
    have be := hU.2.1 e he
    have mb1 := mul_b9 (x := U 1 e - U 1 s) (d := (t : Int) - f) (by omega) (by omega)
    have mb2 := mul_b9 (x := U 2 e - U 2 s) (d := (t : Int) - f) (by omega) (by omega)
    have pb1 := pwV_b (d := (t : Int) - f) (n := (l : Int) - f) bs.1 be.1 (by omega) (by omega)
    have pb2 := pwV_b (d := (t : Int) - f) (n := (l : Int) - f) bs.2 be.2 (by omega) (by omega)
    have hx := hb (t - 1 - f)
    have hnw := nearestTo_U (zt := zt) hM hR' hU' (x := btM U s e ((l : Int) - f) (t - 1 - f)) (by rw [hzn _ 0 0 (by decide)]; exact hx) pb1 pb2
    rw [nwU_eq (fun k j z => hzn t k j z)] at hnw
    have est : nwU U (btM U s e ((l : Int) - f) (t - 1 - f)) (pwV (U 1 s) (U 1 e) ((t : Int) - f) ((l : Int) - f)) (pwV (U 2 s) (U 2 e) ((t : Int) - f) ((l : Int) - f)) = btM U s e ((l : Int) - f) (t - f) := by
      rw [show t - f = (t - 1 - f) + 1 by omega]
      simp only [btM]
      rw [show (((t - 1 - f : Nat) : Int) + 1) = (t : Int) - f by omega]
    rw [est] at hnw
    unfold pwV at hnw
    have i58 : R 58 ≤ 30 := by
      have := m_5 hR
      rw [hzn _ 5 0 (by decide)] at this
      omega
    have hu := vwM_u10 (r := R) (v := ((btM U s e ((l : Int) - f) (t - f) : Nat) : Int)) i58 (J := t) (p := 218 + t) (by omega) rfl
    have i1 := ih (t + 1) (upd1 R (218 + t) (btM U s e ((l : Int) - f) (t - f) : Nat)) (some (AI (pwV (U 1 s) (U 1 e) ((t : Int) - f) ((l : Int) - f)))) (some (AI (pwV (U 2 s) (U 2 e) ((t : Int) - f) ((l : Int) - f)))) (by omega) (by omega) (by
      rw [← btU_st hf]
      refine lr_setp hR (Or.inr rfl) (fun k' j' z1 z2 => hu.2 k' j' z1 z2) ?_
      rw [hu.1, nn_1]) (fun y hy => by
      rw [upd_n (by omega)]
      exact hfr y hy)
    unfold pwV at i1
    rw [P_M_between_67]
    simp only [m_M_between, b_M_between_0, P_M_between_21, b_M_between_21, P_M_between_23, b_M_between_23, P_M_between_55, b_M_between_55, P_M_between_58, b_M_between_58, P_M_between_169, b_M_between_169, wp_aln0, wp_bipush, wp_cv1, wp_cv2, wp_cv3, wp_cv4, wp_cv5, wp_cv6, wp_cv7, wp_goto, wp_iadd, wp_iald, wp_iast, wp_icge, wp_icgt, wp_iconst, wp_idiv, wp_il4, wp_il5, wp_il6, wp_il7, wp_iln1, wp_iln2, wp_iln3, wp_imul, wp_inc5, wp_iret, wp_is4, wp_is5, wp_is6, wp_is7, wp_isn3, wp_isub, wp_izeq, wp_izge, wp_izlt, wp_nop, wp_sipush, wp_zret, qmd_kd, qmd_k1, qmd_l1, qmd_gf0, qmd_k2, qmd_l2, qmd_gf1, qmd_k3, qmd_l3, qmd_gf2, qmd_k4, qmd_l4, qmd_gf4, qmd_k5, qmd_l5, qmd_gf6, qmd_k6, qmd_l6, qmd_gf7, qmd_k7, qmd_l7, qmd_gf10, qmd_k8, qmd_l8, qmd_gf11, qmd_k9, qmd_l9, qmd_gf12, qmd_gf3, qmd_pf3, qmd_gf5, qmd_pf5, qmd_gf8, qmd_pf8, qmd_gf9, qmd_pf9, wrI_row, cpI_row, row_s, row_n, row_ss, row_sw, upd_s, upd_n, ad_inj, ad_z, ad_z2, Nat.reduceEqDiff, reduceCtorEq, List.cons_append, List.nil_append, Option.toList_some, Option.toList_none, Int.toNat_natCast, List.length_cons, List.length_nil, Int.cast_ofNat_Int, Nat.reduceAdd, Nat.reduceLeDiff, Nat.reduceLT, Nat.reduceMul, Int.reduceAdd, Int.reduceSub, Int.reduceMul, Int.reduceNeg, Int.reduceLT, Int.reduceLE, Int.reduceEq, Int.reduceToNat, eq_self, true_and, and_true, true_or, or_true, false_or, or_false, if_true, if_false, not_true_eq_false, not_false_eq_true, and_self, ne_eq, b_M_between_67, hM, ei, ei2, rd, os, oe, ws, we, hnw]
    (repeat' (first | apply And.intro | split)) <;> first | omega | exact i1
theorem d_between (hX : RepM g ρ M X) (hW : WFX X) {f l : Int} (hf : i32 f) (hl : i32 l) (hQ : MdQ g ρ M (sBetween f l X) Q) : WpM zt 122 [AR M, AI f, AI l] (g, ρ) Q := by
  obtain ⟨hM, hS, -⟩ := id hX
  have hR := hS.1
  have hU := hW.1.1
  have e0 := m_0 hR
  have e5 := m_5 hR
  have b0 := hU.1
  have b5 := hU.2.2.2.2.1
  have b8 := hU.2.2.2.2.2.2.1
  obtain ⟨fa, fb⟩ := id hf
  obtain ⟨la, lb⟩ := id hl
  unfold sBetween at hQ
  have h1 := isFrame_ok (zt := zt) hM hR hU hf
  have h2 := isFrame_ok (zt := zt) hM hR hU hl
  by_cases c1 : 0 ≤ f ∧ f < X.1.1 8 0
  · rw [b2_t c1] at h1
    by_cases c2 : 0 ≤ l ∧ l < X.1.1 8 0
    · rw [b2_t c2] at h2
      by_cases c3 : f < l
      · rw [if_pos ⟨c1, c2, c3⟩] at hQ
        obtain ⟨F, rfl⟩ := Int.eq_ofNat_of_zero_le c1.1
        obtain ⟨G, rfl⟩ := Int.eq_ofNat_of_zero_le c2.1
        rw [Int.toNat_natCast, Int.toNat_natCast] at hQ
        have r1 := m_dr hR hU c1.1 c1.2
        have r2 := m_dr hR hU c2.1 c2.2
        rw [Int.toNat_natCast] at r1 r2
        have v1 := (hU.2.2.2.2.2.2.2.2 F c1.2).2
        have v2 := (hU.2.2.2.2.2.2.2.2 G c2.2).2
        by_cases c4 : X.1.1 10 F = -1
        · rw [if_pos (Or.inl c4)] at hQ
          have q := hQ.ro hX
          simp only [m_M_between, b_M_between_0, P_M_between_21, b_M_between_21, P_M_between_23, b_M_between_23, P_M_between_55, b_M_between_55, P_M_between_58, b_M_between_58, P_M_between_169, b_M_between_169, wp_aln0, wp_bipush, wp_cv1, wp_cv2, wp_cv3, wp_cv4, wp_cv5, wp_cv6, wp_cv7, wp_goto, wp_iadd, wp_iald, wp_iast, wp_icge, wp_icgt, wp_iconst, wp_idiv, wp_il4, wp_il5, wp_il6, wp_il7, wp_iln1, wp_iln2, wp_iln3, wp_imul, wp_inc5, wp_iret, wp_is4, wp_is5, wp_is6, wp_is7, wp_isn3, wp_isub, wp_izeq, wp_izge, wp_izlt, wp_nop, wp_sipush, wp_zret, qmd_kd, qmd_k1, qmd_l1, qmd_gf0, qmd_k2, qmd_l2, qmd_gf1, qmd_k3, qmd_l3, qmd_gf2, qmd_k4, qmd_l4, qmd_gf4, qmd_k5, qmd_l5, qmd_gf6, qmd_k6, qmd_l6, qmd_gf7, qmd_k7, qmd_l7, qmd_gf10, qmd_k8, qmd_l8, qmd_gf11, qmd_k9, qmd_l9, qmd_gf12, qmd_gf3, qmd_pf3, qmd_gf5, qmd_pf5, qmd_gf8, qmd_pf8, qmd_gf9, qmd_pf9, wrI_row, cpI_row, row_s, row_n, row_ss, row_sw, upd_s, upd_n, ad_inj, ad_z, ad_z2, Nat.reduceEqDiff, reduceCtorEq, List.cons_append, List.nil_append, Option.toList_some, Option.toList_none, Int.toNat_natCast, List.length_cons, List.length_nil, Int.cast_ofNat_Int, Nat.reduceAdd, Nat.reduceLeDiff, Nat.reduceLT, Nat.reduceMul, Int.reduceAdd, Int.reduceSub, Int.reduceMul, Int.reduceNeg, Int.reduceLT, Int.reduceLE, Int.reduceEq, Int.reduceToNat, eq_self, true_and, and_true, true_or, or_true, false_or, or_false, if_true, if_false, not_true_eq_false, not_false_eq_true, and_self, ne_eq, hM, h1, h2, r1, r2, c4]
          (repeat' (first | apply And.intro | split)) <;> first | omega | exact q
        · by_cases c5 : X.1.1 10 G = -1
          · rw [if_pos (Or.inr c5)] at hQ
            have q := hQ.ro hX
            simp only [m_M_between, b_M_between_0, P_M_between_21, b_M_between_21, P_M_between_23, b_M_between_23, P_M_between_55, b_M_between_55, P_M_between_58, b_M_between_58, P_M_between_169, b_M_between_169, wp_aln0, wp_bipush, wp_cv1, wp_cv2, wp_cv3, wp_cv4, wp_cv5, wp_cv6, wp_cv7, wp_goto, wp_iadd, wp_iald, wp_iast, wp_icge, wp_icgt, wp_iconst, wp_idiv, wp_il4, wp_il5, wp_il6, wp_il7, wp_iln1, wp_iln2, wp_iln3, wp_imul, wp_inc5, wp_iret, wp_is4, wp_is5, wp_is6, wp_is7, wp_isn3, wp_isub, wp_izeq, wp_izge, wp_izlt, wp_nop, wp_sipush, wp_zret, qmd_kd, qmd_k1, qmd_l1, qmd_gf0, qmd_k2, qmd_l2, qmd_gf1, qmd_k3, qmd_l3, qmd_gf2, qmd_k4, qmd_l4, qmd_gf4, qmd_k5, qmd_l5, qmd_gf6, qmd_k6, qmd_l6, qmd_gf7, qmd_k7, qmd_l7, qmd_gf10, qmd_k8, qmd_l8, qmd_gf11, qmd_k9, qmd_l9, qmd_gf12, qmd_gf3, qmd_pf3, qmd_gf5, qmd_pf5, qmd_gf8, qmd_pf8, qmd_gf9, qmd_pf9, wrI_row, cpI_row, row_s, row_n, row_ss, row_sw, upd_s, upd_n, ad_inj, ad_z, ad_z2, Nat.reduceEqDiff, reduceCtorEq, List.cons_append, List.nil_append, Option.toList_some, Option.toList_none, Int.toNat_natCast, List.length_cons, List.length_nil, Int.cast_ofNat_Int, Nat.reduceAdd, Nat.reduceLeDiff, Nat.reduceLT, Nat.reduceMul, Int.reduceAdd, Int.reduceSub, Int.reduceMul, Int.reduceNeg, Int.reduceLT, Int.reduceLE, Int.reduceEq, Int.reduceToNat, eq_self, true_and, and_true, true_or, or_true, false_or, or_false, if_true, if_false, not_true_eq_false, not_false_eq_true, and_self, ne_eq, hM, h1, h2, r1, r2, c5]
            (repeat' (first | apply And.intro | split)) <;> first | omega | exact q
          · rw [if_neg (fun z => z.elim c4 c5)] at hQ
            have es : ((X.1.1 10 F).toNat : Int) = X.1.1 10 F := by omega
            have ee : ((X.1.1 10 G).toNat : Int) = X.1.1 10 G := by omega
            simp only [m_M_between, b_M_between_0, P_M_between_21, b_M_between_21, P_M_between_23, b_M_between_23, P_M_between_55, b_M_between_55, P_M_between_58, b_M_between_58, P_M_between_169, b_M_between_169, wp_aln0, wp_bipush, wp_cv1, wp_cv2, wp_cv3, wp_cv4, wp_cv5, wp_cv6, wp_cv7, wp_goto, wp_iadd, wp_iald, wp_iast, wp_icge, wp_icgt, wp_iconst, wp_idiv, wp_il4, wp_il5, wp_il6, wp_il7, wp_iln1, wp_iln2, wp_iln3, wp_imul, wp_inc5, wp_iret, wp_is4, wp_is5, wp_is6, wp_is7, wp_isn3, wp_isub, wp_izeq, wp_izge, wp_izlt, wp_nop, wp_sipush, wp_zret, qmd_kd, qmd_k1, qmd_l1, qmd_gf0, qmd_k2, qmd_l2, qmd_gf1, qmd_k3, qmd_l3, qmd_gf2, qmd_k4, qmd_l4, qmd_gf4, qmd_k5, qmd_l5, qmd_gf6, qmd_k6, qmd_l6, qmd_gf7, qmd_k7, qmd_l7, qmd_gf10, qmd_k8, qmd_l8, qmd_gf11, qmd_k9, qmd_l9, qmd_gf12, qmd_gf3, qmd_pf3, qmd_gf5, qmd_pf5, qmd_gf8, qmd_pf8, qmd_gf9, qmd_pf9, wrI_row, cpI_row, row_s, row_n, row_ss, row_sw, upd_s, upd_n, ad_inj, ad_z, ad_z2, Nat.reduceEqDiff, reduceCtorEq, List.cons_append, List.nil_append, Option.toList_some, Option.toList_none, Int.toNat_natCast, List.length_cons, List.length_nil, Int.cast_ofNat_Int, Nat.reduceAdd, Nat.reduceLeDiff, Nat.reduceLT, Nat.reduceMul, Int.reduceAdd, Int.reduceSub, Int.reduceMul, Int.reduceNeg, Int.reduceLT, Int.reduceLE, Int.reduceEq, Int.reduceToNat, eq_self, true_and, and_true, true_or, or_true, false_or, or_false, if_true, if_false, not_true_eq_false, not_false_eq_true, and_self, ne_eq, hM, h1, h2, r1, r2]
            (repeat' (first | apply And.intro | split)) <;> first | omega | skip
            refine keep_ok hX hW (fun g' j1 j2 j3 => ?_)
            have hM' := j1.1
            have hR' : LR (-1) (vwM (g' (ad M 1))) X.1.1 := j1.2.1.1
            have k1 := between_loopM (zt := zt) (g := g') hM' hU (f := F) (l := G) (s := (X.1.1 10 F).toNat) (e := (X.1.1 10 G).toNat) (Q := Q) (by omega) c2.2 (by omega) (by omega) es.symm (fun R' y1 y2 => hQ (setRow g' (ad M 1) R') (j1.pg hW y1 (fun y z1 z2 => y2 y z1)) (pg_fr j2)) (G - (F + 1)) (F + 1) (g' (ad M 1)) none none (by omega) (by omega) (by rw [btU_0]; exact hR') (fun _ _ => rfl)
            rw [es, ee, row_id] at k1
            simp only [m_M_between, b_M_between_0, P_M_between_21, b_M_between_21, P_M_between_23, b_M_between_23, P_M_between_55, b_M_between_55, P_M_between_58, b_M_between_58, P_M_between_169, b_M_between_169, wp_aln0, wp_bipush, wp_cv1, wp_cv2, wp_cv3, wp_cv4, wp_cv5, wp_cv6, wp_cv7, wp_goto, wp_iadd, wp_iald, wp_iast, wp_icge, wp_icgt, wp_iconst, wp_idiv, wp_il4, wp_il5, wp_il6, wp_il7, wp_iln1, wp_iln2, wp_iln3, wp_imul, wp_inc5, wp_iret, wp_is4, wp_is5, wp_is6, wp_is7, wp_isn3, wp_isub, wp_izeq, wp_izge, wp_izlt, wp_nop, wp_sipush, wp_zret, qmd_kd, qmd_k1, qmd_l1, qmd_gf0, qmd_k2, qmd_l2, qmd_gf1, qmd_k3, qmd_l3, qmd_gf2, qmd_k4, qmd_l4, qmd_gf4, qmd_k5, qmd_l5, qmd_gf6, qmd_k6, qmd_l6, qmd_gf7, qmd_k7, qmd_l7, qmd_gf10, qmd_k8, qmd_l8, qmd_gf11, qmd_k9, qmd_l9, qmd_gf12, qmd_gf3, qmd_pf3, qmd_gf5, qmd_pf5, qmd_gf8, qmd_pf8, qmd_gf9, qmd_pf9, wrI_row, cpI_row, row_s, row_n, row_ss, row_sw, upd_s, upd_n, ad_inj, ad_z, ad_z2, Nat.reduceEqDiff, reduceCtorEq, List.cons_append, List.nil_append, Option.toList_some, Option.toList_none, Int.toNat_natCast, List.length_cons, List.length_nil, Int.cast_ofNat_Int, Nat.reduceAdd, Nat.reduceLeDiff, Nat.reduceLT, Nat.reduceMul, Int.reduceAdd, Int.reduceSub, Int.reduceMul, Int.reduceNeg, Int.reduceLT, Int.reduceLE, Int.reduceEq, Int.reduceToNat, eq_self, true_and, and_true, true_or, or_true, false_or, or_false, if_true, if_false, not_true_eq_false, not_false_eq_true, and_self, ne_eq]
            exact k1
      · rw [if_neg (fun z => c3 z.2.2)] at hQ
        have q := hQ.ro hX
        simp only [m_M_between, b_M_between_0, P_M_between_21, b_M_between_21, P_M_between_23, b_M_between_23, P_M_between_55, b_M_between_55, P_M_between_58, b_M_between_58, P_M_between_169, b_M_between_169, wp_aln0, wp_bipush, wp_cv1, wp_cv2, wp_cv3, wp_cv4, wp_cv5, wp_cv6, wp_cv7, wp_goto, wp_iadd, wp_iald, wp_iast, wp_icge, wp_icgt, wp_iconst, wp_idiv, wp_il4, wp_il5, wp_il6, wp_il7, wp_iln1, wp_iln2, wp_iln3, wp_imul, wp_inc5, wp_iret, wp_is4, wp_is5, wp_is6, wp_is7, wp_isn3, wp_isub, wp_izeq, wp_izge, wp_izlt, wp_nop, wp_sipush, wp_zret, qmd_kd, qmd_k1, qmd_l1, qmd_gf0, qmd_k2, qmd_l2, qmd_gf1, qmd_k3, qmd_l3, qmd_gf2, qmd_k4, qmd_l4, qmd_gf4, qmd_k5, qmd_l5, qmd_gf6, qmd_k6, qmd_l6, qmd_gf7, qmd_k7, qmd_l7, qmd_gf10, qmd_k8, qmd_l8, qmd_gf11, qmd_k9, qmd_l9, qmd_gf12, qmd_gf3, qmd_pf3, qmd_gf5, qmd_pf5, qmd_gf8, qmd_pf8, qmd_gf9, qmd_pf9, wrI_row, cpI_row, row_s, row_n, row_ss, row_sw, upd_s, upd_n, ad_inj, ad_z, ad_z2, Nat.reduceEqDiff, reduceCtorEq, List.cons_append, List.nil_append, Option.toList_some, Option.toList_none, Int.toNat_natCast, List.length_cons, List.length_nil, Int.cast_ofNat_Int, Nat.reduceAdd, Nat.reduceLeDiff, Nat.reduceLT, Nat.reduceMul, Int.reduceAdd, Int.reduceSub, Int.reduceMul, Int.reduceNeg, Int.reduceLT, Int.reduceLE, Int.reduceEq, Int.reduceToNat, eq_self, true_and, and_true, true_or, or_true, false_or, or_false, if_true, if_false, not_true_eq_false, not_false_eq_true, and_self, ne_eq, hM, h1, h2]
        (repeat' (first | apply And.intro | split)) <;> first | omega | exact q
    · rw [b2_f c2] at h2
      rw [if_neg (fun z => c2 z.2.1)] at hQ
      have q := hQ.ro hX
      simp only [m_M_between, b_M_between_0, P_M_between_21, b_M_between_21, P_M_between_23, b_M_between_23, P_M_between_55, b_M_between_55, P_M_between_58, b_M_between_58, P_M_between_169, b_M_between_169, wp_aln0, wp_bipush, wp_cv1, wp_cv2, wp_cv3, wp_cv4, wp_cv5, wp_cv6, wp_cv7, wp_goto, wp_iadd, wp_iald, wp_iast, wp_icge, wp_icgt, wp_iconst, wp_idiv, wp_il4, wp_il5, wp_il6, wp_il7, wp_iln1, wp_iln2, wp_iln3, wp_imul, wp_inc5, wp_iret, wp_is4, wp_is5, wp_is6, wp_is7, wp_isn3, wp_isub, wp_izeq, wp_izge, wp_izlt, wp_nop, wp_sipush, wp_zret, qmd_kd, qmd_k1, qmd_l1, qmd_gf0, qmd_k2, qmd_l2, qmd_gf1, qmd_k3, qmd_l3, qmd_gf2, qmd_k4, qmd_l4, qmd_gf4, qmd_k5, qmd_l5, qmd_gf6, qmd_k6, qmd_l6, qmd_gf7, qmd_k7, qmd_l7, qmd_gf10, qmd_k8, qmd_l8, qmd_gf11, qmd_k9, qmd_l9, qmd_gf12, qmd_gf3, qmd_pf3, qmd_gf5, qmd_pf5, qmd_gf8, qmd_pf8, qmd_gf9, qmd_pf9, wrI_row, cpI_row, row_s, row_n, row_ss, row_sw, upd_s, upd_n, ad_inj, ad_z, ad_z2, Nat.reduceEqDiff, reduceCtorEq, List.cons_append, List.nil_append, Option.toList_some, Option.toList_none, Int.toNat_natCast, List.length_cons, List.length_nil, Int.cast_ofNat_Int, Nat.reduceAdd, Nat.reduceLeDiff, Nat.reduceLT, Nat.reduceMul, Int.reduceAdd, Int.reduceSub, Int.reduceMul, Int.reduceNeg, Int.reduceLT, Int.reduceLE, Int.reduceEq, Int.reduceToNat, eq_self, true_and, and_true, true_or, or_true, false_or, or_false, if_true, if_false, not_true_eq_false, not_false_eq_true, and_self, ne_eq, hM, h1, h2]
      (repeat' (first | apply And.intro | split)) <;> first | omega | exact q
  · rw [b2_f c1] at h1
    rw [if_neg (fun z => c1 z.1)] at hQ
    have q := hQ.ro hX
    simp only [m_M_between, b_M_between_0, P_M_between_21, b_M_between_21, P_M_between_23, b_M_between_23, P_M_between_55, b_M_between_55, P_M_between_58, b_M_between_58, P_M_between_169, b_M_between_169, wp_aln0, wp_bipush, wp_cv1, wp_cv2, wp_cv3, wp_cv4, wp_cv5, wp_cv6, wp_cv7, wp_goto, wp_iadd, wp_iald, wp_iast, wp_icge, wp_icgt, wp_iconst, wp_idiv, wp_il4, wp_il5, wp_il6, wp_il7, wp_iln1, wp_iln2, wp_iln3, wp_imul, wp_inc5, wp_iret, wp_is4, wp_is5, wp_is6, wp_is7, wp_isn3, wp_isub, wp_izeq, wp_izge, wp_izlt, wp_nop, wp_sipush, wp_zret, qmd_kd, qmd_k1, qmd_l1, qmd_gf0, qmd_k2, qmd_l2, qmd_gf1, qmd_k3, qmd_l3, qmd_gf2, qmd_k4, qmd_l4, qmd_gf4, qmd_k5, qmd_l5, qmd_gf6, qmd_k6, qmd_l6, qmd_gf7, qmd_k7, qmd_l7, qmd_gf10, qmd_k8, qmd_l8, qmd_gf11, qmd_k9, qmd_l9, qmd_gf12, qmd_gf3, qmd_pf3, qmd_gf5, qmd_pf5, qmd_gf8, qmd_pf8, qmd_gf9, qmd_pf9, wrI_row, cpI_row, row_s, row_n, row_ss, row_sw, upd_s, upd_n, ad_inj, ad_z, ad_z2, Nat.reduceEqDiff, reduceCtorEq, List.cons_append, List.nil_append, Option.toList_some, Option.toList_none, Int.toNat_natCast, List.length_cons, List.length_nil, Int.cast_ofNat_Int, Nat.reduceAdd, Nat.reduceLeDiff, Nat.reduceLT, Nat.reduceMul, Int.reduceAdd, Int.reduceSub, Int.reduceMul, Int.reduceNeg, Int.reduceLT, Int.reduceLE, Int.reduceEq, Int.reduceToNat, eq_self, true_and, and_true, true_or, or_true, false_or, or_false, if_true, if_false, not_true_eq_false, not_false_eq_true, and_self, ne_eq, hM, h1]
    (repeat' (first | apply And.intro | split)) <;> first | omega | exact q
end MBT
