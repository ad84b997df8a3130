/-! THE PLANNER'S prepare -/
/-- the cost of a mouth in a frame, n stands for none -/
def cstV (n : Int) (V : Vw) (f m : Nat) : Int := if (f : Int) < V 8 0 ∧ (m : Int) < V 0 0 then (if V 9 f = n ∨ V 9 f = m then wrgV V (kndV V f) m else 1000000) else 0
def clsV (V : Vw) (s : Int) (x y : Nat) : Bool := decide ((x : Int) < V 0 0 ∧ (y : Int) < V 0 0 ∧ jmpV V x y ≤ s)
theorem clsV_i {V : Vw} {s : Int} {x y : Nat} (hx : (x : Int) < V 0 0) (hy : (y : Int) < V 0 0) : clsV V s x y = true ↔ jmpV V x y ≤ s := by
  unfold clsV
  rw [decide_eq_true_iff]
  exact ⟨fun h => h.2.2, fun h => ⟨hx, hy, h⟩⟩
theorem kndV_b {g : Nat → Nat → Int} {a : Nat} (hW : WFV (-99) (vwC g a)) {f : Int} (hf : 0 ≤ f ∧ f < g a 8) : 0 ≤ kndV (vwC g a) f ∧ kndV (vwC g a) f ≤ 9 := by
  have h1 := segV_b hW (f := f)
  have hG : 0 < g a 5 := by
    have h2 := w_sum hW
    have h3 := w_G hW
    by_cases e : g a 5 = 0
    · rw [e] at h2
      have h4 : sumL (vwC g a) (0 : Int).toNat = 0 := rfl
      omega
    · omega
  unfold kndV
  exact w_kd hW (j := (segV (vwC g a) f).toNat) (by omega)
theorem cstV_b {g : Nat → Nat → Int} {a : Nat} (hW : WFV (-99) (vwC g a)) (f m : Nat) : 0 ≤ cstV (-99) (vwC g a) f m ∧ cstV (-99) (vwC g a) f m ≤ 1000000 := by
  unfold cstV
  split
  next hc =>
    have h1 := kndV_b hW (f := f) ⟨by omega, hc.1⟩
    have h2 := wrgV_b hW h1.1 h1.2 (m := m) hc.2
    split <;> omega
  next hc => omega
theorem cstV_p {n : Int} {V : Vw} {f m : Nat} (h1 : (f : Int) < V 8 0) (h2 : (m : Int) < V 0 0) (h : V 9 f = n ∨ V 9 f = m) : cstV n V f m = wrgV V (kndV V f) m := by
  unfold cstV
  rw [if_pos ⟨h1, h2⟩, if_pos h]
theorem cstV_n {n : Int} {V : Vw} {f m : Nat} (h1 : (f : Int) < V 8 0) (h2 : (m : Int) < V 0 0) (h : ¬ (V 9 f = n ∨ V 9 f = m)) : cstV n V f m = 1000000 := by
  unfold cstV
  rw [if_pos ⟨h1, h2⟩, if_neg h]
section PRP
variable {zt : Nat → Nat} {g : Nat → Nat → Int} {ρ : Ri} {a w : Nat}
theorem useSpeed_inner (hS : isSc ρ a) (hA : isPl ρ w) (hd : a + 9 ≤ w ∨ w + 9 ≤ a) (hW : WFV (-99) (vwC g a)) (hM : g w 7 = g a 0) {sp : Int} (hsp : -1000 ≤ sp ∧ sp ≤ 1000) {x : Nat} (hx : (x : Int) < g a 0) {Q : Option AV → Sto → Prop}
    (kk : ∀ (R : Nat → Int) (o4 : Option AV), (∀ x' y : Nat, x' < x + 1 → (y : Int) < g a 0 → R (x' * 8 + y) = if clsV (vwC g a) sp x' y = true then 1 else 0) → Wp zt 6 (P 6 2) [some (AR w), some (AR a), some (AI sp), some (AI ((x : Int) + 1)), o4] [] (setRow g (ad w 3) R, ρ) Q) :
    ∀ (d y : Nat) (R : Nat → Int), (y : Int) + d = g a 0 → (∀ x' y : Nat, x' < x → (y : Int) < g a 0 → R (x' * 8 + y) = if clsV (vwC g a) sp x' y = true then 1 else 0) → (∀ y' : Nat, y' < y → R (x * 8 + y') = if clsV (vwC g a) sp x y' = true then 1 else 0) → Wp zt 6 (P 6 13) [some (AR w), some (AR a), some (AI sp), some (AI x), some (AI y)] [] (setRow g (ad w 3) R, ρ) Q := by
  have hM8 := w_M hW
  intro d
  induction d with
  | zero =>
    intro y R hy h1 h2
    have k1 := kk R (some (AI y)) (fun x' y' q1 q2 => by
      by_cases e : x' = x
      · subst e; exact h2 y' (by omega)
      · exact h1 x' y' (by omega) q2)
    rw [P_P_useSpeed_13]
    simp only [m_P_useSpeed, b_P_useSpeed_0, P_P_useSpeed_48, b_P_useSpeed_48, P_P_useSpeed_49, b_P_useSpeed_49, P_P_useSpeed_56, b_P_useSpeed_56, P_P_useSpeed_62, b_P_useSpeed_62, wp_aln0, wp_aln1, wp_bast, wp_bipush, wp_cv1, wp_cv2, wp_cv3, wp_cv4, wp_cv5, wp_cv6, wp_cv7, wp_goto, wp_iadd, wp_icge, wp_icgt, wp_iconst, wp_il4, wp_iln2, wp_iln3, wp_imul, wp_inc3, wp_inc4, wp_is4, wp_isn3, wp_nop, wp_ret, qsc_kd, qsc_k1, qsc_l1, qsc_gf1, qsc_k2, qsc_l2, qsc_gf2, qsc_k3, qsc_l3, qsc_gf3, qsc_k4, qsc_l4, qsc_gf4, qsc_k5, qsc_l5, qsc_gf6, qsc_k6, qsc_l6, qsc_gf7, qsc_k7, qsc_l7, qsc_gf9, qsc_k8, qsc_l8, qsc_gf10, qsc_gf0, qsc_pf0, qsc_gf5, qsc_pf5, qsc_gf8, qsc_pf8, qpl_kd, qpl_k1, qpl_l1, qpl_gf0, qpl_k2, qpl_l2, qpl_gf1, qpl_k3, qpl_l3, qpl_gf2, qpl_k4, qpl_l4, qpl_gf3, qpl_k5, qpl_l5, qpl_gf4, qpl_k6, qpl_l6, qpl_gf5, qpl_gf6, qpl_pf6, qpl_gf7, qpl_pf7, qpl_gf8, qpl_pf8, wrI_row, cpI_row, row_s, row_n, row_ss, row_sw, upd_s, upd_n, ad_inj, ad_z, ad_z2, Nat.reduceEqDiff, reduceCtorEq, List.cons_append, List.nil_append, Option.toList_some, Option.toList_none, Int.toNat_natCast, List.length_cons, List.length_nil, Int.cast_ofNat_Int, Nat.reduceAdd, Nat.reduceLeDiff, Nat.reduceLT, Nat.reduceMul, Int.reduceAdd, Int.reduceSub, Int.reduceMul, Int.reduceNeg, Int.reduceLT, Int.reduceLE, Int.reduceEq, Int.reduceToNat, eq_self, true_and, and_true, true_or, or_true, false_or, or_false, if_true, if_false, not_true_eq_false, not_false_eq_true, and_self, ne_eq, b_P_useSpeed_13, hA, hS, hM]
    (repeat' (first | apply And.intro | split)) <;> first | omega | exact k1
  | succ d ih =>
    intro y R hy h1 h2
    have hv : vwC (setRow g (ad w 3) R) a = vwC g a := vwC_kept (fun x q1 q2 => row_n (by unfold ad; omega))
    have ea : setRow g (ad w 3) R a = g a := row_n (by unfold ad; omega)
    have hj := jumpOf_ok (zt := zt) (g := setRow g (ad w 3) R) hS (by rw [hv]; exact hW) (x := x) (y := y) (by omega) (by rw [ea]; exact hx) (by omega) (by rw [ea]; omega)
    simp only [hv, Int.toNat_natCast] at hj
    have hjb : 0 ≤ jmpV (vwC g a) x y ∧ jmpV (vwC g a) x y ≤ 2000 := by
      have q1 := w_op hW (j := y) (by omega)
      have q2 := w_wd hW (j := y) (by omega)
      exact dstV_b hW hx (show -1000 ≤ g (ad a 1) y ∧ g (ad a 1) y ≤ 1000 by omega) (show -1000 ≤ g (ad a 2) y ∧ g (ad a 2) y ≤ 1000 by omega)
    have e2 : ((x : Int) * 8 + (y : Int)).toNat = x * 8 + y := by omega
    have i1 := fun (v : Int) (q : v = if clsV (vwC g a) sp x y = true then 1 else 0) => ih (y + 1) (upd1 R (x * 8 + y) v) (by omega) (fun x' y' q1 q2 => by
        rw [upd_n (by omega)]
        exact h1 x' y' q1 q2) (fun y' q1 => by
        by_cases e : y' = y
        · subst e
          rw [upd_s]
          exact q
        · rw [upd_n (by omega)]
          exact h2 y' (by omega))
    by_cases hc : jmpV (vwC g a) x y ≤ sp
    · have k1 := i1 1 (by rw [if_pos ((clsV_i (V := vwC g a) hx (show (y : Int) < g a 0 by omega)).2 hc)])
      rw [P_P_useSpeed_13]
      simp only [m_P_useSpeed, b_P_useSpeed_0, P_P_useSpeed_48, b_P_useSpeed_48, P_P_useSpeed_49, b_P_useSpeed_49, P_P_useSpeed_56, b_P_useSpeed_56, P_P_useSpeed_62, b_P_useSpeed_62, wp_aln0, wp_aln1, wp_bast, wp_bipush, wp_cv1, wp_cv2, wp_cv3, wp_cv4, wp_cv5, wp_cv6, wp_cv7, wp_goto, wp_iadd, wp_icge, wp_icgt, wp_iconst, wp_il4, wp_iln2, wp_iln3, wp_imul, wp_inc3, wp_inc4, wp_is4, wp_isn3, wp_nop, wp_ret, qsc_kd, qsc_k1, qsc_l1, qsc_gf1, qsc_k2, qsc_l2, qsc_gf2, qsc_k3, qsc_l3, qsc_gf3, qsc_k4, qsc_l4, qsc_gf4, qsc_k5, qsc_l5, qsc_gf6, qsc_k6, qsc_l6, qsc_gf7, qsc_k7, qsc_l7, qsc_gf9, qsc_k8, qsc_l8, qsc_gf10, qsc_gf0, qsc_pf0, qsc_gf5, qsc_pf5, qsc_gf8, qsc_pf8, qpl_kd, qpl_k1, qpl_l1, qpl_gf0, qpl_k2, qpl_l2, qpl_gf1, qpl_k3, qpl_l3, qpl_gf2, qpl_k4, qpl_l4, qpl_gf3, qpl_k5, qpl_l5, qpl_gf4, qpl_k6, qpl_l6, qpl_gf5, qpl_gf6, qpl_pf6, qpl_gf7, qpl_pf7, qpl_gf8, qpl_pf8, wrI_row, cpI_row, row_s, row_n, row_ss, row_sw, upd_s, upd_n, ad_inj, ad_z, ad_z2, Nat.reduceEqDiff, reduceCtorEq, List.cons_append, List.nil_append, Option.toList_some, Option.toList_none, Int.toNat_natCast, List.length_cons, List.length_nil, Int.cast_ofNat_Int, Nat.reduceAdd, Nat.reduceLeDiff, Nat.reduceLT, Nat.reduceMul, Int.reduceAdd, Int.reduceSub, Int.reduceMul, Int.reduceNeg, Int.reduceLT, Int.reduceLE, Int.reduceEq, Int.reduceToNat, eq_self, true_and, and_true, true_or, or_true, false_or, or_false, if_true, if_false, not_true_eq_false, not_false_eq_true, and_self, ne_eq, b_P_useSpeed_13, hA, hS, hM, hj, e2]
      (repeat' (first | apply And.intro | split)) <;> first | omega | exact k1
    · have k1 := i1 0 (by rw [if_neg (fun q => hc ((clsV_i (V := vwC g a) hx (show (y : Int) < g a 0 by omega)).1 q))])
      rw [P_P_useSpeed_13]
      simp only [m_P_useSpeed, b_P_useSpeed_0, P_P_useSpeed_48, b_P_useSpeed_48, P_P_useSpeed_49, b_P_useSpeed_49, P_P_useSpeed_56, b_P_useSpeed_56, P_P_useSpeed_62, b_P_useSpeed_62, wp_aln0, wp_aln1, wp_bast, wp_bipush, wp_cv1, wp_cv2, wp_cv3, wp_cv4, wp_cv5, wp_cv6, wp_cv7, wp_goto, wp_iadd, wp_icge, wp_icgt, wp_iconst, wp_il4, wp_iln2, wp_iln3, wp_imul, wp_inc3, wp_inc4, wp_is4, wp_isn3, wp_nop, wp_ret, qsc_kd, qsc_k1, qsc_l1, qsc_gf1, qsc_k2, qsc_l2, qsc_gf2, qsc_k3, qsc_l3, qsc_gf3, qsc_k4, qsc_l4, qsc_gf4, qsc_k5, qsc_l5, qsc_gf6, qsc_k6, qsc_l6, qsc_gf7, qsc_k7, qsc_l7, qsc_gf9, qsc_k8, qsc_l8, qsc_gf10, qsc_gf0, qsc_pf0, qsc_gf5, qsc_pf5, qsc_gf8, qsc_pf8, qpl_kd, qpl_k1, qpl_l1, qpl_gf0, qpl_k2, qpl_l2, qpl_gf1, qpl_k3, qpl_l3, qpl_gf2, qpl_k4, qpl_l4, qpl_gf3, qpl_k5, qpl_l5, qpl_gf4, qpl_k6, qpl_l6, qpl_gf5, qpl_gf6, qpl_pf6, qpl_gf7, qpl_pf7, qpl_gf8, qpl_pf8, wrI_row, cpI_row, row_s, row_n, row_ss, row_sw, upd_s, upd_n, ad_inj, ad_z, ad_z2, Nat.reduceEqDiff, reduceCtorEq, List.cons_append, List.nil_append, Option.toList_some, Option.toList_none, Int.toNat_natCast, List.length_cons, List.length_nil, Int.cast_ofNat_Int, Nat.reduceAdd, Nat.reduceLeDiff, Nat.reduceLT, Nat.reduceMul, Int.reduceAdd, Int.reduceSub, Int.reduceMul, Int.reduceNeg, Int.reduceLT, Int.reduceLE, Int.reduceEq, Int.reduceToNat, eq_self, true_and, and_true, true_or, or_true, false_or, or_false, if_true, if_false, not_true_eq_false, not_false_eq_true, and_self, ne_eq, b_P_useSpeed_13, hA, hS, hM, hj, e2]
      (repeat' (first | apply And.intro | split)) <;> first | omega | exact k1
theorem useSpeed_loop (hS : isSc ρ a) (hA : isPl ρ w) (hd : a + 9 ≤ w ∨ w + 9 ≤ a) (hW : WFV (-99) (vwC g a)) (hM : g w 7 = g a 0) {sp : Int} (hsp : -1000 ≤ sp ∧ sp ≤ 1000) {Q : Option AV → Sto → Prop}
    (hQ : ∀ R : Nat → Int, (∀ x y : Nat, (x : Int) < g a 0 → (y : Int) < g a 0 → R (x * 8 + y) = if clsV (vwC g a) sp x y = true then 1 else 0) → Q none (setRow g (ad w 3) R, ρ)) :
    ∀ (d x : Nat) (R : Nat → Int) (o4 : Option AV), (x : Int) + d = g a 0 → (∀ x' y : Nat, x' < x → (y : Int) < g a 0 → R (x' * 8 + y) = if clsV (vwC g a) sp x' y = true then 1 else 0) → Wp zt 6 (P 6 2) [some (AR w), some (AR a), some (AI sp), some (AI x), o4] [] (setRow g (ad w 3) R, ρ) Q := by
  have hM8 := w_M hW
  intro d
  induction d with
  | zero =>
    intro x R o4 hx h1
    have k1 := hQ R (fun x' y' q1 q2 => h1 x' y' (by omega) q2)
    rw [P_P_useSpeed_2]
    simp only [m_P_useSpeed, b_P_useSpeed_0, P_P_useSpeed_48, b_P_useSpeed_48, P_P_useSpeed_49, b_P_useSpeed_49, P_P_useSpeed_56, b_P_useSpeed_56, P_P_useSpeed_62, b_P_useSpeed_62, wp_aln0, wp_aln1, wp_bast, wp_bipush, wp_cv1, wp_cv2, wp_cv3, wp_cv4, wp_cv5, wp_cv6, wp_cv7, wp_goto, wp_iadd, wp_icge, wp_icgt, wp_iconst, wp_il4, wp_iln2, wp_iln3, wp_imul, wp_inc3, wp_inc4, wp_is4, wp_isn3, wp_nop, wp_ret, qsc_kd, qsc_k1, qsc_l1, qsc_gf1, qsc_k2, qsc_l2, qsc_gf2, qsc_k3, qsc_l3, qsc_gf3, qsc_k4, qsc_l4, qsc_gf4, qsc_k5, qsc_l5, qsc_gf6, qsc_k6, qsc_l6, qsc_gf7, qsc_k7, qsc_l7, qsc_gf9, qsc_k8, qsc_l8, qsc_gf10, qsc_gf0, qsc_pf0, qsc_gf5, qsc_pf5, qsc_gf8, qsc_pf8, qpl_kd, qpl_k1, qpl_l1, qpl_gf0, qpl_k2, qpl_l2, qpl_gf1, qpl_k3, qpl_l3, qpl_gf2, qpl_k4, qpl_l4, qpl_gf3, qpl_k5, qpl_l5, qpl_gf4, qpl_k6, qpl_l6, qpl_gf5, qpl_gf6, qpl_pf6, qpl_gf7, qpl_pf7, qpl_gf8, qpl_pf8, wrI_row, cpI_row, row_s, row_n, row_ss, row_sw, upd_s, upd_n, ad_inj, ad_z, ad_z2, Nat.reduceEqDiff, reduceCtorEq, List.cons_append, List.nil_append, Option.toList_some, Option.toList_none, Int.toNat_natCast, List.length_cons, List.length_nil, Int.cast_ofNat_Int, Nat.reduceAdd, Nat.reduceLeDiff, Nat.reduceLT, Nat.reduceMul, Int.reduceAdd, Int.reduceSub, Int.reduceMul, Int.reduceNeg, Int.reduceLT, Int.reduceLE, Int.reduceEq, Int.reduceToNat, eq_self, true_and, and_true, true_or, or_true, false_or, or_false, if_true, if_false, not_true_eq_false, not_false_eq_true, and_self, ne_eq, b_P_useSpeed_2, hA, hS, hM]
    (repeat' (first | apply And.intro | split)) <;> first | omega | exact k1
  | succ d ih =>
    intro x R o4 hx h1
    have k1 := useSpeed_inner (zt := zt) (Q := Q) hS hA hd hW hM hsp (x := x) (by omega) (fun R o q => ih (x + 1) R o (by omega) q) (g a 0).toNat 0 R (by omega) h1 (fun y' q => by omega)
    rw [P_P_useSpeed_2]
    simp only [m_P_useSpeed, b_P_useSpeed_0, P_P_useSpeed_48, b_P_useSpeed_48, P_P_useSpeed_49, b_P_useSpeed_49, P_P_useSpeed_56, b_P_useSpeed_56, P_P_useSpeed_62, b_P_useSpeed_62, wp_aln0, wp_aln1, wp_bast, wp_bipush, wp_cv1, wp_cv2, wp_cv3, wp_cv4, wp_cv5, wp_cv6, wp_cv7, wp_goto, wp_iadd, wp_icge, wp_icgt, wp_iconst, wp_il4, wp_iln2, wp_iln3, wp_imul, wp_inc3, wp_inc4, wp_is4, wp_isn3, wp_nop, wp_ret, qsc_kd, qsc_k1, qsc_l1, qsc_gf1, qsc_k2, qsc_l2, qsc_gf2, qsc_k3, qsc_l3, qsc_gf3, qsc_k4, qsc_l4, qsc_gf4, qsc_k5, qsc_l5, qsc_gf6, qsc_k6, qsc_l6, qsc_gf7, qsc_k7, qsc_l7, qsc_gf9, qsc_k8, qsc_l8, qsc_gf10, qsc_gf0, qsc_pf0, qsc_gf5, qsc_pf5, qsc_gf8, qsc_pf8, qpl_kd, qpl_k1, qpl_l1, qpl_gf0, qpl_k2, qpl_l2, qpl_gf1, qpl_k3, qpl_l3, qpl_gf2, qpl_k4, qpl_l4, qpl_gf3, qpl_k5, qpl_l5, qpl_gf4, qpl_k6, qpl_l6, qpl_gf5, qpl_gf6, qpl_pf6, qpl_gf7, qpl_pf7, qpl_gf8, qpl_pf8, wrI_row, cpI_row, row_s, row_n, row_ss, row_sw, upd_s, upd_n, ad_inj, ad_z, ad_z2, Nat.reduceEqDiff, reduceCtorEq, List.cons_append, List.nil_append, Option.toList_some, Option.toList_none, Int.toNat_natCast, List.length_cons, List.length_nil, Int.cast_ofNat_Int, Nat.reduceAdd, Nat.reduceLeDiff, Nat.reduceLT, Nat.reduceMul, Int.reduceAdd, Int.reduceSub, Int.reduceMul, Int.reduceNeg, Int.reduceLT, Int.reduceLE, Int.reduceEq, Int.reduceToNat, eq_self, true_and, and_true, true_or, or_true, false_or, or_false, if_true, if_false, not_true_eq_false, not_false_eq_true, and_self, ne_eq, b_P_useSpeed_2, hA, hS, hM]
    (repeat' (first | apply And.intro | split)) <;> first | omega | exact k1
theorem useSpeed_ok (hS : isSc ρ a) (hA : isPl ρ w) (hd : a + 9 ≤ w ∨ w + 9 ≤ a) (hW : WFV (-99) (vwC g a)) (hM : g w 7 = g a 0) {sp : Int} (hsp : -1000 ≤ sp ∧ sp ≤ 1000) {Q : Option AV → Sto → Prop}
    (hQ : ∀ R : Nat → Int, (∀ x y : Nat, (x : Int) < g a 0 → (y : Int) < g a 0 → R (x * 8 + y) = if clsV (vwC g a) sp x y = true then 1 else 0) → Q none (setRow g (ad w 3) R, ρ)) : WpM zt 6 [AR w, AR a, AI sp] (g, ρ) Q := by
  have hM8 := w_M hW
  have k1 := useSpeed_loop (zt := zt) hS hA hd hW hM hsp hQ (g a 0).toNat 0 (g (ad w 3)) none (by omega) (fun x' y' q1 q2 => by omega)
  rw [row_id] at k1
  simp only [m_P_useSpeed, b_P_useSpeed_0, P_P_useSpeed_48, b_P_useSpeed_48, P_P_useSpeed_49, b_P_useSpeed_49, P_P_useSpeed_56, b_P_useSpeed_56, P_P_useSpeed_62, b_P_useSpeed_62, wp_aln0, wp_aln1, wp_bast, wp_bipush, wp_cv1, wp_cv2, wp_cv3, wp_cv4, wp_cv5, wp_cv6, wp_cv7, wp_goto, wp_iadd, wp_icge, wp_icgt, wp_iconst, wp_il4, wp_iln2, wp_iln3, wp_imul, wp_inc3, wp_inc4, wp_is4, wp_isn3, wp_nop, wp_ret, qsc_kd, qsc_k1, qsc_l1, qsc_gf1, qsc_k2, qsc_l2, qsc_gf2, qsc_k3, qsc_l3, qsc_gf3, qsc_k4, qsc_l4, qsc_gf4, qsc_k5, qsc_l5, qsc_gf6, qsc_k6, qsc_l6, qsc_gf7, qsc_k7, qsc_l7, qsc_gf9, qsc_k8, qsc_l8, qsc_gf10, qsc_gf0, qsc_pf0, qsc_gf5, qsc_pf5, qsc_gf8, qsc_pf8, qpl_kd, qpl_k1, qpl_l1, qpl_gf0, qpl_k2, qpl_l2, qpl_gf1, qpl_k3, qpl_l3, qpl_gf2, qpl_k4, qpl_l4, qpl_gf3, qpl_k5, qpl_l5, qpl_gf4, qpl_k6, qpl_l6, qpl_gf5, qpl_gf6, qpl_pf6, qpl_gf7, qpl_pf7, qpl_gf8, qpl_pf8, wrI_row, cpI_row, row_s, row_n, row_ss, row_sw, upd_s, upd_n, ad_inj, ad_z, ad_z2, Nat.reduceEqDiff, reduceCtorEq, List.cons_append, List.nil_append, Option.toList_some, Option.toList_none, Int.toNat_natCast, List.length_cons, List.length_nil, Int.cast_ofNat_Int, Nat.reduceAdd, Nat.reduceLeDiff, Nat.reduceLT, Nat.reduceMul, Int.reduceAdd, Int.reduceSub, Int.reduceMul, Int.reduceNeg, Int.reduceLT, Int.reduceLE, Int.reduceEq, Int.reduceToNat, eq_self, true_and, and_true, true_or, or_true, false_or, or_false, if_true, if_false, not_true_eq_false, not_false_eq_true, and_self, ne_eq, hA, hS]
  exact k1
theorem fillCosts_loop (hS : isSc ρ a) (hA : isPl ρ w) (hd : a + 9 ≤ w ∨ w + 9 ≤ a) (hW : WFV (-99) (vwC g a)) (hM : g w 7 = g a 0) {f : Nat} (hf : (f : Int) < g a 8) {kd : Int} (hkd : kd = kndV (vwC g a) f) {Q : Option AV → Sto → Prop}
    (hQ : ∀ R : Nat → Int, (∀ m : Nat, (m : Int) < g a 0 → R (f * 8 + m) = cstV (-99) (vwC g a) f m) → (∀ y, y < f * 8 → R y = g (ad w 2) y) → Q none (setRow g (ad w 2) R, ρ)) :
    ∀ (d n : Nat) (R : Nat → Int), (n : Int) + d = g a 0 → (∀ m : Nat, m < n → R (f * 8 + m) = wrgV (vwC g a) kd m) → (∀ y, y < f * 8 → R y = g (ad w 2) y) → Wp zt 5 (P 5 3) [some (AR w), some (AR a), some (AI f), some (AI kd), some (AI n)] [] (setRow g (ad w 2) R, ρ) Q := by
  have hM8 := w_M hW
  have hF := w_F hW
  have hkb := kndV_b hW (f := f) ⟨by omega, hf⟩
  rw [← hkd] at hkb
  have hpn := w_pn hW (j := f) hf
  intro d
  induction d with
  | zero =>
    intro n R hn h1 h2
    have e7 : setRow g (ad w 2) R (ad a 7) = g (ad a 7) := row_n (by unfold ad; omega)
    have hbo := barOthers_ok (zt := zt) (ρ := ρ) (g := setRow g (ad w 2) R) hA (M := (g a 0).toNat) (by rw [row_n (by unfold ad; omega)]; omega) (by omega) (f := f) (by omega) (x := g (ad a 7) f) (by omega)
    rw [row_s, row_ss] at hbo
    by_cases hp : g (ad a 7) f = -99
    · have k1 := hQ R (fun m q => by
        rw [cstV_p (n := -99) (V := vwC g a) hf q (Or.inl hp), ← hkd]
        exact h1 m (by omega)) h2
      rw [P_P_fillCosts_3]
      simp only [m_P_fillCosts, b_P_fillCosts_0, P_P_fillCosts_37, b_P_fillCosts_37, P_P_fillCosts_59, b_P_fillCosts_59, wp_aln0, wp_aln1, wp_bipush, wp_cv1, wp_cv2, wp_cv3, wp_cv4, wp_cv5, wp_cv6, wp_cv7, wp_goto, wp_iadd, wp_iald, wp_iast, wp_iceq, wp_icge, wp_iconst, wp_il4, wp_iln2, wp_iln3, wp_imul, wp_inc4, wp_is4, wp_nop, wp_ret, qsc_kd, qsc_k1, qsc_l1, qsc_gf1, qsc_k2, qsc_l2, qsc_gf2, qsc_k3, qsc_l3, qsc_gf3, qsc_k4, qsc_l4, qsc_gf4, qsc_k5, qsc_l5, qsc_gf6, qsc_k6, qsc_l6, qsc_gf7, qsc_k7, qsc_l7, qsc_gf9, qsc_k8, qsc_l8, qsc_gf10, qsc_gf0, qsc_pf0, qsc_gf5, qsc_pf5, qsc_gf8, qsc_pf8, qpl_kd, qpl_k1, qpl_l1, qpl_gf0, qpl_k2, qpl_l2, qpl_gf1, qpl_k3, qpl_l3, qpl_gf2, qpl_k4, qpl_l4, qpl_gf3, qpl_k5, qpl_l5, qpl_gf4, qpl_k6, qpl_l6, qpl_gf5, qpl_gf6, qpl_pf6, qpl_gf7, qpl_pf7, qpl_gf8, qpl_pf8, wrI_row, cpI_row, row_s, row_n, row_ss, row_sw, upd_s, upd_n, ad_inj, ad_z, ad_z2, Nat.reduceEqDiff, reduceCtorEq, List.cons_append, List.nil_append, Option.toList_some, Option.toList_none, Int.toNat_natCast, List.length_cons, List.length_nil, Int.cast_ofNat_Int, Nat.reduceAdd, Nat.reduceLeDiff, Nat.reduceLT, Nat.reduceMul, Int.reduceAdd, Int.reduceSub, Int.reduceMul, Int.reduceNeg, Int.reduceLT, Int.reduceLE, Int.reduceEq, Int.reduceToNat, eq_self, true_and, and_true, true_or, or_true, false_or, or_false, if_true, if_false, not_true_eq_false, not_false_eq_true, and_self, ne_eq, b_P_fillCosts_3, hA, hS, hM, e7, hp]
      (repeat' (first | apply And.intro | split)) <;> first | omega | exact k1
    · have k1 := hQ (barR R f (g (ad a 7) f) (g a 0).toNat) (fun m q => by
        by_cases e : g (ad a 7) f = m
        · rw [cstV_p (n := -99) (V := vwC g a) hf q (Or.inr e), ← hkd]
          unfold barR
          rw [if_neg (by omega)]
          exact h1 m (by omega)
        · rw [cstV_n (n := -99) (V := vwC g a) hf q (fun z => z.elim hp e)]
          unfold barR
          rw [if_pos (by omega)]) (fun y q => by
        unfold barR
        rw [if_neg (by omega)]
        exact h2 y q)
      rw [P_P_fillCosts_3]
      simp only [m_P_fillCosts, b_P_fillCosts_0, P_P_fillCosts_37, b_P_fillCosts_37, P_P_fillCosts_59, b_P_fillCosts_59, wp_aln0, wp_aln1, wp_bipush, wp_cv1, wp_cv2, wp_cv3, wp_cv4, wp_cv5, wp_cv6, wp_cv7, wp_goto, wp_iadd, wp_iald, wp_iast, wp_iceq, wp_icge, wp_iconst, wp_il4, wp_iln2, wp_iln3, wp_imul, wp_inc4, wp_is4, wp_nop, wp_ret, qsc_kd, qsc_k1, qsc_l1, qsc_gf1, qsc_k2, qsc_l2, qsc_gf2, qsc_k3, qsc_l3, qsc_gf3, qsc_k4, qsc_l4, qsc_gf4, qsc_k5, qsc_l5, qsc_gf6, qsc_k6, qsc_l6, qsc_gf7, qsc_k7, qsc_l7, qsc_gf9, qsc_k8, qsc_l8, qsc_gf10, qsc_gf0, qsc_pf0, qsc_gf5, qsc_pf5, qsc_gf8, qsc_pf8, qpl_kd, qpl_k1, qpl_l1, qpl_gf0, qpl_k2, qpl_l2, qpl_gf1, qpl_k3, qpl_l3, qpl_gf2, qpl_k4, qpl_l4, qpl_gf3, qpl_k5, qpl_l5, qpl_gf4, qpl_k6, qpl_l6, qpl_gf5, qpl_gf6, qpl_pf6, qpl_gf7, qpl_pf7, qpl_gf8, qpl_pf8, wrI_row, cpI_row, row_s, row_n, row_ss, row_sw, upd_s, upd_n, ad_inj, ad_z, ad_z2, Nat.reduceEqDiff, reduceCtorEq, List.cons_append, List.nil_append, Option.toList_some, Option.toList_none, Int.toNat_natCast, List.length_cons, List.length_nil, Int.cast_ofNat_Int, Nat.reduceAdd, Nat.reduceLeDiff, Nat.reduceLT, Nat.reduceMul, Int.reduceAdd, Int.reduceSub, Int.reduceMul, Int.reduceNeg, Int.reduceLT, Int.reduceLE, Int.reduceEq, Int.reduceToNat, eq_self, true_and, and_true, true_or, or_true, false_or, or_false, if_true, if_false, not_true_eq_false, not_false_eq_true, and_self, ne_eq, b_P_fillCosts_3, hA, hS, hM, e7, hp, hbo]
      (repeat' (first | apply And.intro | split)) <;> first | omega | exact k1
  | succ d ih =>
    intro n R hn h1 h2
    have hv : vwC (setRow g (ad w 2) R) a = vwC g a := vwC_kept (fun x q1 q2 => row_n (by unfold ad; omega))
    have ea : setRow g (ad w 2) R a = g a := row_n (by unfold ad; omega)
    have hwr := wrongOf_ok (zt := zt) (g := setRow g (ad w 2) R) hS (by rw [hv]; exact hW) (kd := kd) (m := n) hkb.1 hkb.2 (by omega) (by rw [ea]; omega)
    simp only [hv, Int.toNat_natCast] at hwr
    have e2 : ((f : Int) * 8 + (n : Int)).toNat = f * 8 + n := by omega
    have i1 := ih (n + 1) (upd1 R (f * 8 + n) (wrgV (vwC g a) kd n)) (by omega) (fun m q => by
        by_cases e : m = n
        · subst e
          rw [upd_s]
        · rw [upd_n (by omega)]
          exact h1 m (by omega)) (fun y q => by
        rw [upd_n (by omega)]
        exact h2 y q)
    rw [P_P_fillCosts_3]
    simp only [m_P_fillCosts, b_P_fillCosts_0, P_P_fillCosts_37, b_P_fillCosts_37, P_P_fillCosts_59, b_P_fillCosts_59, wp_aln0, wp_aln1, wp_bipush, wp_cv1, wp_cv2, wp_cv3, wp_cv4, wp_cv5, wp_cv6, wp_cv7, wp_goto, wp_iadd, wp_iald, wp_iast, wp_iceq, wp_icge, wp_iconst, wp_il4, wp_iln2, wp_iln3, wp_imul, wp_inc4, wp_is4, wp_nop, wp_ret, qsc_kd, qsc_k1, qsc_l1, qsc_gf1, qsc_k2, qsc_l2, qsc_gf2, qsc_k3, qsc_l3, qsc_gf3, qsc_k4, qsc_l4, qsc_gf4, qsc_k5, qsc_l5, qsc_gf6, qsc_k6, qsc_l6, qsc_gf7, qsc_k7, qsc_l7, qsc_gf9, qsc_k8, qsc_l8, qsc_gf10, qsc_gf0, qsc_pf0, qsc_gf5, qsc_pf5, qsc_gf8, qsc_pf8, qpl_kd, qpl_k1, qpl_l1, qpl_gf0, qpl_k2, qpl_l2, qpl_gf1, qpl_k3, qpl_l3, qpl_gf2, qpl_k4, qpl_l4, qpl_gf3, qpl_k5, qpl_l5, qpl_gf4, qpl_k6, qpl_l6, qpl_gf5, qpl_gf6, qpl_pf6, qpl_gf7, qpl_pf7, qpl_gf8, qpl_pf8, wrI_row, cpI_row, row_s, row_n, row_ss, row_sw, upd_s, upd_n, ad_inj, ad_z, ad_z2, Nat.reduceEqDiff, reduceCtorEq, List.cons_append, List.nil_append, Option.toList_some, Option.toList_none, Int.toNat_natCast, List.length_cons, List.length_nil, Int.cast_ofNat_Int, Nat.reduceAdd, Nat.reduceLeDiff, Nat.reduceLT, Nat.reduceMul, Int.reduceAdd, Int.reduceSub, Int.reduceMul, Int.reduceNeg, Int.reduceLT, Int.reduceLE, Int.reduceEq, Int.reduceToNat, eq_self, true_and, and_true, true_or, or_true, false_or, or_false, if_true, if_false, not_true_eq_false, not_false_eq_true, and_self, ne_eq, b_P_fillCosts_3, hA, hS, hM, hwr, e2]
    (repeat' (first | apply And.intro | split)) <;> first | omega | exact i1
theorem fillCosts_ok (hS : isSc ρ a) (hA : isPl ρ w) (hd : a + 9 ≤ w ∨ w + 9 ≤ a) (hW : WFV (-99) (vwC g a)) (hM : g w 7 = g a 0) {f : Nat} (hf : (f : Int) < g a 8) {kd : Int} (hkd : kd = kndV (vwC g a) f) {Q : Option AV → Sto → Prop}
    (hQ : ∀ R : Nat → Int, (∀ m : Nat, (m : Int) < g a 0 → R (f * 8 + m) = cstV (-99) (vwC g a) f m) → (∀ y, y < f * 8 → R y = g (ad w 2) y) → Q none (setRow g (ad w 2) R, ρ)) : WpM zt 5 [AR w, AR a, AI f, AI kd] (g, ρ) Q := by
  have hM8 := w_M hW
  have k1 := fillCosts_loop (zt := zt) hS hA hd hW hM hf hkd hQ (g a 0).toNat 0 (g (ad w 2)) (by omega) (fun m q => by omega) (fun y q => rfl)
  rw [row_id] at k1
  simp only [m_P_fillCosts, b_P_fillCosts_0, P_P_fillCosts_37, b_P_fillCosts_37, P_P_fillCosts_59, b_P_fillCosts_59, wp_aln0, wp_aln1, wp_bipush, wp_cv1, wp_cv2, wp_cv3, wp_cv4, wp_cv5, wp_cv6, wp_cv7, wp_goto, wp_iadd, wp_iald, wp_iast, wp_iceq, wp_icge, wp_iconst, wp_il4, wp_iln2, wp_iln3, wp_imul, wp_inc4, wp_is4, wp_nop, wp_ret, qsc_kd, qsc_k1, qsc_l1, qsc_gf1, qsc_k2, qsc_l2, qsc_gf2, qsc_k3, qsc_l3, qsc_gf3, qsc_k4, qsc_l4, qsc_gf4, qsc_k5, qsc_l5, qsc_gf6, qsc_k6, qsc_l6, qsc_gf7, qsc_k7, qsc_l7, qsc_gf9, qsc_k8, qsc_l8, qsc_gf10, qsc_gf0, qsc_pf0, qsc_gf5, qsc_pf5, qsc_gf8, qsc_pf8, qpl_kd, qpl_k1, qpl_l1, qpl_gf0, qpl_k2, qpl_l2, qpl_gf1, qpl_k3, qpl_l3, qpl_gf2, qpl_k4, qpl_l4, qpl_gf3, qpl_k5, qpl_l5, qpl_gf4, qpl_k6, qpl_l6, qpl_gf5, qpl_gf6, qpl_pf6, qpl_gf7, qpl_pf7, qpl_gf8, qpl_pf8, wrI_row, cpI_row, row_s, row_n, row_ss, row_sw, upd_s, upd_n, ad_inj, ad_z, ad_z2, Nat.reduceEqDiff, reduceCtorEq, List.cons_append, List.nil_append, Option.toList_some, Option.toList_none, Int.toNat_natCast, List.length_cons, List.length_nil, Int.cast_ofNat_Int, Nat.reduceAdd, Nat.reduceLeDiff, Nat.reduceLT, Nat.reduceMul, Int.reduceAdd, Int.reduceSub, Int.reduceMul, Int.reduceNeg, Int.reduceLT, Int.reduceLE, Int.reduceEq, Int.reduceToNat, eq_self, true_and, and_true, true_or, or_true, false_or, or_false, if_true, if_false, not_true_eq_false, not_false_eq_true, and_self, ne_eq, hA, hS]
  exact k1
/-- the planner's object as far as frame f -/
def prI (g : Nat → Nat → Int) (a w f : Nat) (g1 : Nat → Nat → Int) : Prop := (∀ x, (x < w ∨ w + 7 ≤ x) → g1 x = g x) ∧ g1 w 6 = g a 8 ∧ g1 w 7 = g a 0 ∧ g1 w 8 = g (ad a 4) 1 ∧ (∀ x y : Nat, (x : Int) < g a 0 → (y : Int) < g a 0 → g1 (ad w 3) (x * 8 + y) = if clsV (vwC g a) (g (ad a 4) 0) x y = true then 1 else 0) ∧ ∀ f' m : Nat, f' < f → (m : Int) < g a 0 → g1 (ad w 2) (f' * 8 + m) = cstV (-99) (vwC g a) f' m
theorem prepare_inner (hS : isSc ρ a) (hA : isPl ρ w) (hd : a + 9 ≤ w ∨ w + 9 ≤ a) (hW : WFV (-99) (vwC g a)) {s : Nat} (hs : (s : Int) < g a 5) (hle : sumL (vwC g a) (s + 1) ≤ g a 8) {Q : Option AV → Sto → Prop}
    (kk : ∀ (g2 : Nat → Nat → Int) (o : Option AV) (f : Nat), (f : Int) = sumL (vwC g a) (s + 1) → prI g a w f g2 → Wp zt 4 (P 4 41) [some (AR w), some (AR a), some (AI f), some (AI ((s : Int) + 1)), o] [] (g2, ρ) Q) :
    ∀ (d f : Nat) (g1 : Nat → Nat → Int), (f : Int) + d = sumL (vwC g a) (s + 1) → sumL (vwC g a) s ≤ f → prI g a w f g1 → Wp zt 4 (P 4 66) [some (AR w), some (AR a), some (AI f), some (AI s), some (AI (sumL (vwC g a) (s + 1)))] [] (g1, ρ) Q := by
  have hF := w_F hW
  have hG := w_G hW
  have hkb := w_kd hW hs
  intro d
  induction d with
  | zero =>
    intro f g1 h1 h2 hI
    have k1 := kk g1 (some (AI (sumL (vwC g a) (s + 1)))) f (by omega) hI
    rw [P_P_prepare_66]
    simp only [m_P_prepare, b_P_prepare_0, P_P_prepare_90, b_P_prepare_90, P_P_prepare_96, b_P_prepare_96, wp_abs, wp_aln0, wp_aln1, wp_copy, wp_cs1, wp_cs2, wp_cs3, wp_cs4, wp_cs5, wp_cs6, wp_cs7, wp_cv1, wp_cv2, wp_cv3, wp_cv4, wp_cv5, wp_cv6, wp_cv7, wp_goto, wp_iadd, wp_iald, wp_icge, wp_iconst, wp_il4, wp_iln2, wp_iln3, wp_inc2, wp_inc3, wp_is4, wp_isn2, wp_isn3, wp_max, wp_min, wp_nop, wp_ret, qsc_kd, qsc_k1, qsc_l1, qsc_gf1, qsc_k2, qsc_l2, qsc_gf2, qsc_k3, qsc_l3, qsc_gf3, qsc_k4, qsc_l4, qsc_gf4, qsc_k5, qsc_l5, qsc_gf6, qsc_k6, qsc_l6, qsc_gf7, qsc_k7, qsc_l7, qsc_gf9, qsc_k8, qsc_l8, qsc_gf10, qsc_gf0, qsc_pf0, qsc_gf5, qsc_pf5, qsc_gf8, qsc_pf8, qpl_kd, qpl_k1, qpl_l1, qpl_gf0, qpl_k2, qpl_l2, qpl_gf1, qpl_k3, qpl_l3, qpl_gf2, qpl_k4, qpl_l4, qpl_gf3, qpl_k5, qpl_l5, qpl_gf4, qpl_k6, qpl_l6, qpl_gf5, qpl_gf6, qpl_pf6, qpl_gf7, qpl_pf7, qpl_gf8, qpl_pf8, wrI_row, cpI_row, row_s, row_n, row_ss, row_sw, upd_s, upd_n, ad_inj, ad_z, ad_z2, Nat.reduceEqDiff, reduceCtorEq, List.cons_append, List.nil_append, Option.toList_some, Option.toList_none, Int.toNat_natCast, List.length_cons, List.length_nil, Int.cast_ofNat_Int, Nat.reduceAdd, Nat.reduceLeDiff, Nat.reduceLT, Nat.reduceMul, Int.reduceAdd, Int.reduceSub, Int.reduceMul, Int.reduceNeg, Int.reduceLT, Int.reduceLE, Int.reduceEq, Int.reduceToNat, eq_self, true_and, and_true, true_or, or_true, false_or, or_false, if_true, if_false, not_true_eq_false, not_false_eq_true, and_self, ne_eq, b_P_prepare_66, hS, hA]
    (repeat' (first | apply And.intro | split)) <;> first | omega | exact k1
  | succ d ih =>
    intro f g1 h1 h2 hI
    obtain ⟨j1, j2, j3, j4, j5, j6⟩ := id hI
    have hv : vwC g1 a = vwC g a := vwC_kept (fun x q1 q2 => j1 x (by omega))
    have ea : g1 a = g a := j1 a (by omega)
    have e5 : g1 (ad a 5) = g (ad a 5) := j1 _ (by unfold ad; omega)
    have hk : g (ad a 5) s = kndV (vwC g1 a) f := by
      rw [hv]
      unfold kndV
      rw [segV_at hW hs h2 (by omega)]
      rfl
    have hM8 := w_M hW
    rw [P_P_prepare_66]
    simp only [m_P_prepare, b_P_prepare_0, P_P_prepare_90, b_P_prepare_90, P_P_prepare_96, b_P_prepare_96, wp_abs, wp_aln0, wp_aln1, wp_copy, wp_cs1, wp_cs2, wp_cs3, wp_cs4, wp_cs5, wp_cs6, wp_cs7, wp_cv1, wp_cv2, wp_cv3, wp_cv4, wp_cv5, wp_cv6, wp_cv7, wp_goto, wp_iadd, wp_iald, wp_icge, wp_iconst, wp_il4, wp_iln2, wp_iln3, wp_inc2, wp_inc3, wp_is4, wp_isn2, wp_isn3, wp_max, wp_min, wp_nop, wp_ret, qsc_kd, qsc_k1, qsc_l1, qsc_gf1, qsc_k2, qsc_l2, qsc_gf2, qsc_k3, qsc_l3, qsc_gf3, qsc_k4, qsc_l4, qsc_gf4, qsc_k5, qsc_l5, qsc_gf6, qsc_k6, qsc_l6, qsc_gf7, qsc_k7, qsc_l7, qsc_gf9, qsc_k8, qsc_l8, qsc_gf10, qsc_gf0, qsc_pf0, qsc_gf5, qsc_pf5, qsc_gf8, qsc_pf8, qpl_kd, qpl_k1, qpl_l1, qpl_gf0, qpl_k2, qpl_l2, qpl_gf1, qpl_k3, qpl_l3, qpl_gf2, qpl_k4, qpl_l4, qpl_gf3, qpl_k5, qpl_l5, qpl_gf4, qpl_k6, qpl_l6, qpl_gf5, qpl_gf6, qpl_pf6, qpl_gf7, qpl_pf7, qpl_gf8, qpl_pf8, wrI_row, cpI_row, row_s, row_n, row_ss, row_sw, upd_s, upd_n, ad_inj, ad_z, ad_z2, Nat.reduceEqDiff, reduceCtorEq, List.cons_append, List.nil_append, Option.toList_some, Option.toList_none, Int.toNat_natCast, List.length_cons, List.length_nil, Int.cast_ofNat_Int, Nat.reduceAdd, Nat.reduceLeDiff, Nat.reduceLT, Nat.reduceMul, Int.reduceAdd, Int.reduceSub, Int.reduceMul, Int.reduceNeg, Int.reduceLT, Int.reduceLE, Int.reduceEq, Int.reduceToNat, eq_self, true_and, and_true, true_or, or_true, false_or, or_false, if_true, if_false, not_true_eq_false, not_false_eq_true, and_self, ne_eq, b_P_prepare_66, hS, hA, e5]
    (repeat' (first | apply And.intro | split)) <;> first | omega | skip
    refine fillCosts_ok hS hA hd (by rw [hv]; exact hW) (by rw [j3, ea]) (f := f) (by rw [ea]; omega) hk (fun R q1 q2 => ?_)
    have k1 := ih (f + 1) (setRow g1 (ad w 2) R) (by omega) (by omega) (by
      refine ⟨fun x q => ?_, ?_, ?_, ?_, ?_, fun f' m z1 z2 => ?_⟩
      · rw [row_n (by unfold ad; omega)]
        exact j1 x q
      · rw [row_n (by unfold ad; omega)]
        exact j2
      · rw [row_n (by unfold ad; omega)]
        exact j3
      · rw [row_n (by unfold ad; omega)]
        exact j4
      · rw [row_n (by unfold ad; omega)]
        exact j5
      · rw [row_s]
        rw [hv, ea] at q1
        by_cases e : f' = f
        · subst e
          exact q1 m z2
        · rw [q2 _ (by omega)]
          exact j6 f' m (by omega) z2)
    simp only [m_P_prepare, b_P_prepare_0, P_P_prepare_90, b_P_prepare_90, P_P_prepare_96, b_P_prepare_96, wp_abs, wp_aln0, wp_aln1, wp_copy, wp_cs1, wp_cs2, wp_cs3, wp_cs4, wp_cs5, wp_cs6, wp_cs7, wp_cv1, wp_cv2, wp_cv3, wp_cv4, wp_cv5, wp_cv6, wp_cv7, wp_goto, wp_iadd, wp_iald, wp_icge, wp_iconst, wp_il4, wp_iln2, wp_iln3, wp_inc2, wp_inc3, wp_is4, wp_isn2, wp_isn3, wp_max, wp_min, wp_nop, wp_ret, qsc_kd, qsc_k1, qsc_l1, qsc_gf1, qsc_k2, qsc_l2, qsc_gf2, qsc_k3, qsc_l3, qsc_gf3, qsc_k4, qsc_l4, qsc_gf4, qsc_k5, qsc_l5, qsc_gf6, qsc_k6, qsc_l6, qsc_gf7, qsc_k7, qsc_l7, qsc_gf9, qsc_k8, qsc_l8, qsc_gf10, qsc_gf0, qsc_pf0, qsc_gf5, qsc_pf5, qsc_gf8, qsc_pf8, qpl_kd, qpl_k1, qpl_l1, qpl_gf0, qpl_k2, qpl_l2, qpl_gf1, qpl_k3, qpl_l3, qpl_gf2, qpl_k4, qpl_l4, qpl_gf3, qpl_k5, qpl_l5, qpl_gf4, qpl_k6, qpl_l6, qpl_gf5, qpl_gf6, qpl_pf6, qpl_gf7, qpl_pf7, qpl_gf8, qpl_pf8, wrI_row, cpI_row, row_s, row_n, row_ss, row_sw, upd_s, upd_n, ad_inj, ad_z, ad_z2, Nat.reduceEqDiff, reduceCtorEq, List.cons_append, List.nil_append, Option.toList_some, Option.toList_none, Int.toNat_natCast, List.length_cons, List.length_nil, Int.cast_ofNat_Int, Nat.reduceAdd, Nat.reduceLeDiff, Nat.reduceLT, Nat.reduceMul, Int.reduceAdd, Int.reduceSub, Int.reduceMul, Int.reduceNeg, Int.reduceLT, Int.reduceLE, Int.reduceEq, Int.reduceToNat, eq_self, true_and, and_true, true_or, or_true, false_or, or_false, if_true, if_false, not_true_eq_false, not_false_eq_true, and_self, ne_eq, hS, hA]
    (repeat' (first | apply And.intro | split)) <;> first | omega | exact k1
theorem prepare_loop (hS : isSc ρ a) (hA : isPl ρ w) (hd : a + 9 ≤ w ∨ w + 9 ≤ a) (hW : WFV (-99) (vwC g a)) {Q : Option AV → Sto → Prop} (hQ : ∀ g2 : Nat → Nat → Int, prI g a w (g a 8).toNat g2 → Q none (g2, ρ)) :
    ∀ (d s f : Nat) (g1 : Nat → Nat → Int) (o : Option AV), (s : Int) + d = g a 5 → (f : Int) = sumL (vwC g a) s → prI g a w f g1 → Wp zt 4 (P 4 41) [some (AR w), some (AR a), some (AI f), some (AI s), o] [] (g1, ρ) Q := by
  have hF := w_F hW
  have hG := w_G hW
  intro d
  induction d with
  | zero =>
    intro s f g1 o h1 h2 hI
    have e : (g a 8).toNat = f := by
      have := w_sum hW
      rw [show (g a 5).toNat = s by omega] at this
      omega
    rw [e] at hQ
    have k1 := hQ g1 hI
    have e0 : g1 a = g a := hI.1 _ (by omega)
    rw [P_P_prepare_41]
    simp only [m_P_prepare, b_P_prepare_0, P_P_prepare_90, b_P_prepare_90, P_P_prepare_96, b_P_prepare_96, wp_abs, wp_aln0, wp_aln1, wp_copy, wp_cs1, wp_cs2, wp_cs3, wp_cs4, wp_cs5, wp_cs6, wp_cs7, wp_cv1, wp_cv2, wp_cv3, wp_cv4, wp_cv5, wp_cv6, wp_cv7, wp_goto, wp_iadd, wp_iald, wp_icge, wp_iconst, wp_il4, wp_iln2, wp_iln3, wp_inc2, wp_inc3, wp_is4, wp_isn2, wp_isn3, wp_max, wp_min, wp_nop, wp_ret, qsc_kd, qsc_k1, qsc_l1, qsc_gf1, qsc_k2, qsc_l2, qsc_gf2, qsc_k3, qsc_l3, qsc_gf3, qsc_k4, qsc_l4, qsc_gf4, qsc_k5, qsc_l5, qsc_gf6, qsc_k6, qsc_l6, qsc_gf7, qsc_k7, qsc_l7, qsc_gf9, qsc_k8, qsc_l8, qsc_gf10, qsc_gf0, qsc_pf0, qsc_gf5, qsc_pf5, qsc_gf8, qsc_pf8, qpl_kd, qpl_k1, qpl_l1, qpl_gf0, qpl_k2, qpl_l2, qpl_gf1, qpl_k3, qpl_l3, qpl_gf2, qpl_k4, qpl_l4, qpl_gf3, qpl_k5, qpl_l5, qpl_gf4, qpl_k6, qpl_l6, qpl_gf5, qpl_gf6, qpl_pf6, qpl_gf7, qpl_pf7, qpl_gf8, qpl_pf8, wrI_row, cpI_row, row_s, row_n, row_ss, row_sw, upd_s, upd_n, ad_inj, ad_z, ad_z2, Nat.reduceEqDiff, reduceCtorEq, List.cons_append, List.nil_append, Option.toList_some, Option.toList_none, Int.toNat_natCast, List.length_cons, List.length_nil, Int.cast_ofNat_Int, Nat.reduceAdd, Nat.reduceLeDiff, Nat.reduceLT, Nat.reduceMul, Int.reduceAdd, Int.reduceSub, Int.reduceMul, Int.reduceNeg, Int.reduceLT, Int.reduceLE, Int.reduceEq, Int.reduceToNat, eq_self, true_and, and_true, true_or, or_true, false_or, or_false, if_true, if_false, not_true_eq_false, not_false_eq_true, and_self, ne_eq, b_P_prepare_41, hS, hA, e0]
    (repeat' (first | apply And.intro | split)) <;> first | omega | exact k1
  | succ d ih =>
    intro s f g1 o h1 h2 hI
    have e0 : g1 a = g a := hI.1 _ (by omega)
    have e6 : g1 (ad a 6) = g (ad a 6) := hI.1 _ (by unfold ad; omega)
    have e8 : g1 w 6 = g a 8 := hI.2.1
    have hs : (s : Int) < g a 5 := by omega
    have hln := w_ln hW hs
    have hle : sumL (vwC g a) (s + 1) ≤ g a 8 := by
      have h1 := sumL_le (V := vwC g a) (m := g a 5) (fun j hj => w_ln hW hj) (s := s + 1) ((g a 5).toNat - (s + 1)) (by omega)
      rw [show s + 1 + ((g a 5).toNat - (s + 1)) = (g a 5).toNat by omega, w_sum hW] at h1
      omega
    have hsu : sumL (vwC g a) (s + 1) = sumL (vwC g a) s + g (ad a 6) s := rfl
    have hmin : min ((f : Int) + g (ad a 6) s) (g a 8) = sumL (vwC g a) (s + 1) := by omega
    have k1 := prepare_inner (zt := zt) hS hA hd hW hs hle (Q := Q) (fun g2 o f2 q1 q2 => ih (s + 1) f2 g2 o (by omega) q1 q2) (sumL (vwC g a) (s + 1) - f).toNat f g1 (by omega) (by omega) hI
    rw [P_P_prepare_41]
    simp only [m_P_prepare, b_P_prepare_0, P_P_prepare_90, b_P_prepare_90, P_P_prepare_96, b_P_prepare_96, wp_abs, wp_aln0, wp_aln1, wp_copy, wp_cs1, wp_cs2, wp_cs3, wp_cs4, wp_cs5, wp_cs6, wp_cs7, wp_cv1, wp_cv2, wp_cv3, wp_cv4, wp_cv5, wp_cv6, wp_cv7, wp_goto, wp_iadd, wp_iald, wp_icge, wp_iconst, wp_il4, wp_iln2, wp_iln3, wp_inc2, wp_inc3, wp_is4, wp_isn2, wp_isn3, wp_max, wp_min, wp_nop, wp_ret, qsc_kd, qsc_k1, qsc_l1, qsc_gf1, qsc_k2, qsc_l2, qsc_gf2, qsc_k3, qsc_l3, qsc_gf3, qsc_k4, qsc_l4, qsc_gf4, qsc_k5, qsc_l5, qsc_gf6, qsc_k6, qsc_l6, qsc_gf7, qsc_k7, qsc_l7, qsc_gf9, qsc_k8, qsc_l8, qsc_gf10, qsc_gf0, qsc_pf0, qsc_gf5, qsc_pf5, qsc_gf8, qsc_pf8, qpl_kd, qpl_k1, qpl_l1, qpl_gf0, qpl_k2, qpl_l2, qpl_gf1, qpl_k3, qpl_l3, qpl_gf2, qpl_k4, qpl_l4, qpl_gf3, qpl_k5, qpl_l5, qpl_gf4, qpl_k6, qpl_l6, qpl_gf5, qpl_gf6, qpl_pf6, qpl_gf7, qpl_pf7, qpl_gf8, qpl_pf8, wrI_row, cpI_row, row_s, row_n, row_ss, row_sw, upd_s, upd_n, ad_inj, ad_z, ad_z2, Nat.reduceEqDiff, reduceCtorEq, List.cons_append, List.nil_append, Option.toList_some, Option.toList_none, Int.toNat_natCast, List.length_cons, List.length_nil, Int.cast_ofNat_Int, Nat.reduceAdd, Nat.reduceLeDiff, Nat.reduceLT, Nat.reduceMul, Int.reduceAdd, Int.reduceSub, Int.reduceMul, Int.reduceNeg, Int.reduceLT, Int.reduceLE, Int.reduceEq, Int.reduceToNat, eq_self, true_and, and_true, true_or, or_true, false_or, or_false, if_true, if_false, not_true_eq_false, not_false_eq_true, and_self, ne_eq, b_P_prepare_41, hS, hA, e0, e6, e8, hmin]
    (repeat' (first | apply And.intro | split)) <;> first | omega | exact k1
theorem prepare_ok (hS : isSc ρ a) (hA : isPl ρ w) (hd : a + 9 ≤ w ∨ w + 9 ≤ a) (hW : WFV (-99) (vwC g a)) {Q : Option AV → Sto → Prop} (hQ : ∀ g2 : Nat → Nat → Int, (∀ x, (x < w ∨ w + 7 ≤ x) → g2 x = g x) → plI g2 w (g a 8).toNat (g a 0).toNat (g (ad a 4) 1).toNat (cstV (-99) (vwC g a)) (clsV (vwC g a) (g (ad a 4) 0)) → Q none (g2, ρ)) : WpM zt 4 [AR w, AR a] (g, ρ) Q := by
  have hG := w_G hW
  have hM := w_M hW
  have hF := w_F hW
  have hN := w_nm hW
  have c0 : (a = w) ↔ False := iff_false_intro (by omega)
  have c4 : (ad a 4 = w) ↔ False := iff_false_intro (by unfold ad; omega)
  simp only [m_P_prepare, b_P_prepare_0, P_P_prepare_90, b_P_prepare_90, P_P_prepare_96, b_P_prepare_96, wp_abs, wp_aln0, wp_aln1, wp_copy, wp_cs1, wp_cs2, wp_cs3, wp_cs4, wp_cs5, wp_cs6, wp_cs7, wp_cv1, wp_cv2, wp_cv3, wp_cv4, wp_cv5, wp_cv6, wp_cv7, wp_goto, wp_iadd, wp_iald, wp_icge, wp_iconst, wp_il4, wp_iln2, wp_iln3, wp_inc2, wp_inc3, wp_is4, wp_isn2, wp_isn3, wp_max, wp_min, wp_nop, wp_ret, qsc_kd, qsc_k1, qsc_l1, qsc_gf1, qsc_k2, qsc_l2, qsc_gf2, qsc_k3, qsc_l3, qsc_gf3, qsc_k4, qsc_l4, qsc_gf4, qsc_k5, qsc_l5, qsc_gf6, qsc_k6, qsc_l6, qsc_gf7, qsc_k7, qsc_l7, qsc_gf9, qsc_k8, qsc_l8, qsc_gf10, qsc_gf0, qsc_pf0, qsc_gf5, qsc_pf5, qsc_gf8, qsc_pf8, qpl_kd, qpl_k1, qpl_l1, qpl_gf0, qpl_k2, qpl_l2, qpl_gf1, qpl_k3, qpl_l3, qpl_gf2, qpl_k4, qpl_l4, qpl_gf3, qpl_k5, qpl_l5, qpl_gf4, qpl_k6, qpl_l6, qpl_gf5, qpl_gf6, qpl_pf6, qpl_gf7, qpl_pf7, qpl_gf8, qpl_pf8, wrI_row, cpI_row, row_s, row_n, row_ss, row_sw, upd_s, upd_n, ad_inj, ad_z, ad_z2, Nat.reduceEqDiff, reduceCtorEq, List.cons_append, List.nil_append, Option.toList_some, Option.toList_none, Int.toNat_natCast, List.length_cons, List.length_nil, Int.cast_ofNat_Int, Nat.reduceAdd, Nat.reduceLeDiff, Nat.reduceLT, Nat.reduceMul, Int.reduceAdd, Int.reduceSub, Int.reduceMul, Int.reduceNeg, Int.reduceLT, Int.reduceLE, Int.reduceEq, Int.reduceToNat, eq_self, true_and, and_true, true_or, or_true, false_or, or_false, if_true, if_false, not_true_eq_false, not_false_eq_true, and_self, ne_eq, hS, hA, c0, c4]
  have hv : vwC (setRow g w (upd1 (upd1 (upd1 (g w) 6 (g a 8)) 7 (g a 0)) 8 (g (ad a 4) 1))) a = vwC g a := vwC_kept (fun x q1 q2 => row_n (by omega))
  have ea : setRow g w (upd1 (upd1 (upd1 (g w) 6 (g a 8)) 7 (g a 0)) 8 (g (ad a 4) 1)) a = g a := row_n (by omega)
  refine useSpeed_ok hS hA hd (by rw [hv]; exact hW) (by rw [ea, row_s]; simp only [upd1]; rfl) (by omega) (fun R hR => ?_)
  rw [hv, ea] at hR
  have k1 := prepare_loop (zt := zt) (g := g) (Q := Q) hS hA hd hW (fun g2 hI => hQ g2 hI.1 ⟨by rw [hI.2.1]; omega, by rw [hI.2.2.1]; omega, by rw [hI.2.2.2.1]; omega, fun f m q1 q2 => hI.2.2.2.2.2 f m q1 (by omega), fun x y q1 q2 => hI.2.2.2.2.1 x y (by omega) (by omega)⟩) (g a 5).toNat 0 0 (setRow (setRow g w (upd1 (upd1 (upd1 (g w) 6 (g a 8)) 7 (g a 0)) 8 (g (ad a 4) 1))) (ad w 3) R) none (by omega) rfl (by
    refine ⟨fun x q => ?_, ?_, ?_, ?_, ?_, fun f' m z1 z2 => by omega⟩
    · rw [row_n (by unfold ad; omega), row_n (by omega)]
    · rw [row_n (by unfold ad; omega), row_s]
      simp only [upd1]
      rfl
    · rw [row_n (by unfold ad; omega), row_s]
      simp only [upd1]
      rfl
    · rw [row_n (by unfold ad; omega), row_s]
      simp only [upd1]
      rfl
    · rw [row_s]
      exact hR)
  simp only [m_P_prepare, b_P_prepare_0, P_P_prepare_90, b_P_prepare_90, P_P_prepare_96, b_P_prepare_96, wp_abs, wp_aln0, wp_aln1, wp_copy, wp_cs1, wp_cs2, wp_cs3, wp_cs4, wp_cs5, wp_cs6, wp_cs7, wp_cv1, wp_cv2, wp_cv3, wp_cv4, wp_cv5, wp_cv6, wp_cv7, wp_goto, wp_iadd, wp_iald, wp_icge, wp_iconst, wp_il4, wp_iln2, wp_iln3, wp_inc2, wp_inc3, wp_is4, wp_isn2, wp_isn3, wp_max, wp_min, wp_nop, wp_ret, qsc_kd, qsc_k1, qsc_l1, qsc_gf1, qsc_k2, qsc_l2, qsc_gf2, qsc_k3, qsc_l3, qsc_gf3, qsc_k4, qsc_l4, qsc_gf4, qsc_k5, qsc_l5, qsc_gf6, qsc_k6, qsc_l6, qsc_gf7, qsc_k7, qsc_l7, qsc_gf9, qsc_k8, qsc_l8, qsc_gf10, qsc_gf0, qsc_pf0, qsc_gf5, qsc_pf5, qsc_gf8, qsc_pf8, qpl_kd, qpl_k1, qpl_l1, qpl_gf0, qpl_k2, qpl_l2, qpl_gf1, qpl_k3, qpl_l3, qpl_gf2, qpl_k4, qpl_l4, qpl_gf3, qpl_k5, qpl_l5, qpl_gf4, qpl_k6, qpl_l6, qpl_gf5, qpl_gf6, qpl_pf6, qpl_gf7, qpl_pf7, qpl_gf8, qpl_pf8, wrI_row, cpI_row, row_s, row_n, row_ss, row_sw, upd_s, upd_n, ad_inj, ad_z, ad_z2, Nat.reduceEqDiff, reduceCtorEq, List.cons_append, List.nil_append, Option.toList_some, Option.toList_none, Int.toNat_natCast, List.length_cons, List.length_nil, Int.cast_ofNat_Int, Nat.reduceAdd, Nat.reduceLeDiff, Nat.reduceLT, Nat.reduceMul, Int.reduceAdd, Int.reduceSub, Int.reduceMul, Int.reduceNeg, Int.reduceLT, Int.reduceLE, Int.reduceEq, Int.reduceToNat, eq_self, true_and, and_true, true_or, or_true, false_or, or_false, if_true, if_false, not_true_eq_false, not_false_eq_true, and_self, ne_eq, hS, hA]
  exact k1
end PRP
