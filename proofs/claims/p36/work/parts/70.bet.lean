/-! the law's method betweens -/
section XBE
variable {zt : Nat → Nat} {L : Nat} {g : Nat → Nat → Int} {ρ : Ri} {X : XV} {U : Vw}
theorem aminP_p {p : Nat → Bool} {f : Nat → Int} : ∀ n : Nat, aminP p f n = -1 ∨ (0 ≤ aminP p f n ∧ p (aminP p f n).toNat = true)
  | 0 => Or.inl rfl
  | n + 1 => by
    have h := aminP_p (p := p) (f := f) n
    show (if p n = true ∧ (aminP p f n = -1 ∨ f n < f (aminP p f n).toNat) then (n : Int) else aminP p f n) = -1 ∨ (0 ≤ (if p n = true ∧ (aminP p f n = -1 ∨ f n < f (aminP p f n).toNat) then (n : Int) else aminP p f n) ∧ p (if p n = true ∧ (aminP p f n = -1 ∨ f n < f (aminP p f n).toNat) then (n : Int) else aminP p f n).toNat = true)
    by_cases c : p n = true ∧ (aminP p f n = -1 ∨ f n < f (aminP p f n).toNat)
    · rw [if_pos c]
      exact Or.inr ⟨by omega, by rw [Int.toNat_natCast]; exact c.1⟩
    · rw [if_neg c]
      exact h
theorem nw_jmp (hU : WFV (-1) U) (x : Nat) (o w : Int) : jmpV U x (nwU U x o w) ≤ U 4 0 := by
  have b4 := hU.2.2.2.1
  unfold nwU
  rcases aminP_p (p := fun m => decide (jmpV U x m ≤ U 4 0)) (f := fun m => dstV U m o w) (U 0 0).toNat with h | h
  · rw [if_pos h, Int.toNat_natCast]
    have : jmpV U x x = 0 := by
      unfold jmpV dstV
      omega
    omega
  · rw [if_neg (by omega)]
    exact of_decide_eq_true h.2
theorem bt_jmp {s e : Nat} {n : Int} {f t : Nat} (x y : Nat) : jmpV (btU U s e n f t) x y = jmpV U x y := by
  unfold jmpV dstV
  rw [btU_n (by omega), btU_n (by omega), btU_n (by omega), btU_n (by omega)]
theorem btw_loop (hW : WFX X) {s e : Nat} {f t : Nat} (hft : f < t) (ht : (t : Int) < X.1.1 8 0) (hs : X.1.1 10 f = (s : Int)) (he : X.1.1 10 t = (e : Int)) {Q : Option AV → XV → Prop} (hQ : ∀ X', WFX X' → Q (some (AI 1)) X') {o1 o2 : Option AV} :
    ∀ (d i : Nat), f + 1 + i + d = t → Xp zt L (g, ρ) 92 (P 92 95) [some (AR L), o1, o2, some (AI t), some (AI (jmpV X.1.1 (btM X.1.1 s e ((t : Int) - f) (t - 1 - f)) e)), some (AI ((f : Int) + 1 + i))] [] (actX X (btU X.1.1 s e ((t : Int) - f) f t)) Q := by
  have hU := hW.1.1
  have b0 := hU.1
  have b4 := hU.2.2.2.1
  have b8 := hU.2.2.2.2.2.2.1
  have h9 := fun (j : Nat) (hj : (j : Int) < X.1.1 8 0) => (hU.2.2.2.2.2.2.2.2 j hj).2
  have hsb := h9 f (by omega)
  have heb := h9 t ht
  rw [hs] at hsb
  rw [he] at heb
  have hW1 : WFX (actX X (btU X.1.1 s e ((t : Int) - f) f t)) := actX_wf hW (btU_wf hU (by omega))
  have gk : ∀ k j, k ≠ 10 → (actX X (btU X.1.1 s e ((t : Int) - f) f t)).1.1 k j = X.1.1 k j := fun k j h => by
    show btU X.1.1 s e ((t : Int) - f) f t k j = X.1.1 k j
    exact btU_n h
  have g8 := gk 8 0 (by decide)
  have g0 := gk 0 0 (by decide)
  have g4 : sNumber 0 (actX X (btU X.1.1 s e ((t : Int) - f) f t)) = X.1.1 4 0 := gk 4 0 (by decide)
  have hm := fun i => btM_lt (U := X.1.1) hU (s := s) (e := e) (by omega) ((t : Int) - f) i
  have fr : ∀ i : Nat, f + i < t → sFrame ((f : Int) + i) 3 (actX X (btU X.1.1 s e ((t : Int) - f) f t)) = (btM X.1.1 s e ((t : Int) - f) i : Int) := fun i hi => by
    rw [sFr_3 (by rw [g8]; omega), show ((f : Int) + i).toNat = f + i by omega]
    show nn (-99) (btU X.1.1 s e ((t : Int) - f) f t 10 (f + i)) = _
    have e1 : btU X.1.1 s e ((t : Int) - f) f t 10 (f + i) = (btM X.1.1 s e ((t : Int) - f) i : Int) := by
      unfold btU
      by_cases c : i = 0
      · subst c
        rw [if_neg (by omega), Nat.add_zero, hs]
        rfl
      · rw [if_pos ⟨rfl, by omega, hi⟩, show f + i - f = i by omega]
    rw [e1]
    unfold nn
    rw [if_neg (by omega)]
  have ju : ∀ x y : Nat, (x : Int) < X.1.1 0 0 → (y : Int) < X.1.1 0 0 → sJump x y (actX X (btU X.1.1 s e ((t : Int) - f) f t)) = jmpV X.1.1 x y := fun x y hx hy => by
    rw [sJu_at (by rw [g0]; exact hx) (by rw [g0]; exact hy)]
    exact bt_jmp x y
  intro d
  induction d with
  | zero =>
    intro i hi
    have q := hQ _ hW1
    have ei : (f : Int) + 1 + i = t := by omega
    have et : t - 1 - f = i := by omega
    rw [ei, et]
    have f1 := fr i (by omega)
    rw [show (f : Int) + i = (t : Int) - 1 by omega] at f1
    have f2 : sFrame t 3 (actX X (btU X.1.1 s e ((t : Int) - f) f t)) = (e : Int) := by
      rw [sFr_3 (by rw [g8]; omega), Int.toNat_natCast]
      show nn (-99) (btU X.1.1 s e ((t : Int) - f) f t 10 t) = _
      have e1 : btU X.1.1 s e ((t : Int) - f) f t 10 t = (e : Int) := by
        unfold btU
        rw [if_neg (by omega), he]
      rw [e1]
      unfold nn
      rw [if_neg (by omega)]
    have mi := hm i
    have j1 := ju _ e mi (by omega)
    have jb := jmpV_b hU mi (y := e) (by omega)
    rw [P_W_betweens_95]
    simp only [xm_W_betweens, b_W_betweens_0, P_W_betweens_41, b_W_betweens_41, P_W_betweens_42, b_W_betweens_42, P_W_betweens_43, b_W_betweens_43, P_W_betweens_65, b_W_betweens_65, P_W_betweens_80, b_W_betweens_80, P_W_betweens_81, b_W_betweens_81, P_W_betweens_82, b_W_betweens_82, P_W_betweens_141, b_W_betweens_141, P_W_betweens_143, b_W_betweens_143, P_W_betweens_149, b_W_betweens_149, P_W_betweens_176, b_W_betweens_176, P_W_betweens_177, b_W_betweens_177, x_low, xp_aln0, xp_bipush, xp_cs1, xp_cs2, xp_cs3, xp_goto, xp_iadd, xp_iceq, xp_icge, xp_icle, xp_iclt, xp_icne, xp_iconst, xp_il4, xp_il5, xp_iln1, xp_iln2, xp_iln3, xp_inc5, xp_iret, xp_is4, xp_is5, xp_ishr, xp_isn2, xp_isn3, xp_isub, xp_nop, xp_zret, xv_between, xv_count, xv_frame, xv_jump, xv_number, wrI_row, cpI_row, row_s, row_n, row_ss, row_sw, upd_s, upd_n, ad_inj, ad_z, ad_z2, Nat.reduceEqDiff, reduceCtorEq, List.cons_append, List.nil_append, Option.toList_some, Option.toList_none, Int.toNat_natCast, List.length_cons, List.length_nil, Int.cast_ofNat_Int, Nat.reduceAdd, Nat.reduceLeDiff, Nat.reduceLT, Nat.reduceMul, Int.reduceAdd, Int.reduceSub, Int.reduceMul, Int.reduceNeg, Int.reduceLT, Int.reduceLE, Int.reduceEq, Int.reduceToNat, eq_self, true_and, and_true, true_or, or_true, false_or, or_false, if_true, if_false, not_true_eq_false, not_false_eq_true, and_self, ne_eq, b_W_betweens_95, f1, f2, j1, Int.le_refl]
    (repeat' (first | apply And.intro | split)) <;> first | omega | exact q
  | succ d ih =>
    intro i hi
    have i1 := ih (i + 1) (by omega)
    have f1 := fr i (by omega)
    have f2 := fr (i + 1) (by omega)
    have e2 : (f : Int) + ((i + 1 : Nat) : Int) = (f : Int) + 1 + i := by omega
    have e1 : (f : Int) + 1 + i - 1 = (f : Int) + i := by omega
    have e3 : (f : Int) + 1 + ((i + 1 : Nat) : Int) = (f : Int) + 1 + i + 1 := by omega
    rw [e2] at f2
    rw [e3] at i1
    have mi := hm i
    have mi1 := hm (i + 1)
    have j1 := ju _ _ mi mi1
    have jb := jmpV_b hU mi mi1
    have jle : jmpV X.1.1 (btM X.1.1 s e ((t : Int) - f) i) (btM X.1.1 s e ((t : Int) - f) (i + 1)) ≤ X.1.1 4 0 := nw_jmp hU _ _ _
    have c1 : ¬ (t : Int) ≤ (f : Int) + 1 + i := by omega
    have c2 : ¬ ((btM X.1.1 s e ((t : Int) - f) (i + 1) : Nat) : Int) = -99 := by omega
    rw [P_W_betweens_95]
    simp only [xm_W_betweens, b_W_betweens_0, P_W_betweens_41, b_W_betweens_41, P_W_betweens_42, b_W_betweens_42, P_W_betweens_43, b_W_betweens_43, P_W_betweens_65, b_W_betweens_65, P_W_betweens_80, b_W_betweens_80, P_W_betweens_81, b_W_betweens_81, P_W_betweens_82, b_W_betweens_82, P_W_betweens_141, b_W_betweens_141, P_W_betweens_143, b_W_betweens_143, P_W_betweens_176, b_W_betweens_176, P_W_betweens_177, b_W_betweens_177, x_low, xp_aln0, xp_bipush, xp_cs1, xp_cs2, xp_cs3, xp_goto, xp_iadd, xp_iceq, xp_icge, xp_icle, xp_iclt, xp_icne, xp_iconst, xp_il4, xp_il5, xp_iln1, xp_iln2, xp_iln3, xp_inc5, xp_iret, xp_is4, xp_is5, xp_ishr, xp_isn2, xp_isn3, xp_isub, xp_nop, xp_zret, xv_between, xv_count, xv_frame, xv_jump, xv_number, wrI_row, cpI_row, row_s, row_n, row_ss, row_sw, upd_s, upd_n, ad_inj, ad_z, ad_z2, Nat.reduceEqDiff, reduceCtorEq, List.cons_append, List.nil_append, Option.toList_some, Option.toList_none, Int.toNat_natCast, List.length_cons, List.length_nil, Int.cast_ofNat_Int, Nat.reduceAdd, Nat.reduceLeDiff, Nat.reduceLT, Nat.reduceMul, Int.reduceAdd, Int.reduceSub, Int.reduceMul, Int.reduceNeg, Int.reduceLT, Int.reduceLE, Int.reduceEq, Int.reduceToNat, eq_self, true_and, and_true, true_or, or_true, false_or, or_false, if_true, if_false, not_true_eq_false, not_false_eq_true, and_self, ne_eq, b_W_betweens_95, e1, f1, f2, j1, g4, c1, c2, jle]
    (repeat' (first | apply And.intro | split)) <;> first | omega | exact i1
set_option maxHeartbeats 4000000 in
theorem x_betweens (hW : WFX X) {y : Int} (hF : 0 < X.1.1 8 0) {Q : Option AV → XV → Prop} (hQ : ∀ X', WFX X' → Q (some (AI 1)) X') : XpM zt L (g, ρ) 92 [AR L, AI y] X Q := by
  have hU := hW.1.1
  have b0 := hU.1
  have b8 := hU.2.2.2.2.2.2.1
  have f1 := lowI_b (v := y) (n := X.1.1 8 0) hF
  have f2 := lowI_b (v := shrI y 4) (n := X.1.1 8 0) hF
  obtain ⟨f, hf⟩ : ∃ f : Nat, lowI y (X.1.1 8 0) = (f : Int) := ⟨(lowI y (X.1.1 8 0)).toNat, by omega⟩
  obtain ⟨t, ht⟩ : ∃ t : Nat, lowI (shrI y 4) (X.1.1 8 0) = (t : Int) := ⟨(lowI (shrI y 4) (X.1.1 8 0)).toNat, by omega⟩
  rw [hf] at f1
  rw [ht] at f2
  have q := hQ X hW
  by_cases c : (f : Int) < (t : Int)
  · have ct := eq_true c
    have h9f := (hU.2.2.2.2.2.2.2.2 f f1.2).2
    have h9t := (hU.2.2.2.2.2.2.2.2 t f2.2).2
    have nf := nn_b (x := X.1.1 10 f) (by omega)
    have nt := nn_b (x := X.1.1 10 t) (by omega)
    have s1 : sFrame f 3 X = nn (-99) (X.1.1 10 f) := by rw [sFr_3 f1, Int.toNat_natCast]
    have s2 : sFrame t 3 X = nn (-99) (X.1.1 10 t) := by rw [sFr_3 f2, Int.toNat_natCast]
    by_cases cf : X.1.1 10 f = -1
    · have qb : sBetween f t X = (-2, X) := by
        unfold sBetween
        rw [if_pos ⟨f1, f2, c⟩, Int.toNat_natCast, Int.toNat_natCast, if_pos (Or.inl cf)]
      rw [nf.2.1.2 cf] at s1
      simp only [xm_W_betweens, b_W_betweens_0, P_W_betweens_41, b_W_betweens_41, P_W_betweens_42, b_W_betweens_42, P_W_betweens_43, b_W_betweens_43, P_W_betweens_65, b_W_betweens_65, P_W_betweens_80, b_W_betweens_80, P_W_betweens_81, b_W_betweens_81, P_W_betweens_82, b_W_betweens_82, P_W_betweens_141, b_W_betweens_141, P_W_betweens_143, b_W_betweens_143, P_W_betweens_149, b_W_betweens_149, P_W_betweens_176, b_W_betweens_176, P_W_betweens_177, b_W_betweens_177, x_low, xp_aln0, xp_bipush, xp_cs1, xp_cs2, xp_cs3, xp_goto, xp_iadd, xp_iceq, xp_icge, xp_icle, xp_iclt, xp_icne, xp_iconst, xp_il4, xp_il5, xp_iln1, xp_iln2, xp_iln3, xp_inc5, xp_iret, xp_is4, xp_is5, xp_ishr, xp_isn2, xp_isn3, xp_isub, xp_nop, xp_zret, xv_between, xv_count, xv_frame, xv_jump, xv_number, wrI_row, cpI_row, row_s, row_n, row_ss, row_sw, upd_s, upd_n, ad_inj, ad_z, ad_z2, Nat.reduceEqDiff, reduceCtorEq, List.cons_append, List.nil_append, Option.toList_some, Option.toList_none, Int.toNat_natCast, List.length_cons, List.length_nil, Int.cast_ofNat_Int, Nat.reduceAdd, Nat.reduceLeDiff, Nat.reduceLT, Nat.reduceMul, Int.reduceAdd, Int.reduceSub, Int.reduceMul, Int.reduceNeg, Int.reduceLT, Int.reduceLE, Int.reduceEq, Int.reduceToNat, eq_self, true_and, and_true, true_or, or_true, false_or, or_false, if_true, if_false, not_true_eq_false, not_false_eq_true, and_self, ne_eq, sCt_2, hf, ht, ct, s1, s2, qb]
      (repeat' (first | apply And.intro | split)) <;> first | omega | exact q
    · have zf : ¬ X.1.1 10 f = -99 := by omega
      rw [nf.2.2 cf] at s1
      by_cases ce : X.1.1 10 t = -1
      · have qb : sBetween f t X = (-2, X) := by
          unfold sBetween
          rw [if_pos ⟨f1, f2, c⟩, Int.toNat_natCast, Int.toNat_natCast, if_pos (Or.inr ce)]
        rw [nt.2.1.2 ce] at s2
        simp only [xm_W_betweens, b_W_betweens_0, P_W_betweens_41, b_W_betweens_41, P_W_betweens_42, b_W_betweens_42, P_W_betweens_43, b_W_betweens_43, P_W_betweens_65, b_W_betweens_65, P_W_betweens_80, b_W_betweens_80, P_W_betweens_81, b_W_betweens_81, P_W_betweens_82, b_W_betweens_82, P_W_betweens_141, b_W_betweens_141, P_W_betweens_143, b_W_betweens_143, P_W_betweens_149, b_W_betweens_149, P_W_betweens_176, b_W_betweens_176, P_W_betweens_177, b_W_betweens_177, x_low, xp_aln0, xp_bipush, xp_cs1, xp_cs2, xp_cs3, xp_goto, xp_iadd, xp_iceq, xp_icge, xp_icle, xp_iclt, xp_icne, xp_iconst, xp_il4, xp_il5, xp_iln1, xp_iln2, xp_iln3, xp_inc5, xp_iret, xp_is4, xp_is5, xp_ishr, xp_isn2, xp_isn3, xp_isub, xp_nop, xp_zret, xv_between, xv_count, xv_frame, xv_jump, xv_number, wrI_row, cpI_row, row_s, row_n, row_ss, row_sw, upd_s, upd_n, ad_inj, ad_z, ad_z2, Nat.reduceEqDiff, reduceCtorEq, List.cons_append, List.nil_append, Option.toList_some, Option.toList_none, Int.toNat_natCast, List.length_cons, List.length_nil, Int.cast_ofNat_Int, Nat.reduceAdd, Nat.reduceLeDiff, Nat.reduceLT, Nat.reduceMul, Int.reduceAdd, Int.reduceSub, Int.reduceMul, Int.reduceNeg, Int.reduceLT, Int.reduceLE, Int.reduceEq, Int.reduceToNat, eq_self, true_and, and_true, true_or, or_true, false_or, or_false, if_true, if_false, not_true_eq_false, not_false_eq_true, and_self, ne_eq, sCt_2, hf, ht, ct, s1, s2, qb, zf]
        (repeat' (first | apply And.intro | split)) <;> first | omega | exact q
      · have ze : ¬ X.1.1 10 t = -99 := by omega
        rw [nt.2.2 ce] at s2
        obtain ⟨s, hs⟩ : ∃ s : Nat, X.1.1 10 f = (s : Int) := ⟨(X.1.1 10 f).toNat, by omega⟩
        obtain ⟨e, he⟩ : ∃ e : Nat, X.1.1 10 t = (e : Int) := ⟨(X.1.1 10 t).toNat, by omega⟩
        have qb : sBetween f t X = (jmpV X.1.1 (btM X.1.1 s e ((t : Int) - f) (t - 1 - f)) e, actX X (btU X.1.1 s e ((t : Int) - f) f t)) := by
          unfold sBetween
          rw [if_pos ⟨f1, f2, c⟩, Int.toNat_natCast, Int.toNat_natCast, if_neg (by omega), hs, he, Int.toNat_natCast, Int.toNat_natCast]
        have lp := btw_loop (zt := zt) (L := L) (g := g) (ρ := ρ) hW (f := f) (t := t) (by omega) f2.2 hs he hQ (o1 := some (AI y)) (o2 := some (AI f)) (t - (f + 1)) 0 (by omega)
        have e0 : (f : Int) + 1 + ((0 : Nat) : Int) = (f : Int) + 1 := by omega
        rw [e0] at lp
        simp only [xm_W_betweens, b_W_betweens_0, P_W_betweens_41, b_W_betweens_41, P_W_betweens_42, b_W_betweens_42, P_W_betweens_43, b_W_betweens_43, P_W_betweens_65, b_W_betweens_65, P_W_betweens_80, b_W_betweens_80, P_W_betweens_81, b_W_betweens_81, P_W_betweens_82, b_W_betweens_82, P_W_betweens_141, b_W_betweens_141, P_W_betweens_143, b_W_betweens_143, P_W_betweens_149, b_W_betweens_149, P_W_betweens_176, b_W_betweens_176, P_W_betweens_177, b_W_betweens_177, x_low, xp_aln0, xp_bipush, xp_cs1, xp_cs2, xp_cs3, xp_goto, xp_iadd, xp_iceq, xp_icge, xp_icle, xp_iclt, xp_icne, xp_iconst, xp_il4, xp_il5, xp_iln1, xp_iln2, xp_iln3, xp_inc5, xp_iret, xp_is4, xp_is5, xp_ishr, xp_isn2, xp_isn3, xp_isub, xp_nop, xp_zret, xv_between, xv_count, xv_frame, xv_jump, xv_number, wrI_row, cpI_row, row_s, row_n, row_ss, row_sw, upd_s, upd_n, ad_inj, ad_z, ad_z2, Nat.reduceEqDiff, reduceCtorEq, List.cons_append, List.nil_append, Option.toList_some, Option.toList_none, Int.toNat_natCast, List.length_cons, List.length_nil, Int.cast_ofNat_Int, Nat.reduceAdd, Nat.reduceLeDiff, Nat.reduceLT, Nat.reduceMul, Int.reduceAdd, Int.reduceSub, Int.reduceMul, Int.reduceNeg, Int.reduceLT, Int.reduceLE, Int.reduceEq, Int.reduceToNat, eq_self, true_and, and_true, true_or, or_true, false_or, or_false, if_true, if_false, not_true_eq_false, not_false_eq_true, and_self, ne_eq, sCt_2, hf, ht, ct, s1, s2, qb, zf, ze]
        (repeat' (first | apply And.intro | split)) <;> first | omega | exact lp
  · have qb : sBetween f t X = (-1, X) := if_neg (fun z => c z.2.2)
    simp only [xm_W_betweens, b_W_betweens_0, P_W_betweens_41, b_W_betweens_41, P_W_betweens_42, b_W_betweens_42, P_W_betweens_43, b_W_betweens_43, P_W_betweens_65, b_W_betweens_65, P_W_betweens_80, b_W_betweens_80, P_W_betweens_81, b_W_betweens_81, P_W_betweens_82, b_W_betweens_82, P_W_betweens_141, b_W_betweens_141, P_W_betweens_143, b_W_betweens_143, P_W_betweens_149, b_W_betweens_149, P_W_betweens_176, b_W_betweens_176, P_W_betweens_177, b_W_betweens_177, x_low, xp_aln0, xp_bipush, xp_cs1, xp_cs2, xp_cs3, xp_goto, xp_iadd, xp_iceq, xp_icge, xp_icle, xp_iclt, xp_icne, xp_iconst, xp_il4, xp_il5, xp_iln1, xp_iln2, xp_iln3, xp_inc5, xp_iret, xp_is4, xp_is5, xp_ishr, xp_isn2, xp_isn3, xp_isub, xp_nop, xp_zret, xv_between, xv_count, xv_frame, xv_jump, xv_number, wrI_row, cpI_row, row_s, row_n, row_ss, row_sw, upd_s, upd_n, ad_inj, ad_z, ad_z2, Nat.reduceEqDiff, reduceCtorEq, List.cons_append, List.nil_append, Option.toList_some, Option.toList_none, Int.toNat_natCast, List.length_cons, List.length_nil, Int.cast_ofNat_Int, Nat.reduceAdd, Nat.reduceLeDiff, Nat.reduceLT, Nat.reduceMul, Int.reduceAdd, Int.reduceSub, Int.reduceMul, Int.reduceNeg, Int.reduceLT, Int.reduceLE, Int.reduceEq, Int.reduceToNat, eq_self, true_and, and_true, true_or, or_true, false_or, or_false, if_true, if_false, not_true_eq_false, not_false_eq_true, and_self, ne_eq, sCt_2, hf, ht, c, qb]
    (repeat' (first | apply And.intro | split)) <;> first | omega | exact q
end XBE
