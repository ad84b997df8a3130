/-! the law's method inserts -/
section XIN
variable {zt : Nat → Nat} {L : Nat} {g : Nat → Nat → Int} {ρ : Ri} {X : XV} {U : Vw}
theorem ins_last {k : Nat} (hk : k = 9 ∨ k = 10) {p m : Nat} {kd : Int} (hU : WFV (-1) U) (hp : (p : Int) < U 5 0) {f : Nat} (hf : (f : Int) = U 8 0 - 1) : insV U p kd m k (f + m) = U k f := by
  have h1 := sumL_at2 hU hp
  have h2 := seg_ln hU hp
  have key : ∀ r : Nat → Int, opnR r (sumL U p).toNat m (f + m) = r f := fun r => by
    unfold opnR
    rw [if_neg (by omega), if_neg (by omega)]
    congr 1
    omega
  rcases hk with rfl | rfl
  · exact key (U 9)
  · exact key (U 10)
theorem ins_new {p m : Nat} {kd : Int} (hm : 1 ≤ m) : insV U p kd m 9 (sumL U p).toNat = -1 := by
  show opnR (U 9) (sumL U p).toNat m (sumL U p).toNat = -1
  unfold opnR
  rw [if_neg (by omega), if_pos (by omega)]
theorem ins_sum {p m : Nat} {kd : Int} : sumL (insV U p kd m) p = sumL U p := by rw [sumL_ins, if_pos (Nat.le_refl _)]
theorem ins_kd {p m : Nat} {kd : Int} : insV U p kd m 6 p = kd ∧ insV U p kd m 7 p = m := by
  show insR (U 6) p kd p = kd ∧ insR (U 7) p m p = m
  unfold insR
  refine ⟨?_, ?_⟩
  · rw [if_neg (by omega), if_pos rfl]
  · rw [if_neg (by omega), if_pos rfl]
theorem ins_del {k : Nat} (hk : k = 9 ∨ k = 10) {p m : Nat} {kd : Int} (hU : WFV (-1) U) (hp : (p : Int) ≤ U 5 0) (f : Nat) : delV (insV U p kd m) p k f = U k f := by
  have e1 : insV U p kd m 7 p = m := ins_kd.2
  have e2 : sumL (insV U p kd m) p = sumL U p := ins_sum
  have key : ∀ r : Nat → Int, clsR (opnR r (sumL U p).toNat m) (sumL U p).toNat m f = r f := fun r => by
    unfold clsR opnR
    by_cases c : f < (sumL U p).toNat
    · rw [if_pos c, if_pos c]
    · rw [if_neg c, if_neg (by omega), if_neg (by omega)]
      congr 1
      omega
  rcases hk with rfl | rfl
  · show clsR (insV U p kd m 9) (sumL (insV U p kd m) p).toNat (insV U p kd m 7 p).toNat f = _
    rw [e1, e2, Int.toNat_natCast]
    exact key (U 9)
  · show clsR (insV U p kd m 10) (sumL (insV U p kd m) p).toNat (insV U p kd m 7 p).toNat f = _
    rw [e1, e2, Int.toNat_natCast]
    exact key (U 10)
theorem nnv_b (hU : WFV (-1) U) {k f : Nat} (hk : k = 9 ∨ k = 10) (hf : (f : Int) < U 8 0) : -99 ≤ nn (-99) (U k f) ∧ nn (-99) (U k f) ≤ 8 := by
  have h := hU.2.2.2.2.2.2.2.2 f hf
  have b0 := hU.1
  rcases hk with rfl | rfl
  · exact (nn_b (by omega)).1
  · exact (nn_b (by omega)).1
set_option maxRecDepth 100000 in
set_option maxHeartbeats 4000000 in
theorem x_inserts (hW : WFX X) {x y : Int} {Q : Option AV → XV → Prop} (hQ : ∀ X', WFX X' → Q (some (AI 1)) X') : XpM zt L (g, ρ) 91 [AR L, AI x, AI y] X Q := by
  have hU := hW.1.1
  have b0 := hU.1
  have b5 := hU.2.2.2.2.1
  have b8 := hU.2.2.2.2.2.2.1
  have f1 := lowI_b (v := y) (n := X.1.1 5 0 + 1) (by omega)
  have f2 := lowI_b (v := shrI y 3) (n := 10) (by omega)
  have f3 := lowI_b (v := shrI y 6) (n := 7) (by omega)
  obtain ⟨p, hp⟩ : ∃ p : Nat, lowI y (X.1.1 5 0 + 1) = (p : Int) := ⟨(lowI y (X.1.1 5 0 + 1)).toNat, by omega⟩
  obtain ⟨m, hm⟩ : ∃ m : Nat, 1 + lowI (shrI y 6) 7 = (m : Int) := ⟨(1 + lowI (shrI y 6) 7).toNat, by omega⟩
  rw [hp] at f1
  have hm7 : 1 ≤ m ∧ m ≤ 7 := by omega
  generalize hkd : lowI (shrI y 3) 10 = kd at *
  by_cases c : X.1.1 5 0 = 30 ∨ 99 < X.1.1 8 0 + m
  · have qi : sInsert p kd m X = (-3, X) := by
      unfold sInsert
      rw [if_pos ⟨by omega, by omega, by omega⟩, if_neg (by omega)]
    have q := hQ X hW
    by_cases c1 : X.1.1 5 0 = 30
    · have c1t := eq_true c1
      simp only [xm_W_inserts, b_W_inserts_0, P_W_inserts_61, b_W_inserts_61, P_W_inserts_80, b_W_inserts_80, P_W_inserts_81, b_W_inserts_81, P_W_inserts_82, b_W_inserts_82, P_W_inserts_92, b_W_inserts_92, P_W_inserts_101, b_W_inserts_101, P_W_inserts_113, b_W_inserts_113, P_W_inserts_122, b_W_inserts_122, P_W_inserts_183, b_W_inserts_183, P_W_inserts_185, b_W_inserts_185, P_W_inserts_225, b_W_inserts_225, P_W_inserts_229, b_W_inserts_229, P_W_inserts_230, b_W_inserts_230, P_W_inserts_289, b_W_inserts_289, P_W_inserts_293, b_W_inserts_293, P_W_inserts_294, b_W_inserts_294, x_low, xp_aln0, xp_bipush, xp_cs1, xp_cs2, xp_cs3, xp_goto, xp_iadd, xp_iceq, xp_icle, xp_icne, xp_iconst, xp_il10, xp_il4, xp_il5, xp_il6, xp_il7, xp_il8, xp_il9, xp_iln1, xp_iln2, xp_iln3, xp_iret, xp_is10, xp_is4, xp_is5, xp_is6, xp_is7, xp_is8, xp_is9, xp_ishr, xp_isn3, xp_isub, xp_izeq, xp_izgt, xp_izne, xp_nop, xp_zret, xv_count, xv_frame, xv_insert, xv_remove, xv_segment, wrI_row, cpI_row, row_s, row_n, row_ss, row_sw, upd_s, upd_n, ad_inj, ad_z, ad_z2, Nat.reduceEqDiff, reduceCtorEq, List.cons_append, List.nil_append, Option.toList_some, Option.toList_none, Int.toNat_natCast, List.length_cons, List.length_nil, Int.cast_ofNat_Int, Nat.reduceAdd, Nat.reduceLeDiff, Nat.reduceLT, Nat.reduceMul, Int.reduceAdd, Int.reduceSub, Int.reduceMul, Int.reduceNeg, Int.reduceLT, Int.reduceLE, Int.reduceEq, Int.reduceToNat, eq_self, true_and, and_true, true_or, or_true, false_or, or_false, if_true, if_false, not_true_eq_false, not_false_eq_true, and_self, ne_eq, sCt_1, sCt_2, hp, hkd, hm, qi, c1t]
      (repeat' (first | apply And.intro | split)) <;> first | omega | exact q
    · have c2 : ¬ X.1.1 8 0 + m ≤ 99 := by omega
      simp only [xm_W_inserts, b_W_inserts_0, P_W_inserts_61, b_W_inserts_61, P_W_inserts_80, b_W_inserts_80, P_W_inserts_81, b_W_inserts_81, P_W_inserts_82, b_W_inserts_82, P_W_inserts_92, b_W_inserts_92, P_W_inserts_101, b_W_inserts_101, P_W_inserts_113, b_W_inserts_113, P_W_inserts_122, b_W_inserts_122, P_W_inserts_183, b_W_inserts_183, P_W_inserts_185, b_W_inserts_185, P_W_inserts_225, b_W_inserts_225, P_W_inserts_229, b_W_inserts_229, P_W_inserts_230, b_W_inserts_230, P_W_inserts_289, b_W_inserts_289, P_W_inserts_293, b_W_inserts_293, P_W_inserts_294, b_W_inserts_294, x_low, xp_aln0, xp_bipush, xp_cs1, xp_cs2, xp_cs3, xp_goto, xp_iadd, xp_iceq, xp_icle, xp_icne, xp_iconst, xp_il10, xp_il4, xp_il5, xp_il6, xp_il7, xp_il8, xp_il9, xp_iln1, xp_iln2, xp_iln3, xp_iret, xp_is10, xp_is4, xp_is5, xp_is6, xp_is7, xp_is8, xp_is9, xp_ishr, xp_isn3, xp_isub, xp_izeq, xp_izgt, xp_izne, xp_nop, xp_zret, xv_count, xv_frame, xv_insert, xv_remove, xv_segment, wrI_row, cpI_row, row_s, row_n, row_ss, row_sw, upd_s, upd_n, ad_inj, ad_z, ad_z2, Nat.reduceEqDiff, reduceCtorEq, List.cons_append, List.nil_append, Option.toList_some, Option.toList_none, Int.toNat_natCast, List.length_cons, List.length_nil, Int.cast_ofNat_Int, Nat.reduceAdd, Nat.reduceLeDiff, Nat.reduceLT, Nat.reduceMul, Int.reduceAdd, Int.reduceSub, Int.reduceMul, Int.reduceNeg, Int.reduceLT, Int.reduceLE, Int.reduceEq, Int.reduceToNat, eq_self, true_and, and_true, true_or, or_true, false_or, or_false, if_true, if_false, not_true_eq_false, not_false_eq_true, and_self, ne_eq, sCt_1, sCt_2, hp, hkd, hm, qi, c1, c2]
      (repeat' (first | apply And.intro | split)) <;> first | omega | exact q
  · have c1 : ¬ X.1.1 5 0 = 30 := by omega
    have c2 : X.1.1 8 0 + m ≤ 99 := by omega
    have qi : sInsert p kd m X = (X.1.1 8 0 + m, actX X (insV X.1.1 p kd m)) := by
      unfold sInsert
      rw [if_pos ⟨by omega, by omega, by omega⟩, if_pos (by omega), Int.toNat_natCast, Int.toNat_natCast]
    have hU1 : WFV (-1) (insV X.1.1 p kd m) := insV_wf hU (by omega) (by omega) (by omega) (by omega) (by omega)
    have hW1 : WFX (actX X (insV X.1.1 p kd m)) := actX_wf hW hU1
    have hsu := sumL_at hU (s := p) (by omega)
    have g5 : (actX X (insV X.1.1 p kd m)).1.1 5 0 = X.1.1 5 0 + 1 := rfl
    have g8 : (actX X (insV X.1.1 p kd m)).1.1 8 0 = X.1.1 8 0 + m := rfl
    have q0 : sSegment p 0 (actX X (insV X.1.1 p kd m)) = kd := by
      rw [sSeg_0 hW1.1.1 (by rw [g5]; omega)]
      exact (ins_kd (kd := kd) (m := m)).1
    have q1 : sSegment p 1 (actX X (insV X.1.1 p kd m)) = m := by
      rw [sSeg_1 hW1.1.1 (by rw [g5]; omega)]
      exact (ins_kd (kd := kd) (m := m)).2
    have q2 : sSegment p 2 (actX X (insV X.1.1 p kd m)) = sumL X.1.1 p := by
      rw [sSeg_2 hW1.1.1 (by rw [g5]; omega)]
      exact ins_sum
    have q3 : sFrame (sumL X.1.1 p) 2 (actX X (insV X.1.1 p kd m)) = -99 := by
      rw [sFr_2 (by rw [g8]; omega)]
      show nn (-99) (insV X.1.1 p kd m 9 (sumL X.1.1 p).toNat) = -99
      rw [ins_new hm7.1]
      rfl
    have qr : sRemove p (actX X (insV X.1.1 p kd m)) = (X.1.1 8 0, actX (actX X (insV X.1.1 p kd m)) (delV (insV X.1.1 p kd m) p)) := by
      unfold sRemove
      rw [if_pos ⟨by omega, by rw [g5]; omega⟩, Int.toNat_natCast]
      have e7 : (actX X (insV X.1.1 p kd m)).1.1 7 p = m := (ins_kd (kd := kd) (m := m)).2
      rw [g8, e7]
      refine Prod.ext ?_ rfl
      show X.1.1 8 0 + m - m = X.1.1 8 0
      omega
    have hU2 : WFV (-1) (delV (insV X.1.1 p kd m) p) := delV_wf hU1 (show (p : Int) < X.1.1 5 0 + 1 by omega)
    have hW2 : WFX (actX (actX X (insV X.1.1 p kd m)) (delV (insV X.1.1 p kd m) p)) := actX_wf hW1 hU2
    have k1 := hQ _ hW1
    have k2 := hQ _ hW2
    have gd8 : (actX (actX X (insV X.1.1 p kd m)) (delV (insV X.1.1 p kd m) p)).1.1 8 0 = X.1.1 8 0 := by
      show X.1.1 8 0 + m - insV X.1.1 p kd m 7 p = _
      rw [(ins_kd (kd := kd) (m := m)).2]
      omega
    have hl3 := lowI_b (v := x) (n := 3) (by omega)
    have c2t := eq_true c2
    by_cases c0 : X.1.1 8 0 = 0
    · -- no frames ahead: the place is the end
      have hp0 : (p : Int) = X.1.1 5 0 := by
        by_cases e : (p : Int) = X.1.1 5 0
        · exact e
        · exfalso
          have h1 := sumL_at2 hU (s := p) (by omega)
          have h2 := seg_ln hU (j := p) (by omega)
          omega
      have c0t := eq_true c0
      have hp0t := eq_true hp0
      by_cases c3 : 0 < lowI x 3
      · have c3t := eq_true c3
        simp only [xm_W_inserts, b_W_inserts_0, P_W_inserts_61, b_W_inserts_61, P_W_inserts_80, b_W_inserts_80, P_W_inserts_81, b_W_inserts_81, P_W_inserts_82, b_W_inserts_82, P_W_inserts_92, b_W_inserts_92, P_W_inserts_101, b_W_inserts_101, P_W_inserts_113, b_W_inserts_113, P_W_inserts_122, b_W_inserts_122, P_W_inserts_183, b_W_inserts_183, P_W_inserts_185, b_W_inserts_185, P_W_inserts_225, b_W_inserts_225, P_W_inserts_229, b_W_inserts_229, P_W_inserts_230, b_W_inserts_230, P_W_inserts_289, b_W_inserts_289, P_W_inserts_293, b_W_inserts_293, P_W_inserts_294, b_W_inserts_294, x_low, xp_aln0, xp_bipush, xp_cs1, xp_cs2, xp_cs3, xp_goto, xp_iadd, xp_iceq, xp_icle, xp_icne, xp_iconst, xp_il10, xp_il4, xp_il5, xp_il6, xp_il7, xp_il8, xp_il9, xp_iln1, xp_iln2, xp_iln3, xp_iret, xp_is10, xp_is4, xp_is5, xp_is6, xp_is7, xp_is8, xp_is9, xp_ishr, xp_isn3, xp_isub, xp_izeq, xp_izgt, xp_izne, xp_nop, xp_zret, xv_count, xv_frame, xv_insert, xv_remove, xv_segment, wrI_row, cpI_row, row_s, row_n, row_ss, row_sw, upd_s, upd_n, ad_inj, ad_z, ad_z2, Nat.reduceEqDiff, reduceCtorEq, List.cons_append, List.nil_append, Option.toList_some, Option.toList_none, Int.toNat_natCast, List.length_cons, List.length_nil, Int.cast_ofNat_Int, Nat.reduceAdd, Nat.reduceLeDiff, Nat.reduceLT, Nat.reduceMul, Int.reduceAdd, Int.reduceSub, Int.reduceMul, Int.reduceNeg, Int.reduceLT, Int.reduceLE, Int.reduceEq, Int.reduceToNat, eq_self, true_and, and_true, true_or, or_true, false_or, or_false, if_true, if_false, not_true_eq_false, not_false_eq_true, and_self, ne_eq, sCt_1, sCt_2, hp, hkd, hm, qi, c1, c2t, c0t, hp0t, c3t, q0, q1, q2, q3]
        (repeat' (first | apply And.intro | split)) <;> first | omega | exact k1
      · simp only [xm_W_inserts, b_W_inserts_0, P_W_inserts_61, b_W_inserts_61, P_W_inserts_80, b_W_inserts_80, P_W_inserts_81, b_W_inserts_81, P_W_inserts_82, b_W_inserts_82, P_W_inserts_92, b_W_inserts_92, P_W_inserts_101, b_W_inserts_101, P_W_inserts_113, b_W_inserts_113, P_W_inserts_122, b_W_inserts_122, P_W_inserts_183, b_W_inserts_183, P_W_inserts_185, b_W_inserts_185, P_W_inserts_225, b_W_inserts_225, P_W_inserts_229, b_W_inserts_229, P_W_inserts_230, b_W_inserts_230, P_W_inserts_289, b_W_inserts_289, P_W_inserts_293, b_W_inserts_293, P_W_inserts_294, b_W_inserts_294, x_low, xp_aln0, xp_bipush, xp_cs1, xp_cs2, xp_cs3, xp_goto, xp_iadd, xp_iceq, xp_icle, xp_icne, xp_iconst, xp_il10, xp_il4, xp_il5, xp_il6, xp_il7, xp_il8, xp_il9, xp_iln1, xp_iln2, xp_iln3, xp_iret, xp_is10, xp_is4, xp_is5, xp_is6, xp_is7, xp_is8, xp_is9, xp_ishr, xp_isn3, xp_isub, xp_izeq, xp_izgt, xp_izne, xp_nop, xp_zret, xv_count, xv_frame, xv_insert, xv_remove, xv_segment, wrI_row, cpI_row, row_s, row_n, row_ss, row_sw, upd_s, upd_n, ad_inj, ad_z, ad_z2, Nat.reduceEqDiff, reduceCtorEq, List.cons_append, List.nil_append, Option.toList_some, Option.toList_none, Int.toNat_natCast, List.length_cons, List.length_nil, Int.cast_ofNat_Int, Nat.reduceAdd, Nat.reduceLeDiff, Nat.reduceLT, Nat.reduceMul, Int.reduceAdd, Int.reduceSub, Int.reduceMul, Int.reduceNeg, Int.reduceLT, Int.reduceLE, Int.reduceEq, Int.reduceToNat, eq_self, true_and, and_true, true_or, or_true, false_or, or_false, if_true, if_false, not_true_eq_false, not_false_eq_true, and_self, ne_eq, sCt_1, sCt_2, hp, hkd, hm, qi, c1, c2t, c0t, hp0t, c3, q0, q1, q2, q3, qr]
        (repeat' (first | apply And.intro | split)) <;> first | omega | exact k2
    · obtain ⟨f, hf⟩ : ∃ f : Nat, (f : Int) = X.1.1 8 0 - 1 := ⟨(X.1.1 8 0 - 1).toNat, by omega⟩
      have ef : (X.1.1 8 0 - 1).toNat = f := by omega
      have s2 : sFrame (X.1.1 8 0 - 1) 2 X = nn (-99) (X.1.1 9 f) := by rw [sFr_2 (by omega), ef]
      have s3 : sFrame (X.1.1 8 0 - 1) 3 X = nn (-99) (X.1.1 10 f) := by rw [sFr_3 (by omega), ef]
      have n2 := nnv_b hU (Or.inl rfl) (f := f) (by omega)
      have n3 := nnv_b hU (Or.inr rfl) (f := f) (by omega)
      have d2 : sFrame (X.1.1 8 0 - 1) 2 (actX (actX X (insV X.1.1 p kd m)) (delV (insV X.1.1 p kd m) p)) = nn (-99) (X.1.1 9 f) := by
        rw [sFr_2 (by rw [gd8]; omega), ef]
        show nn (-99) (delV (insV X.1.1 p kd m) p 9 f) = _
        rw [ins_del (Or.inl rfl) hU (by omega)]
      have d3 : sFrame (X.1.1 8 0 - 1) 3 (actX (actX X (insV X.1.1 p kd m)) (delV (insV X.1.1 p kd m) p)) = nn (-99) (X.1.1 10 f) := by
        rw [sFr_3 (by rw [gd8]; omega), ef]
        show nn (-99) (delV (insV X.1.1 p kd m) p 10 f) = _
        rw [ins_del (Or.inr rfl) hU (by omega)]
      by_cases hp0 : (p : Int) = X.1.1 5 0
      · have hp0t := eq_true hp0
        by_cases c3 : 0 < lowI x 3
        · have c3t := eq_true c3
          simp only [xm_W_inserts, b_W_inserts_0, P_W_inserts_61, b_W_inserts_61, P_W_inserts_80, b_W_inserts_80, P_W_inserts_81, b_W_inserts_81, P_W_inserts_82, b_W_inserts_82, P_W_inserts_92, b_W_inserts_92, P_W_inserts_101, b_W_inserts_101, P_W_inserts_113, b_W_inserts_113, P_W_inserts_122, b_W_inserts_122, P_W_inserts_183, b_W_inserts_183, P_W_inserts_185, b_W_inserts_185, P_W_inserts_225, b_W_inserts_225, P_W_inserts_229, b_W_inserts_229, P_W_inserts_230, b_W_inserts_230, P_W_inserts_289, b_W_inserts_289, P_W_inserts_293, b_W_inserts_293, P_W_inserts_294, b_W_inserts_294, x_low, xp_aln0, xp_bipush, xp_cs1, xp_cs2, xp_cs3, xp_goto, xp_iadd, xp_iceq, xp_icle, xp_icne, xp_iconst, xp_il10, xp_il4, xp_il5, xp_il6, xp_il7, xp_il8, xp_il9, xp_iln1, xp_iln2, xp_iln3, xp_iret, xp_is10, xp_is4, xp_is5, xp_is6, xp_is7, xp_is8, xp_is9, xp_ishr, xp_isn3, xp_isub, xp_izeq, xp_izgt, xp_izne, xp_nop, xp_zret, xv_count, xv_frame, xv_insert, xv_remove, xv_segment, wrI_row, cpI_row, row_s, row_n, row_ss, row_sw, upd_s, upd_n, ad_inj, ad_z, ad_z2, Nat.reduceEqDiff, reduceCtorEq, List.cons_append, List.nil_append, Option.toList_some, Option.toList_none, Int.toNat_natCast, List.length_cons, List.length_nil, Int.cast_ofNat_Int, Nat.reduceAdd, Nat.reduceLeDiff, Nat.reduceLT, Nat.reduceMul, Int.reduceAdd, Int.reduceSub, Int.reduceMul, Int.reduceNeg, Int.reduceLT, Int.reduceLE, Int.reduceEq, Int.reduceToNat, eq_self, true_and, and_true, true_or, or_true, false_or, or_false, if_true, if_false, not_true_eq_false, not_false_eq_true, and_self, ne_eq, sCt_1, sCt_2, hp, hkd, hm, qi, c1, c2t, c0, hp0t, c3t, q0, q1, q2, q3, s2, s3]
          (repeat' (first | apply And.intro | split)) <;> first | omega | exact k1
        · simp only [xm_W_inserts, b_W_inserts_0, P_W_inserts_61, b_W_inserts_61, P_W_inserts_80, b_W_inserts_80, P_W_inserts_81, b_W_inserts_81, P_W_inserts_82, b_W_inserts_82, P_W_inserts_92, b_W_inserts_92, P_W_inserts_101, b_W_inserts_101, P_W_inserts_113, b_W_inserts_113, P_W_inserts_122, b_W_inserts_122, P_W_inserts_183, b_W_inserts_183, P_W_inserts_185, b_W_inserts_185, P_W_inserts_225, b_W_inserts_225, P_W_inserts_229, b_W_inserts_229, P_W_inserts_230, b_W_inserts_230, P_W_inserts_289, b_W_inserts_289, P_W_inserts_293, b_W_inserts_293, P_W_inserts_294, b_W_inserts_294, x_low, xp_aln0, xp_bipush, xp_cs1, xp_cs2, xp_cs3, xp_goto, xp_iadd, xp_iceq, xp_icle, xp_icne, xp_iconst, xp_il10, xp_il4, xp_il5, xp_il6, xp_il7, xp_il8, xp_il9, xp_iln1, xp_iln2, xp_iln3, xp_iret, xp_is10, xp_is4, xp_is5, xp_is6, xp_is7, xp_is8, xp_is9, xp_ishr, xp_isn3, xp_isub, xp_izeq, xp_izgt, xp_izne, xp_nop, xp_zret, xv_count, xv_frame, xv_insert, xv_remove, xv_segment, wrI_row, cpI_row, row_s, row_n, row_ss, row_sw, upd_s, upd_n, ad_inj, ad_z, ad_z2, Nat.reduceEqDiff, reduceCtorEq, List.cons_append, List.nil_append, Option.toList_some, Option.toList_none, Int.toNat_natCast, List.length_cons, List.length_nil, Int.cast_ofNat_Int, Nat.reduceAdd, Nat.reduceLeDiff, Nat.reduceLT, Nat.reduceMul, Int.reduceAdd, Int.reduceSub, Int.reduceMul, Int.reduceNeg, Int.reduceLT, Int.reduceLE, Int.reduceEq, Int.reduceToNat, eq_self, true_and, and_true, true_or, or_true, false_or, or_false, if_true, if_false, not_true_eq_false, not_false_eq_true, and_self, ne_eq, sCt_1, sCt_2, hp, hkd, hm, qi, c1, c2t, c0, hp0t, c3, q0, q1, q2, q3, qr, s2, s3, d2, d3]
          (repeat' (first | apply And.intro | split)) <;> first | omega | exact k2
      · have em : (X.1.1 8 0 + m - 1).toNat = f + m := by omega
        have t2 : sFrame (X.1.1 8 0 + m - 1) 2 (actX X (insV X.1.1 p kd m)) = nn (-99) (X.1.1 9 f) := by
          rw [sFr_2 (by rw [g8]; omega), em]
          show nn (-99) (insV X.1.1 p kd m 9 (f + m)) = _
          rw [ins_last (Or.inl rfl) hU (by omega) hf]
        have t3 : sFrame (X.1.1 8 0 + m - 1) 3 (actX X (insV X.1.1 p kd m)) = nn (-99) (X.1.1 10 f) := by
          rw [sFr_3 (by rw [g8]; omega), em]
          show nn (-99) (insV X.1.1 p kd m 10 (f + m)) = _
          rw [ins_last (Or.inr rfl) hU (by omega) hf]
        by_cases c3 : 0 < lowI x 3
        · have c3t := eq_true c3
          simp only [xm_W_inserts, b_W_inserts_0, P_W_inserts_61, b_W_inserts_61, P_W_inserts_80, b_W_inserts_80, P_W_inserts_81, b_W_inserts_81, P_W_inserts_82, b_W_inserts_82, P_W_inserts_92, b_W_inserts_92, P_W_inserts_101, b_W_inserts_101, P_W_inserts_113, b_W_inserts_113, P_W_inserts_122, b_W_inserts_122, P_W_inserts_183, b_W_inserts_183, P_W_inserts_185, b_W_inserts_185, P_W_inserts_225, b_W_inserts_225, P_W_inserts_229, b_W_inserts_229, P_W_inserts_230, b_W_inserts_230, P_W_inserts_289, b_W_inserts_289, P_W_inserts_293, b_W_inserts_293, P_W_inserts_294, b_W_inserts_294, x_low, xp_aln0, xp_bipush, xp_cs1, xp_cs2, xp_cs3, xp_goto, xp_iadd, xp_iceq, xp_icle, xp_icne, xp_iconst, xp_il10, xp_il4, xp_il5, xp_il6, xp_il7, xp_il8, xp_il9, xp_iln1, xp_iln2, xp_iln3, xp_iret, xp_is10, xp_is4, xp_is5, xp_is6, xp_is7, xp_is8, xp_is9, xp_ishr, xp_isn3, xp_isub, xp_izeq, xp_izgt, xp_izne, xp_nop, xp_zret, xv_count, xv_frame, xv_insert, xv_remove, xv_segment, wrI_row, cpI_row, row_s, row_n, row_ss, row_sw, upd_s, upd_n, ad_inj, ad_z, ad_z2, Nat.reduceEqDiff, reduceCtorEq, List.cons_append, List.nil_append, Option.toList_some, Option.toList_none, Int.toNat_natCast, List.length_cons, List.length_nil, Int.cast_ofNat_Int, Nat.reduceAdd, Nat.reduceLeDiff, Nat.reduceLT, Nat.reduceMul, Int.reduceAdd, Int.reduceSub, Int.reduceMul, Int.reduceNeg, Int.reduceLT, Int.reduceLE, Int.reduceEq, Int.reduceToNat, eq_self, true_and, and_true, true_or, or_true, false_or, or_false, if_true, if_false, not_true_eq_false, not_false_eq_true, and_self, ne_eq, sCt_1, sCt_2, hp, hkd, hm, qi, c1, c2t, c0, hp0, c3t, q0, q1, q2, q3, s2, s3, t2, t3]
          (repeat' (first | apply And.intro | split)) <;> first | omega | exact k1
        · simp only [xm_W_inserts, b_W_inserts_0, P_W_inserts_61, b_W_inserts_61, P_W_inserts_80, b_W_inserts_80, P_W_inserts_81, b_W_inserts_81, P_W_inserts_82, b_W_inserts_82, P_W_inserts_92, b_W_inserts_92, P_W_inserts_101, b_W_inserts_101, P_W_inserts_113, b_W_inserts_113, P_W_inserts_122, b_W_inserts_122, P_W_inserts_183, b_W_inserts_183, P_W_inserts_185, b_W_inserts_185, P_W_inserts_225, b_W_inserts_225, P_W_inserts_229, b_W_inserts_229, P_W_inserts_230, b_W_inserts_230, P_W_inserts_289, b_W_inserts_289, P_W_inserts_293, b_W_inserts_293, P_W_inserts_294, b_W_inserts_294, x_low, xp_aln0, xp_bipush, xp_cs1, xp_cs2, xp_cs3, xp_goto, xp_iadd, xp_iceq, xp_icle, xp_icne, xp_iconst, xp_il10, xp_il4, xp_il5, xp_il6, xp_il7, xp_il8, xp_il9, xp_iln1, xp_iln2, xp_iln3, xp_iret, xp_is10, xp_is4, xp_is5, xp_is6, xp_is7, xp_is8, xp_is9, xp_ishr, xp_isn3, xp_isub, xp_izeq, xp_izgt, xp_izne, xp_nop, xp_zret, xv_count, xv_frame, xv_insert, xv_remove, xv_segment, wrI_row, cpI_row, row_s, row_n, row_ss, row_sw, upd_s, upd_n, ad_inj, ad_z, ad_z2, Nat.reduceEqDiff, reduceCtorEq, List.cons_append, List.nil_append, Option.toList_some, Option.toList_none, Int.toNat_natCast, List.length_cons, List.length_nil, Int.cast_ofNat_Int, Nat.reduceAdd, Nat.reduceLeDiff, Nat.reduceLT, Nat.reduceMul, Int.reduceAdd, Int.reduceSub, Int.reduceMul, Int.reduceNeg, Int.reduceLT, Int.reduceLE, Int.reduceEq, Int.reduceToNat, eq_self, true_and, and_true, true_or, or_true, false_or, or_false, if_true, if_false, not_true_eq_false, not_false_eq_true, and_self, ne_eq, sCt_1, sCt_2, hp, hkd, hm, qi, c1, c2t, c0, hp0, c3, q0, q1, q2, q3, qr, s2, s3, t2, t3, d2, d3]
          (repeat' (first | apply And.intro | split)) <;> first | omega | exact k2
end XIN
