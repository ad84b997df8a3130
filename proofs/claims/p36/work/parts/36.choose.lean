/-! THE BEST PLAN -/
/-- the place of the least value below 1000000 among the first n, else the one given -/
def nbV (s : Nat → Int) (last : Nat) : Nat → Nat
  | 0 => last
  | n + 1 => if s n < minB (fun _ => true) s n then n else nbV s last n
/-- what it costs from frame f on to go on with m behind last, whose run is r -/
def sNV (F M h : Nat) (c : Nat → Nat → Int) (cl : Nat → Nat → Bool) (f last r m : Nat) : Int := if m = last then Rv F M h c cl (F - f) m (min (r + 1) (h - 1)) else if r = h - 1 ∧ cl last m = true then Rv F M h c cl (F - f) m 0 else 1000000
/-- the best plan's mouth and run in a frame -/
def plnV (F M h : Nat) (c : Nat → Nat → Int) (cl : Nat → Nat → Bool) : Nat → Nat × Nat
  | 0 => (amin (fun m => Rv F M h c cl F m 0) M, 0)
  | f + 1 => (nbV (sNV F M h c cl (f + 1) (plnV F M h c cl f).1 (plnV F M h c cl f).2) (plnV F M h c cl f).1 M, if nbV (sNV F M h c cl (f + 1) (plnV F M h c cl f).1 (plnV F M h c cl f).2) (plnV F M h c cl f).1 M = (plnV F M h c cl f).1 then min ((plnV F M h c cl f).2 + 1) (h - 1) else 0)
theorem nbV_lt {s : Nat → Int} {last M : Nat} (hl : last < M) : ∀ n, n ≤ M → nbV s last n < M
  | 0, _ => hl
  | n + 1, hn => by
    have h1 := nbV_lt (s := s) hl n (by omega)
    simp only [nbV]
    split <;> omega
theorem plnV_b {F M h : Nat} {c : Nat → Nat → Int} {cl : Nat → Nat → Bool} (hM : 0 < M) (hh : 0 < h) : ∀ f, (plnV F M h c cl f).1 < M ∧ (plnV F M h c cl f).2 < h
  | 0 => ⟨amin_lt M hM, hh⟩
  | f + 1 => by
    have h1 := plnV_b (F := F) (c := c) (cl := cl) hM hh f
    refine ⟨nbV_lt h1.1 M (Nat.le_refl _), ?_⟩
    simp only [plnV]
    split <;> omega
theorem sNV_b {F M h : Nat} {c : Nat → Nat → Int} {cl : Nat → Nat → Bool} (hc : ∀ f m, 0 ≤ c f m) (f last r m : Nat) : 0 ≤ sNV F M h c cl f last r m ∧ sNV F M h c cl f last r m ≤ 1000000 := by
  unfold sNV
  split
  · exact Rv_b hc _ _ _
  · split
    · exact Rv_b hc _ _ _
    · omega
section PLC
variable {zt : Nat → Nat} {g : Nat → Nat → Int} {ρ : Ri} {w F M h : Nat} {c : Nat → Nat → Int} {cl : Nat → Nat → Bool}
theorem bestFirst_loop (hA : isPl ρ w) (hM : g w 7 = M) (hM8 : M ≤ 8) {v : Nat → Int} (hv : ∀ j, 0 ≤ v j ∧ v j ≤ 1000000) (hR : ∀ m, m < M → g (ad w 4) (m * 3) = v m) {Q : Option AV → Sto → Prop} (hQ : Q (some (AI (amin v M : Nat))) (g, ρ)) :
    ∀ (d n : Nat), n + d = M → 1 ≤ n → Wp zt 16 (P 16 4) [some (AR w), some (AI (amin v n : Nat)), some (AI n)] [] (g, ρ) Q := by
  intro d
  induction d with
  | zero =>
    intro n hn h1
    have e : n = M := by omega
    subst e
    rw [P_P_bestFirst_4]
    simp only [m_P_bestFirst, b_P_bestFirst_0, P_P_bestFirst_33, b_P_bestFirst_33, P_P_bestFirst_39, b_P_bestFirst_39, wp_aln0, wp_goto, wp_iald, wp_icge, wp_iconst, wp_iln1, wp_iln2, wp_imul, wp_inc2, wp_iret, wp_isn1, wp_isn2, wp_nop, wp_zret, qpl_kd, qpl_k1, qpl_l1, qpl_gf0, qpl_k2, qpl_l2, qpl_gf1, qpl_k3, qpl_l3, qpl_gf2, qpl_k4, qpl_l4, qpl_gf3, qpl_k5, qpl_l5, qpl_gf4, qpl_k6, qpl_l6, qpl_gf5, qpl_gf6, qpl_pf6, qpl_gf7, qpl_pf7, qpl_gf8, qpl_pf8, wrI_row, cpI_row, row_s, row_n, row_ss, row_sw, upd_s, upd_n, ad_inj, ad_z, ad_z2, Nat.reduceEqDiff, reduceCtorEq, List.cons_append, List.nil_append, Option.toList_some, Option.toList_none, Int.toNat_natCast, List.length_cons, List.length_nil, Int.cast_ofNat_Int, Nat.reduceAdd, Nat.reduceLeDiff, Nat.reduceLT, Nat.reduceMul, Int.reduceAdd, Int.reduceSub, Int.reduceMul, Int.reduceNeg, Int.reduceLT, Int.reduceLE, Int.reduceEq, Int.reduceToNat, eq_self, true_and, and_true, true_or, or_true, false_or, or_false, if_true, if_false, not_true_eq_false, not_false_eq_true, and_self, ne_eq, b_P_bestFirst_4, hA, hM]
    (repeat' (first | apply And.intro | split)) <;> first | omega | exact hQ
  | succ d ih =>
    intro n hn h1
    have i1 := ih (n + 1) (by omega) (by omega)
    have hb := amin_lt (f := v) n h1
    have r1 := hR n (by omega)
    have r2 := hR (amin v n) (by omega)
    have e3 : ((n : Int) * 3).toNat = n * 3 := by omega
    have e4 : (((amin v n : Nat) : Int) * 3).toNat = amin v n * 3 := by omega
    have q1 := hv n
    have q2 := hv (amin v n)
    simp only [amin] at i1
    rw [P_P_bestFirst_4]
    simp only [m_P_bestFirst, b_P_bestFirst_0, P_P_bestFirst_33, b_P_bestFirst_33, P_P_bestFirst_39, b_P_bestFirst_39, wp_aln0, wp_goto, wp_iald, wp_icge, wp_iconst, wp_iln1, wp_iln2, wp_imul, wp_inc2, wp_iret, wp_isn1, wp_isn2, wp_nop, wp_zret, qpl_kd, qpl_k1, qpl_l1, qpl_gf0, qpl_k2, qpl_l2, qpl_gf1, qpl_k3, qpl_l3, qpl_gf2, qpl_k4, qpl_l4, qpl_gf3, qpl_k5, qpl_l5, qpl_gf4, qpl_k6, qpl_l6, qpl_gf5, qpl_gf6, qpl_pf6, qpl_gf7, qpl_pf7, qpl_gf8, qpl_pf8, wrI_row, cpI_row, row_s, row_n, row_ss, row_sw, upd_s, upd_n, ad_inj, ad_z, ad_z2, Nat.reduceEqDiff, reduceCtorEq, List.cons_append, List.nil_append, Option.toList_some, Option.toList_none, Int.toNat_natCast, List.length_cons, List.length_nil, Int.cast_ofNat_Int, Nat.reduceAdd, Nat.reduceLeDiff, Nat.reduceLT, Nat.reduceMul, Int.reduceAdd, Int.reduceSub, Int.reduceMul, Int.reduceNeg, Int.reduceLT, Int.reduceLE, Int.reduceEq, Int.reduceToNat, eq_self, true_and, and_true, true_or, or_true, false_or, or_false, if_true, if_false, not_true_eq_false, not_false_eq_true, and_self, ne_eq, b_P_bestFirst_4, hA, hM, r1, r2, e3, e4]
    split at i1 <;> (repeat' (first | apply And.intro | split)) <;> first | omega | exact i1
theorem bestFirst_ok (hA : isPl ρ w) (hM : g w 7 = M) (hM8 : M ≤ 8) (hM1 : 1 ≤ M) {v : Nat → Int} (hv : ∀ j, 0 ≤ v j ∧ v j ≤ 1000000) (hR : ∀ m, m < M → g (ad w 4) (m * 3) = v m) (Q : Option AV → Sto → Prop) : WpM zt 16 [AR w] (g, ρ) Q ↔ Q (some (AI (amin v M : Nat))) (g, ρ) := by
  refine wpm_iff (fun Q hQ => ?_) Q
  have k1 := bestFirst_loop (zt := zt) hA hM hM8 hv hR hQ (M - 1) 1 (by omega) (Nat.le_refl _)
  rw [amin_1] at k1
  simp only [m_P_bestFirst, b_P_bestFirst_0, P_P_bestFirst_33, b_P_bestFirst_33, P_P_bestFirst_39, b_P_bestFirst_39, wp_aln0, wp_goto, wp_iald, wp_icge, wp_iconst, wp_iln1, wp_iln2, wp_imul, wp_inc2, wp_iret, wp_isn1, wp_isn2, wp_nop, wp_zret, qpl_kd, qpl_k1, qpl_l1, qpl_gf0, qpl_k2, qpl_l2, qpl_gf1, qpl_k3, qpl_l3, qpl_gf2, qpl_k4, qpl_l4, qpl_gf3, qpl_k5, qpl_l5, qpl_gf4, qpl_k6, qpl_l6, qpl_gf5, qpl_gf6, qpl_pf6, qpl_gf7, qpl_pf7, qpl_gf8, qpl_pf8, wrI_row, cpI_row, row_s, row_n, row_ss, row_sw, upd_s, upd_n, ad_inj, ad_z, ad_z2, Nat.reduceEqDiff, reduceCtorEq, List.cons_append, List.nil_append, Option.toList_some, Option.toList_none, Int.toNat_natCast, List.length_cons, List.length_nil, Int.cast_ofNat_Int, Nat.reduceAdd, Nat.reduceLeDiff, Nat.reduceLT, Nat.reduceMul, Int.reduceAdd, Int.reduceSub, Int.reduceMul, Int.reduceNeg, Int.reduceLT, Int.reduceLE, Int.reduceEq, Int.reduceToNat, eq_self, true_and, and_true, true_or, or_true, false_or, or_false, if_true, if_false, not_true_eq_false, not_false_eq_true, and_self, ne_eq, hA]
  exact k1
theorem bestNext_loop (hA : isPl ρ w) (hP : plI g w F M h c cl) (hM8 : M ≤ 8) (h1 : 1 ≤ h) (h3 : h ≤ 3) (hF : F ≤ 99) (hc : ∀ f m, 0 ≤ c f m ∧ c f m ≤ 1000000) (hR : rsI (g (ad w 4)) F M h c cl 0) {f last r : Nat} (hf : f < F) (hl : last < M) (hr : r < h) {Q : Option AV → Sto → Prop} (hQ : Q (some (AI (nbV (sNV F M h c cl f last r) last M : Nat))) (g, ρ)) :
    ∀ (d n : Nat) (o7 : Option AV), n + d = M → Wp zt 17 (P 17 10) [some (AR w), some (AI f), some (AI last), some (AI r), some (AI (nbV (sNV F M h c cl f last r) last n : Nat)), some (AI (minB (fun _ => true) (sNV F M h c cl f last r) n)), some (AI n), o7] [] (g, ρ) Q := by
  obtain ⟨p1, p2, p3, p4, p5⟩ := id hP
  intro d
  induction d with
  | zero =>
    intro n o7 hn
    have e : n = M := by omega
    subst e
    rw [P_P_bestNext_10]
    simp only [m_P_bestNext, b_P_bestNext_0, P_P_bestNext_54, b_P_bestNext_54, P_P_bestNext_95, b_P_bestNext_95, P_P_bestNext_110, b_P_bestNext_110, P_P_bestNext_116, b_P_bestNext_116, wp_aln0, wp_bald, wp_bipush, wp_cv1, wp_cv2, wp_cv3, wp_cv4, wp_cv5, wp_cv6, wp_cv7, wp_goto, wp_iadd, wp_iald, wp_icge, wp_icne, wp_iconst, wp_il4, wp_il5, wp_il6, wp_il7, wp_iln1, wp_iln2, wp_iln3, wp_imul, wp_inc6, wp_iret, wp_is4, wp_is5, wp_is6, wp_is7, wp_isub, wp_izeq, wp_ldc, wp_nop, wp_zret, qpl_kd, qpl_k1, qpl_l1, qpl_gf0, qpl_k2, qpl_l2, qpl_gf1, qpl_k3, qpl_l3, qpl_gf2, qpl_k4, qpl_l4, qpl_gf3, qpl_k5, qpl_l5, qpl_gf4, qpl_k6, qpl_l6, qpl_gf5, qpl_gf6, qpl_pf6, qpl_gf7, qpl_pf7, qpl_gf8, qpl_pf8, wrI_row, cpI_row, row_s, row_n, row_ss, row_sw, upd_s, upd_n, ad_inj, ad_z, ad_z2, Nat.reduceEqDiff, reduceCtorEq, List.cons_append, List.nil_append, Option.toList_some, Option.toList_none, Int.toNat_natCast, List.length_cons, List.length_nil, Int.cast_ofNat_Int, Nat.reduceAdd, Nat.reduceLeDiff, Nat.reduceLT, Nat.reduceMul, Int.reduceAdd, Int.reduceSub, Int.reduceMul, Int.reduceNeg, Int.reduceLT, Int.reduceLE, Int.reduceEq, Int.reduceToNat, eq_self, true_and, and_true, true_or, or_true, false_or, or_false, if_true, if_false, not_true_eq_false, not_false_eq_true, and_self, ne_eq, b_P_bestNext_10, hA, p2]
    (repeat' (first | apply And.intro | split)) <;> first | omega | exact hQ
  | succ d ih =>
    intro n o7 hn
    have i1 := ih (n + 1) (some (AI (sNV F M h c cl f last r n))) (by omega)
    have hb := minB_b (p := fun _ => true) (v := sNV F M h c cl f last r) (fun j => (sNV_b (fun f m => (hc f m).1) f last r j).1) n
    have hs := sNV_b (F := F) (M := M) (h := h) (c := c) (cl := cl) (fun f m => (hc f m).1) f last r n
    simp only [nbV, minB, if_true] at i1
    have e1 : (((f : Int) * 8 + (n : Int)) * 3 + ((min (r + 1) (h - 1) : Nat) : Int)).toNat = (f * 8 + n) * 3 + min (r + 1) (h - 1) := by omega
    have e2 : (((f : Int) * 8 + (n : Int)) * 3).toNat = (f * 8 + n) * 3 := by omega
    have e3 : ((last : Int) * 8 + (n : Int)).toNat = last * 8 + n := by omega
    have hlg := longer_ok (zt := zt) (ρ := ρ) hA p3 h1 h3 hr
    have r0 := hR f n 0 (Nat.zero_le _) hf (by omega) (by omega)
    rw [Nat.add_zero] at r0
    have r1 := hR f n (min (r + 1) (h - 1)) (Nat.zero_le _) hf (by omega) (by omega)
    have r5 := p5 last n hl (by omega)
    generalize hsn : sNV F M h c cl f last r n = sn at *
    unfold sNV at hsn
    have fin1 : ∀ X : Int, X = sn → (if X < minB (fun _ => true) (sNV F M h c cl f last r) n then Wp zt 17 (P 17 10) [some (AR w), some (AI f), some (AI last), some (AI r), some (AI n), some (AI X), some (AI ((n : Int) + 1)), some (AI X)] [] (g, ρ) Q else Wp zt 17 (P 17 10) [some (AR w), some (AI f), some (AI last), some (AI r), some (AI (nbV (sNV F M h c cl f last r) last n : Nat)), some (AI (minB (fun _ => true) (sNV F M h c cl f last r) n)), some (AI ((n : Int) + 1)), some (AI X)] [] (g, ρ) Q) := by
      intro X hX
      subst hX
      by_cases hcc : X < minB (fun _ => true) (sNV F M h c cl f last r) n
      · rw [if_pos hcc]
        rw [if_pos hcc, show min (minB (fun _ => true) (sNV F M h c cl f last r) n) X = X by omega] at i1
        exact i1
      · rw [if_neg hcc]
        rw [if_neg hcc, show min (minB (fun _ => true) (sNV F M h c cl f last r) n) X = minB (fun _ => true) (sNV F M h c cl f last r) n by omega] at i1
        exact i1
    by_cases hnl : n = last
    · rw [if_pos hnl] at hsn
      have k1 := fin1 _ hsn
      rw [P_P_bestNext_10]
      subst hnl
      simp only [m_P_bestNext, b_P_bestNext_0, P_P_bestNext_54, b_P_bestNext_54, P_P_bestNext_95, b_P_bestNext_95, P_P_bestNext_110, b_P_bestNext_110, P_P_bestNext_116, b_P_bestNext_116, wp_aln0, wp_bald, wp_bipush, wp_cv1, wp_cv2, wp_cv3, wp_cv4, wp_cv5, wp_cv6, wp_cv7, wp_goto, wp_iadd, wp_iald, wp_icge, wp_icne, wp_iconst, wp_il4, wp_il5, wp_il6, wp_il7, wp_iln1, wp_iln2, wp_iln3, wp_imul, wp_inc6, wp_iret, wp_is4, wp_is5, wp_is6, wp_is7, wp_isub, wp_izeq, wp_ldc, wp_nop, wp_zret, qpl_kd, qpl_k1, qpl_l1, qpl_gf0, qpl_k2, qpl_l2, qpl_gf1, qpl_k3, qpl_l3, qpl_gf2, qpl_k4, qpl_l4, qpl_gf3, qpl_k5, qpl_l5, qpl_gf4, qpl_k6, qpl_l6, qpl_gf5, qpl_gf6, qpl_pf6, qpl_gf7, qpl_pf7, qpl_gf8, qpl_pf8, wrI_row, cpI_row, row_s, row_n, row_ss, row_sw, upd_s, upd_n, ad_inj, ad_z, ad_z2, Nat.reduceEqDiff, reduceCtorEq, List.cons_append, List.nil_append, Option.toList_some, Option.toList_none, Int.toNat_natCast, List.length_cons, List.length_nil, Int.cast_ofNat_Int, Nat.reduceAdd, Nat.reduceLeDiff, Nat.reduceLT, Nat.reduceMul, Int.reduceAdd, Int.reduceSub, Int.reduceMul, Int.reduceNeg, Int.reduceLT, Int.reduceLE, Int.reduceEq, Int.reduceToNat, eq_self, true_and, and_true, true_or, or_true, false_or, or_false, if_true, if_false, not_true_eq_false, not_false_eq_true, and_self, ne_eq, b_P_bestNext_10, hA, p2, p3, hlg, e1, r1]
      split at k1 <;> (repeat' (first | apply And.intro | split)) <;> first | omega | exact k1
    · rw [if_neg hnl] at hsn
      have hnl2 : ¬ (n : Int) = (last : Int) := by omega
      by_cases hr2 : r = h - 1
      · have hr3 : (r : Int) = (h : Int) - 1 := by omega
        by_cases hcl : cl last n = true
        · rw [if_pos ⟨hr2, hcl⟩] at hsn
          rw [if_pos hcl] at r5
          have k1 := fin1 _ hsn
          rw [P_P_bestNext_10]
          simp only [m_P_bestNext, b_P_bestNext_0, P_P_bestNext_54, b_P_bestNext_54, P_P_bestNext_95, b_P_bestNext_95, P_P_bestNext_110, b_P_bestNext_110, P_P_bestNext_116, b_P_bestNext_116, wp_aln0, wp_bald, wp_bipush, wp_cv1, wp_cv2, wp_cv3, wp_cv4, wp_cv5, wp_cv6, wp_cv7, wp_goto, wp_iadd, wp_iald, wp_icge, wp_icne, wp_iconst, wp_il4, wp_il5, wp_il6, wp_il7, wp_iln1, wp_iln2, wp_iln3, wp_imul, wp_inc6, wp_iret, wp_is4, wp_is5, wp_is6, wp_is7, wp_isub, wp_izeq, wp_ldc, wp_nop, wp_zret, qpl_kd, qpl_k1, qpl_l1, qpl_gf0, qpl_k2, qpl_l2, qpl_gf1, qpl_k3, qpl_l3, qpl_gf2, qpl_k4, qpl_l4, qpl_gf3, qpl_k5, qpl_l5, qpl_gf4, qpl_k6, qpl_l6, qpl_gf5, qpl_gf6, qpl_pf6, qpl_gf7, qpl_pf7, qpl_gf8, qpl_pf8, wrI_row, cpI_row, row_s, row_n, row_ss, row_sw, upd_s, upd_n, ad_inj, ad_z, ad_z2, Nat.reduceEqDiff, reduceCtorEq, List.cons_append, List.nil_append, Option.toList_some, Option.toList_none, Int.toNat_natCast, List.length_cons, List.length_nil, Int.cast_ofNat_Int, Nat.reduceAdd, Nat.reduceLeDiff, Nat.reduceLT, Nat.reduceMul, Int.reduceAdd, Int.reduceSub, Int.reduceMul, Int.reduceNeg, Int.reduceLT, Int.reduceLE, Int.reduceEq, Int.reduceToNat, eq_self, true_and, and_true, true_or, or_true, false_or, or_false, if_true, if_false, not_true_eq_false, not_false_eq_true, and_self, ne_eq, b_P_bestNext_10, hA, p2, p3, hnl2, e2, e3, r0, r5]
          split at k1 <;> (repeat' (first | apply And.intro | split)) <;> first | omega | exact k1
        · rw [if_neg (fun q => hcl q.2)] at hsn
          rw [if_neg hcl] at r5
          have k1 := fin1 _ hsn
          rw [P_P_bestNext_10]
          simp only [m_P_bestNext, b_P_bestNext_0, P_P_bestNext_54, b_P_bestNext_54, P_P_bestNext_95, b_P_bestNext_95, P_P_bestNext_110, b_P_bestNext_110, P_P_bestNext_116, b_P_bestNext_116, wp_aln0, wp_bald, wp_bipush, wp_cv1, wp_cv2, wp_cv3, wp_cv4, wp_cv5, wp_cv6, wp_cv7, wp_goto, wp_iadd, wp_iald, wp_icge, wp_icne, wp_iconst, wp_il4, wp_il5, wp_il6, wp_il7, wp_iln1, wp_iln2, wp_iln3, wp_imul, wp_inc6, wp_iret, wp_is4, wp_is5, wp_is6, wp_is7, wp_isub, wp_izeq, wp_ldc, wp_nop, wp_zret, qpl_kd, qpl_k1, qpl_l1, qpl_gf0, qpl_k2, qpl_l2, qpl_gf1, qpl_k3, qpl_l3, qpl_gf2, qpl_k4, qpl_l4, qpl_gf3, qpl_k5, qpl_l5, qpl_gf4, qpl_k6, qpl_l6, qpl_gf5, qpl_gf6, qpl_pf6, qpl_gf7, qpl_pf7, qpl_gf8, qpl_pf8, wrI_row, cpI_row, row_s, row_n, row_ss, row_sw, upd_s, upd_n, ad_inj, ad_z, ad_z2, Nat.reduceEqDiff, reduceCtorEq, List.cons_append, List.nil_append, Option.toList_some, Option.toList_none, Int.toNat_natCast, List.length_cons, List.length_nil, Int.cast_ofNat_Int, Nat.reduceAdd, Nat.reduceLeDiff, Nat.reduceLT, Nat.reduceMul, Int.reduceAdd, Int.reduceSub, Int.reduceMul, Int.reduceNeg, Int.reduceLT, Int.reduceLE, Int.reduceEq, Int.reduceToNat, eq_self, true_and, and_true, true_or, or_true, false_or, or_false, if_true, if_false, not_true_eq_false, not_false_eq_true, and_self, ne_eq, b_P_bestNext_10, hA, p2, p3, hnl2, e2, e3, r5]
          split at k1 <;> (repeat' (first | apply And.intro | split)) <;> first | omega | exact k1
      · have hr3 : ¬ (r : Int) = (h : Int) - 1 := by omega
        rw [if_neg (fun q => hr2 q.1)] at hsn
        have k1 := fin1 _ hsn
        rw [P_P_bestNext_10]
        simp only [m_P_bestNext, b_P_bestNext_0, P_P_bestNext_54, b_P_bestNext_54, P_P_bestNext_95, b_P_bestNext_95, P_P_bestNext_110, b_P_bestNext_110, P_P_bestNext_116, b_P_bestNext_116, wp_aln0, wp_bald, wp_bipush, wp_cv1, wp_cv2, wp_cv3, wp_cv4, wp_cv5, wp_cv6, wp_cv7, wp_goto, wp_iadd, wp_iald, wp_icge, wp_icne, wp_iconst, wp_il4, wp_il5, wp_il6, wp_il7, wp_iln1, wp_iln2, wp_iln3, wp_imul, wp_inc6, wp_iret, wp_is4, wp_is5, wp_is6, wp_is7, wp_isub, wp_izeq, wp_ldc, wp_nop, wp_zret, qpl_kd, qpl_k1, qpl_l1, qpl_gf0, qpl_k2, qpl_l2, qpl_gf1, qpl_k3, qpl_l3, qpl_gf2, qpl_k4, qpl_l4, qpl_gf3, qpl_k5, qpl_l5, qpl_gf4, qpl_k6, qpl_l6, qpl_gf5, qpl_gf6, qpl_pf6, qpl_gf7, qpl_pf7, qpl_gf8, qpl_pf8, wrI_row, cpI_row, row_s, row_n, row_ss, row_sw, upd_s, upd_n, ad_inj, ad_z, ad_z2, Nat.reduceEqDiff, reduceCtorEq, List.cons_append, List.nil_append, Option.toList_some, Option.toList_none, Int.toNat_natCast, List.length_cons, List.length_nil, Int.cast_ofNat_Int, Nat.reduceAdd, Nat.reduceLeDiff, Nat.reduceLT, Nat.reduceMul, Int.reduceAdd, Int.reduceSub, Int.reduceMul, Int.reduceNeg, Int.reduceLT, Int.reduceLE, Int.reduceEq, Int.reduceToNat, eq_self, true_and, and_true, true_or, or_true, false_or, or_false, if_true, if_false, not_true_eq_false, not_false_eq_true, and_self, ne_eq, b_P_bestNext_10, hA, p2, p3, hnl2, hr3]
        split at k1 <;> (repeat' (first | apply And.intro | split)) <;> first | omega | exact k1
theorem bestNext_ok (hA : isPl ρ w) (hP : plI g w F M h c cl) (hM8 : M ≤ 8) (h1 : 1 ≤ h) (h3 : h ≤ 3) (hF : F ≤ 99) (hc : ∀ f m, 0 ≤ c f m ∧ c f m ≤ 1000000) (hR : rsI (g (ad w 4)) F M h c cl 0) {f last r : Nat} (hf : f < F) (hl : last < M) (hr : r < h) (Q : Option AV → Sto → Prop) : WpM zt 17 [AR w, AI f, AI last, AI r] (g, ρ) Q ↔ Q (some (AI (nbV (sNV F M h c cl f last r) last M : Nat))) (g, ρ) := by
  refine wpm_iff (fun Q hQ => ?_) Q
  have k1 := bestNext_loop (zt := zt) hA hP hM8 h1 h3 hF hc hR hf hl hr hQ M 0 none (by omega)
  simp only [m_P_bestNext, b_P_bestNext_0, P_P_bestNext_54, b_P_bestNext_54, P_P_bestNext_95, b_P_bestNext_95, P_P_bestNext_110, b_P_bestNext_110, P_P_bestNext_116, b_P_bestNext_116, wp_aln0, wp_bald, wp_bipush, wp_cv1, wp_cv2, wp_cv3, wp_cv4, wp_cv5, wp_cv6, wp_cv7, wp_goto, wp_iadd, wp_iald, wp_icge, wp_icne, wp_iconst, wp_il4, wp_il5, wp_il6, wp_il7, wp_iln1, wp_iln2, wp_iln3, wp_imul, wp_inc6, wp_iret, wp_is4, wp_is5, wp_is6, wp_is7, wp_isub, wp_izeq, wp_ldc, wp_nop, wp_zret, qpl_kd, qpl_k1, qpl_l1, qpl_gf0, qpl_k2, qpl_l2, qpl_gf1, qpl_k3, qpl_l3, qpl_gf2, qpl_k4, qpl_l4, qpl_gf3, qpl_k5, qpl_l5, qpl_gf4, qpl_k6, qpl_l6, qpl_gf5, qpl_gf6, qpl_pf6, qpl_gf7, qpl_pf7, qpl_gf8, qpl_pf8, wrI_row, cpI_row, row_s, row_n, row_ss, row_sw, upd_s, upd_n, ad_inj, ad_z, ad_z2, Nat.reduceEqDiff, reduceCtorEq, List.cons_append, List.nil_append, Option.toList_some, Option.toList_none, Int.toNat_natCast, List.length_cons, List.length_nil, Int.cast_ofNat_Int, Nat.reduceAdd, Nat.reduceLeDiff, Nat.reduceLT, Nat.reduceMul, Int.reduceAdd, Int.reduceSub, Int.reduceMul, Int.reduceNeg, Int.reduceLT, Int.reduceLE, Int.reduceEq, Int.reduceToNat, eq_self, true_and, and_true, true_or, or_true, false_or, or_false, if_true, if_false, not_true_eq_false, not_false_eq_true, and_self, ne_eq, hA]
  exact k1
end PLC
