/-! THE CLASS'S CONSTRUCTOR -/
section NLF
variable {zt : Nat → Nat} {g g0 : Nat → Nat → Int} {ρ ρ0 : Ri} {Q : Option AV → Sto → Prop} {L u : Nat}
theorem newState (ht : ρ.2.2.1 = u) (hz0 : zrR g ρ (zt 0) [3, 4, 1, 1]) (hz1 : zrR g ρ (zt 1) [3, 1, 5, 40, 8]) (h0 : zt 0 < u) (h1 : zt 1 < u) (hQ : ∀ (g' : Nat → Nat → Int) (ρ' : Ri), isStX ρ' u → LR (-99) (vwC g' (ad u 1)) iniV → (∀ k, g' (ad u 29) k = 0) → NwP g ρ u 30 985 g' ρ' → Q none (g', ρ')) : WpM zt 45 [AR u] (setRow g u (fun _ => 0), nwC ρ u 14 3) Q := by
  refine T_init_ok nwC_s rfl (zr_low (nwC_o (by omega)) (row_n (by omega)) hz0) (zr_low (nwC_o (by omega)) (row_n (by omega)) hz1) h0 h1 (fun g' ρ' s1 s2 s4 s3 => ?_)
  obtain ⟨n1, n2, n3⟩ := s3
  refine hQ g' ρ' s1 s2 s4 ⟨n1, ?_, fun x hx => ?_⟩
  · have e : (nwC ρ u 14 3).2.2.2 = ρ.2.2.2 + 3 := rfl
    rw [n2, e]
  · obtain ⟨q1, q2, q3⟩ := n3 x hx
    exact ⟨q1.trans (nwC_r (by omega)), q2.trans (nwC_o (by omega)), q3.trans (row_n (by omega))⟩
/-- the class's object with i states of its history made -/
def LI (g0 : Nat → Nat → Int) (ρ0 : Ri) (L i : Nat) (g : Nat → Nat → Int) (ρ : Ri) : Prop :=
  (ρ.2.2.1 = L + 32 + 30 * i ∧ ρ.2.2.2 = ρ0.2.2.2 + 990 + 985 * i) ∧ (ρ.2.1 L = some (15, 9) ∧ ρ.1 L 0 = some (L + 1) ∧ ρ.1 L 1 = some (L + 31) ∧ ρ.2.1 (L + 31) = some (2, 5)) ∧ (isStX ρ (L + 1) ∧ LR (-99) (vwC g (L + 2)) iniV ∧ ∀ k, g (L + 30) k = 0) ∧ (∀ j, j < i → isStX ρ (L + 32 + 30 * j) ∧ ρ.1 (L + 31) j = some (L + 32 + 30 * j)) ∧ (∀ k, g L k = 0) ∧ ∀ x, x < L → ρ.1 x = ρ0.1 x ∧ ρ.2.1 x = ρ0.2.1 x ∧ g x = g0 x
theorem L_round (hz0 : zrR g0 ρ0 (zt 0) [3, 4, 1, 1]) (hz1 : zrR g0 ρ0 (zt 1) [3, 1, 5, 40, 8]) (h0 : zt 0 < L) (h1 : zt 1 < L) {i : Nat} (hi : i < 5) (hI : LI g0 ρ0 L i g ρ) (kk : ∀ (g' : Nat → Nat → Int) (ρ' : Ri), LI g0 ρ0 L (i + 1) g' ρ' → Wp zt 48 (P 48 25) [some (AR L), some (AI ((i : Int) + 1))] [] (g', ρ') Q) : Wp zt 48 (P 48 25) [some (AR L), some (AI i)] [] (g, ρ) Q := by
  obtain ⟨⟨t1, t2⟩, ⟨l1, l2, l3, l4⟩, ⟨s1, s2, s3⟩, hs, hg, lo⟩ := hI
  have hl : ¬ (5 : Int) ≤ (i : Int) := by omega
  have e3 : ∀ (k : Nat) (cs : List RI) (ls : LsT) (st : List AV) (j : Nat) (Q : Option AV → Sto → Prop), Wp zt k ((.new j, [4]) :: cs) ls st (g, ρ) Q ↔ Wp zt k cs ls (.inr (some (L + 32 + 30 * i)) :: st) (setRow g (L + 32 + 30 * i) (fun _ => 0), nwC ρ (L + 32 + 30 * i) 14 3) Q := fun k cs ls st j Q => wp_new t1
  have hkd : kdI (nwC ρ (L + 32 + 30 * i) 14 3) (L + 32 + 30 * i) 14 := kdI_of nwC_s
  rw [P_L_init_25]
  simp only [m_L_init, b_L_init_0, wp_aln0, wp_bipush, wp_ci1, wp_ci2, wp_ci3, wp_ci4, wp_ci5, wp_ci6, wp_ci7, wp_dup, wp_goto, wp_icge, wp_iconst, wp_iln1, wp_inc1, wp_isn1, wp_nop, wp_ret, wrI_row, cpI_row, row_s, row_n, row_ss, row_sw, upd_s, upd_n, ad_inj, ad_z, ad_z2, Nat.reduceEqDiff, reduceCtorEq, List.cons_append, List.nil_append, Option.toList_some, Option.toList_none, Int.toNat_natCast, List.length_cons, List.length_nil, Int.cast_ofNat_Int, Nat.reduceAdd, Nat.reduceLeDiff, Nat.reduceLT, Nat.reduceMul, Int.reduceAdd, Int.reduceSub, Int.reduceMul, Int.reduceNeg, Int.reduceLT, Int.reduceLE, Int.reduceEq, Int.reduceToNat, eq_self, true_and, and_true, true_or, or_true, false_or, or_false, if_true, if_false, not_true_eq_false, not_false_eq_true, and_self, ne_eq, b_L_init_25, hl, gf_5_1 (kdI_of l1) l3, e3, hkd]
  (repeat' (first | apply And.intro | split)) <;> first | omega | skip
  refine newState t1 (zr_low (lo _ h0).2.1 (lo _ h0).2.2 hz0) (zr_low (lo _ h1).2.1 (lo _ h1).2.2 hz1) (by omega) (by omega) (fun g' ρ' y1 y2 y3 y4 => ?_)
  obtain ⟨n1, n2, n3⟩ := y4
  have hk' : kdI ρ' (L + 31) 2 := kdI_of (((n3 (L + 31) (by omega)).2.1).trans l4)
  have hl' : lnA ρ' (L + 31) = 5 := lnA_of (((n3 (L + 31) (by omega)).2.1).trans l4)
  have fr : ∀ x, x ≠ L + 31 → (wrR ρ'.1 (L + 31) i (some (L + 32 + 30 * i)) x = ρ'.1 x) := fun x hx => by
    funext y
    exact wrR_x hx
  have k1 := kk g' (wrR ρ'.1 (L + 31) i (some (L + 32 + 30 * i)), ρ'.2) ⟨⟨?_, ?_⟩, ⟨?_, ?_, ?_, ?_⟩, ⟨?_, ?_, fun k => ?_⟩, fun j hj => ?_, fun k => ?_, fun x hx => ?_⟩
  · have hkT : kdI ρ' (L + 32 + 30 * i) 14 := qst_kd y1.1
    simp only [m_L_init, b_L_init_0, wp_aln0, wp_bipush, wp_ci1, wp_ci2, wp_ci3, wp_ci4, wp_ci5, wp_ci6, wp_ci7, wp_dup, wp_goto, wp_icge, wp_iconst, wp_iln1, wp_inc1, wp_isn1, wp_nop, wp_ret, wrI_row, cpI_row, row_s, row_n, row_ss, row_sw, upd_s, upd_n, ad_inj, ad_z, ad_z2, Nat.reduceEqDiff, reduceCtorEq, List.cons_append, List.nil_append, Option.toList_some, Option.toList_none, Int.toNat_natCast, List.length_cons, List.length_nil, Int.cast_ofNat_Int, Nat.reduceAdd, Nat.reduceLeDiff, Nat.reduceLT, Nat.reduceMul, Int.reduceAdd, Int.reduceSub, Int.reduceMul, Int.reduceNeg, Int.reduceLT, Int.reduceLE, Int.reduceEq, Int.reduceToNat, eq_self, true_and, and_true, true_or, or_true, false_or, or_false, if_true, if_false, not_true_eq_false, not_false_eq_true, and_self, ne_eq, wp_qast2 hk' hkT, hl']
    (repeat' (first | apply And.intro | split)) <;> first | omega | exact k1
  · show ρ'.2.2.1 = _
    omega
  · show ρ'.2.2.2 = ρ0.2.2.2 + 990 + 985 * (i + 1)
    rw [n2, t2, Nat.mul_succ, ← Nat.add_assoc]
  · exact ((n3 L (by omega)).2.1).trans l1
  · show wrR ρ'.1 (L + 31) i (some (L + 32 + 30 * i)) L 0 = _
    rw [fr L (by omega), (n3 L (by omega)).1]
    exact l2
  · show wrR ρ'.1 (L + 31) i (some (L + 32 + 30 * i)) L 1 = _
    rw [fr L (by omega), (n3 L (by omega)).1]
    exact l3
  · exact ((n3 (L + 31) (by omega)).2.1).trans l4
  · exact st_low (fun x q1 q2 => ⟨(fr x (by omega)).trans (n3 x (by omega)).1, (n3 x (by omega)).2.1⟩) s1
  · rw [vwC_kept (g := g) (fun x q1 q2 => (n3 x (by omega)).2.2)]
    exact s2
  · rw [(n3 (L + 30) (by omega)).2.2]
    exact s3 k
  · by_cases e : j = i
    · subst e
      exact ⟨st_low (ρ := ρ') (fun x q1 q2 => ⟨fr x (by omega), rfl⟩) y1, wrR_s⟩
    · obtain ⟨q1, q2⟩ := hs j (by omega)
      refine ⟨st_low (fun x q3 q4 => ⟨(fr x (by omega)).trans (n3 x (by omega)).1, (n3 x (by omega)).2.1⟩) q1, ?_⟩
      show wrR ρ'.1 (L + 31) i (some (L + 32 + 30 * i)) (L + 31) j = _
      rw [wrR_k e, (n3 (L + 31) (by omega)).1]
      exact q2
  · rw [(n3 L (by omega)).2.2]
    exact hg k
  · obtain ⟨q1, q2, q3⟩ := n3 x (by omega)
    obtain ⟨r1, r2, r3⟩ := lo x hx
    exact ⟨((fr x (by omega)).trans q1).trans r1, q2.trans r2, q3.trans r3⟩
theorem L_loop (hz0 : zrR g0 ρ0 (zt 0) [3, 4, 1, 1]) (hz1 : zrR g0 ρ0 (zt 1) [3, 1, 5, 40, 8]) (h0 : zt 0 < L) (h1 : zt 1 < L) (kk : ∀ (g' : Nat → Nat → Int) (ρ' : Ri) (o : Option AV), LI g0 ρ0 L 5 g' ρ' → Wp zt 48 (P 48 49) [some (AR L), o] [] (g', ρ') Q) :
    ∀ (d i : Nat) (g : Nat → Nat → Int) (ρ : Ri), i + d = 5 → LI g0 ρ0 L i g ρ → Wp zt 48 (P 48 25) [some (AR L), some (AI i)] [] (g, ρ) Q := by
  intro d
  induction d with
  | zero =>
    intro i g ρ hi hI
    have e : i = 5 := by omega
    subst e
    have k1 := kk g ρ (some (AI 5)) hI
    rw [P_L_init_25]
    simp only [m_L_init, b_L_init_0, wp_aln0, wp_bipush, wp_ci1, wp_ci2, wp_ci3, wp_ci4, wp_ci5, wp_ci6, wp_ci7, wp_dup, wp_goto, wp_icge, wp_iconst, wp_iln1, wp_inc1, wp_isn1, wp_nop, wp_ret, wrI_row, cpI_row, row_s, row_n, row_ss, row_sw, upd_s, upd_n, ad_inj, ad_z, ad_z2, Nat.reduceEqDiff, reduceCtorEq, List.cons_append, List.nil_append, Option.toList_some, Option.toList_none, Int.toNat_natCast, List.length_cons, List.length_nil, Int.cast_ofNat_Int, Nat.reduceAdd, Nat.reduceLeDiff, Nat.reduceLT, Nat.reduceMul, Int.reduceAdd, Int.reduceSub, Int.reduceMul, Int.reduceNeg, Int.reduceLT, Int.reduceLE, Int.reduceEq, Int.reduceToNat, eq_self, true_and, and_true, true_or, or_true, false_or, or_false, if_true, if_false, not_true_eq_false, not_false_eq_true, and_self, ne_eq, b_L_init_25]
    (repeat' (first | apply And.intro | split)) <;> first | omega | exact k1
  | succ d ih =>
    intro i g ρ hi hI
    exact L_round hz0 hz1 h0 h1 (by omega) hI (fun g' ρ' hI2 => ih (i + 1) g' ρ' (by omega) hI2)
/-- a new object -/
def iniS : SV := (iniV, (fun _ => false), fun _ => iniV)
def iniX : XV := (iniS, 0, (fun _ => iniS), 0, fun _ => 0)
theorem iniX_wf : WFX iniX := ⟨⟨iniV_wf, fun i hi hq => Bool.noConfusion hq⟩, Nat.zero_le _, fun i hi => absurd hi (Nat.not_lt_zero i), Nat.zero_le _, fun j hj => absurd hj (Nat.not_lt_zero j)⟩
theorem L_tail (hz0 : zrR g0 ρ0 (zt 0) [3, 4, 1, 1]) (hz1 : zrR g0 ρ0 (zt 1) [3, 1, 5, 40, 8]) (h0 : zt 0 < L) (h1 : zt 1 < L) (hI : LI g0 ρ0 L 5 g ρ) {o : Option AV} (hQ : ∀ (g' : Nat → Nat → Int) (ρ' : Ri), RepC g' ρ' L id iniX → NwP g0 ρ0 L 204 9955 g' ρ' → Q none (g', ρ')) : Wp zt 48 (P 48 49) [some (AR L), o] [] (g, ρ) Q := by
  obtain ⟨⟨t1, t2⟩, ⟨l1, l2, l3, l4⟩, ⟨s1, s2, s3⟩, hs, hg, lo⟩ := hI
  rw [P_L_init_49]
  unfold b_L_init_49
  obtain ⟨g1, hg1⟩ : ∃ g1, g1 = setRow g L (upd1 (g L) 2 0) := ⟨_, rfl⟩
  have g1o : ∀ x, x ≠ L → g1 x = g x := fun x hx => by rw [hg1, row_n hx]
  have g1L : ∀ k, g1 L k = 0 := fun k => by
    rw [hg1, row_s]
    unfold upd1
    split
    · rfl
    · exact hg k
  have n3 : ∀ (k : Nat) (cs : List RI) (ls : LsT) (st : List AV) (j : Nat) (Q : Option AV → Sto → Prop), Wp zt k ((.new j, [3]) :: cs) ls st (g1, ρ) Q ↔ Wp zt k cs ls (.inr (some (L + 182)) :: st) (setRow g1 (L + 182) (fun _ => 0), nwC ρ (L + 182) 13 11) Q := fun k cs ls st j Q => wp_new t1
  rw [wp_aln0, wp_iconst, pf_5_2 (kdI_of l1), wrI_row, ← hg1, wp_aln0, n3, wp_dup, wp_ci1 (rk := 13) (by omega) (kdI_of nwC_s) (by simp)]
  refine newScene t1 (zr_low (lo _ h0).2.1 ((g1o _ (by omega)).trans (lo _ h0).2.2) hz0) (zr_low (lo _ h1).2.1 ((g1o _ (by omega)).trans (lo _ h1).2.2) hz1) (by omega) (by omega) (fun g2 ρ2 a1 a2 a3 => ?_)
  obtain ⟨a4, a5, a6⟩ := a3
  show Wp zt 48 _ _ [AR (L + 182), AR L] (g2, ρ2) Q
  have m2 : ρ2.2.1 L = some (15, 9) := ((a6 L (by omega)).2.1).trans l1
  obtain ⟨ρ3, hρ3⟩ : ∃ ρ3, ρ3 = stF ρ2 L 3 (L + 182) := ⟨_, rfl⟩
  have n0 : ∀ (k : Nat) (cs : List RI) (ls : LsT) (st : List AV) (j : Nat) (Q : Option AV → Sto → Prop), Wp zt k ((.new j, [0]) :: cs) ls st (g2, ρ3) Q ↔ Wp zt k cs ls (.inr (some (L + 191)) :: st) (setRow g2 (L + 191) (fun _ => 0), nwC ρ3 (L + 191) 10 4) Q := fun k cs ls st j Q => wp_new (by rw [hρ3]; exact a4)
  rw [wp_pfr (c := 5) (n0 := 9) m2 rfl, ← hρ3, wp_aln0, n0, wp_dup, wp_ci1 (rk := 10) (by omega) (kdI_of nwC_s) (by simp)]
  refine A_init_ok nwC_s rfl (fun g4 ρ4 b1 b2 => ?_)
  obtain ⟨b3, b4, b5⟩ := b2
  show Wp zt 48 _ _ [AR (L + 191), AR L] (g4, ρ4) Q
  have x3 : ∀ x, x < L + 191 → ρ4.1 x = ρ3.1 x ∧ ρ4.2.1 x = ρ3.2.1 x ∧ g4 x = g2 x := fun x hx => ⟨((b5 x hx).1).trans (nwC_r (by omega)), ((b5 x hx).2.1).trans (nwC_o (by omega)), ((b5 x hx).2.2).trans (row_n (by omega))⟩
  have m4 : ρ4.2.1 L = some (15, 9) := ((x3 L (by omega)).2.1).trans (by rw [hρ3]; exact m2)
  obtain ⟨ρ5, hρ5⟩ : ∃ ρ5, ρ5 = stF ρ4 L 4 (L + 191) := ⟨_, rfl⟩
  have n1 : ∀ (k : Nat) (cs : List RI) (ls : LsT) (st : List AV) (j : Nat) (Q : Option AV → Sto → Prop), Wp zt k ((.new j, [1]) :: cs) ls st (g4, ρ5) Q ↔ Wp zt k cs ls (.inr (some (L + 194)) :: st) (setRow g4 (L + 194) (fun _ => 0), nwC ρ5 (L + 194) 11 9) Q := fun k cs ls st j Q => wp_new (by rw [hρ5]; exact b3)
  rw [wp_pfr (c := 5) (n0 := 9) m4 rfl, ← hρ5, wp_aln0, n1, wp_dup, wp_ci1 (rk := 11) (by omega) (kdI_of nwC_s) (by simp)]
  refine P_init_ok nwC_s rfl (fun g6 ρ6 c1 c2 => ?_)
  obtain ⟨c3, c4, c5⟩ := c2
  show Wp zt 48 _ _ [AR (L + 194), AR L] (g6, ρ6) Q
  have x5 : ∀ x, x < L + 194 → ρ6.1 x = ρ5.1 x ∧ ρ6.2.1 x = ρ5.2.1 x ∧ g6 x = g4 x := fun x hx => ⟨((c5 x hx).1).trans (nwC_r (by omega)), ((c5 x hx).2.1).trans (nwC_o (by omega)), ((c5 x hx).2.2).trans (row_n (by omega))⟩
  have m6 : ρ6.2.1 L = some (15, 9) := ((x5 L (by omega)).2.1).trans (by rw [hρ5]; exact m4)
  obtain ⟨ρ7, hρ7⟩ : ∃ ρ7, ρ7 = stF ρ6 L 5 (L + 194) := ⟨_, rfl⟩
  have n2 : ∀ (k : Nat) (cs : List RI) (ls : LsT) (st : List AV) (j : Nat) (Q : Option AV → Sto → Prop), Wp zt k ((.new j, [2]) :: cs) ls st (g6, ρ7) Q ↔ Wp zt k cs ls (.inr (some (L + 201)) :: st) (setRow g6 (L + 201) (fun _ => 0), nwC ρ7 (L + 201) 12 4) Q := fun k cs ls st j Q => wp_new (by rw [hρ7]; exact c3)
  rw [wp_pfr (c := 5) (n0 := 9) m6 rfl, ← hρ7, wp_aln0, n2, wp_dup, wp_ci1 (rk := 12) (by omega) (kdI_of nwC_s) (by simp)]
  refine R_init_ok nwC_s rfl (fun g8 ρ8 d1 d2 => ?_)
  obtain ⟨d3, d4, d5⟩ := d2
  show Wp zt 48 _ _ [AR (L + 201), AR L] (g8, ρ8) Q
  have x7 : ∀ x, x < L + 201 → ρ8.1 x = ρ7.1 x ∧ ρ8.2.1 x = ρ7.2.1 x ∧ g8 x = g6 x := fun x hx => ⟨((d5 x hx).1).trans (nwC_r (by omega)), ((d5 x hx).2.1).trans (nwC_o (by omega)), ((d5 x hx).2.2).trans (row_n (by omega))⟩
  have m8 : ρ8.2.1 L = some (15, 9) := ((x7 L (by omega)).2.1).trans (by rw [hρ7]; exact m6)
  rw [wp_pfr (c := 5) (n0 := 9) m8 rfl]
  refine nw_field (t := L + 203) (n := 120) (c := 5) rfl m8 rfl d3 (by omega) (by omega) ?_
  obtain ⟨ρ9, hρ9⟩ : ∃ ρ9, ρ9 = stF (nwC (stF ρ8 L 6 (L + 201)) (L + 203) 0 120) L 7 (L + 203) := ⟨_, rfl⟩
  rw [← hρ9]
  have m9 : ρ9.2.1 L = some (15, 9) := by
    rw [hρ9]
    exact (nwC_o (by omega)).trans m8
  obtain ⟨g9, hg9⟩ : ∃ g9, g9 = setRow (setRow g8 (L + 203) fun _ => 0) L (upd1 ((setRow g8 (L + 203) fun _ => 0) L) 8 0) := ⟨_, rfl⟩
  rw [wp_aln0, wp_iconst, pf_5_8 (kdI_of m9), wrI_row, ← hg9, wp_ret]
  -- what became of the cells
  have y9 : ∀ x, x ≠ L → x < L + 203 → ρ9.1 x = ρ8.1 x := fun x h1 h2 => by rw [hρ9, stF_x h1, nwC_r (by omega), stF_x h1]
  have y9s : ∀ x, x < L + 203 → ρ9.2.1 x = ρ8.2.1 x := fun x h2 => by
    rw [hρ9]
    exact nwC_o (by omega)
  have y8 : ∀ x, x ≠ L → x < L + 201 → ρ9.1 x = ρ6.1 x ∧ ρ9.2.1 x = ρ6.2.1 x := fun x h1 h2 => ⟨(y9 x h1 (by omega)).trans (((x7 x h2).1).trans (by rw [hρ7, stF_x h1])), (y9s x (by omega)).trans (((x7 x h2).2.1).trans (by rw [hρ7]; rfl))⟩
  have y6 : ∀ x, x ≠ L → x < L + 194 → ρ9.1 x = ρ4.1 x ∧ ρ9.2.1 x = ρ4.2.1 x := fun x h1 h2 => ⟨((y8 x h1 (by omega)).1).trans (((x5 x h2).1).trans (by rw [hρ5, stF_x h1])), ((y8 x h1 (by omega)).2).trans (((x5 x h2).2.1).trans (by rw [hρ5]; rfl))⟩
  have y4 : ∀ x, x ≠ L → x < L + 191 → ρ9.1 x = ρ2.1 x ∧ ρ9.2.1 x = ρ2.2.1 x := fun x h1 h2 => ⟨((y6 x h1 (by omega)).1).trans (((x3 x h2).1).trans (by rw [hρ3, stF_x h1])), ((y6 x h1 (by omega)).2).trans (((x3 x h2).2.1).trans (by rw [hρ3]; rfl))⟩
  have y2 : ∀ x, x ≠ L → x < L + 182 → ρ9.1 x = ρ.1 x ∧ ρ9.2.1 x = ρ.2.1 x := fun x h1 h2 => ⟨((y4 x h1 (by omega)).1).trans (a6 x h2).1, ((y4 x h1 (by omega)).2).trans (a6 x h2).2.1⟩
  have gg : ∀ x, x ≠ L → x < L + 182 → g9 x = g x := fun x h1 h2 => by rw [hg9, row_n h1, row_n (by omega), (x7 x (by omega)).2.2, (x5 x (by omega)).2.2, (x3 x (by omega)).2.2, (a6 x h2).2.2, g1o x h1]
  have ggL : ∀ k, g9 L k = 0 := fun k => by
    rw [hg9, row_s]
    unfold upd1
    split
    · rfl
    · rw [row_n (by omega), (x7 L (by omega)).2.2, (x5 L (by omega)).2.2, (x3 L (by omega)).2.2, (a6 L (by omega)).2.2]
      exact g1L k
  have f7 : ρ9.1 L 7 = some (L + 203) := by
    rw [hρ9]
    exact stF_s
  have f6 : ρ9.1 L 6 = some (L + 201) := by
    rw [hρ9, stF_k (by omega), nwC_r (by omega)]
    exact stF_s
  have fo : ∀ y, y ≠ 6 → y ≠ 7 → ρ9.1 L y = ρ7.1 L y := fun y h1 h2 => by rw [hρ9, stF_k h2, nwC_r (by omega), stF_k h1, (x7 L (by omega)).1]
  have f5 : ρ9.1 L 5 = some (L + 194) := by
    rw [fo 5 (by omega) (by omega), hρ7]
    exact stF_s
  have f4 : ρ9.1 L 4 = some (L + 191) := by
    rw [fo 4 (by omega) (by omega), hρ7, stF_k (by omega), (x5 L (by omega)).1, hρ5]
    exact stF_s
  have f3 : ρ9.1 L 3 = some (L + 182) := by
    rw [fo 3 (by omega) (by omega), hρ7, stF_k (by omega), (x5 L (by omega)).1, hρ5, stF_k (by omega), (x3 L (by omega)).1, hρ3]
    exact stF_s
  have f01 : ∀ y, y < 2 → ρ9.1 L y = ρ.1 L y := fun y hy => by rw [fo y (by omega) (by omega), hρ7, stF_k (by omega), (x5 L (by omega)).1, hρ5, stF_k (by omega), (x3 L (by omega)).1, hρ3, stF_k (by omega), (a6 L (by omega)).1]
  refine hQ g9 ρ9 ⟨⟨⟨m9, ?_, ?_, ?_, f3, f4, f5, f6, ?_, f7⟩, ?_, fun i hi => ?_, ?_, ?_, ?_, ?_, fun i hi => ⟨?_, hi⟩, fun i j _ _ e => e⟩, ⟨?_, ?_, ?_, fun z => Bool.noConfusion z, fun z => Bool.noConfusion z⟩, fun i hi => absurd hi (Nat.not_lt_zero i), ggL 2, ggL 8, fun j hj => absurd hj (Nat.not_lt_zero j)⟩ ⟨?_, ?_, fun x hx => ?_⟩
  · exact (f01 0 (by omega)).trans l2
  · exact ((y2 (L + 31) (by omega) (by omega)).2).trans l4
  · exact (f01 1 (by omega)).trans l3
  · rw [hρ9]
    exact nwC_s
  · exact st_low (fun x q1 q2 => y2 x (by unfold ad at q1; omega) (by unfold ad at q2; omega)) s1
  · have e : ad L (32 + 30 * i) = L + 32 + 30 * i := by unfold ad; omega
    rw [e]
    exact st_low (fun x q1 q2 => y2 x (by omega) (by omega)) (hs i hi).1
  · exact sc_low (fun x q1 q2 => y4 x (by unfold ad at q1; omega) (by unfold ad at q2; omega)) a1
  · exact ar_low (fun x q1 q2 => y6 x (by unfold ad at q1; omega) (by unfold ad at q2; omega)) b1
  · exact pl_low (fun x q1 q2 => y8 x (by unfold ad at q1; omega) (by unfold ad at q2; omega)) c1
  · exact rd_low (fun x q1 q2 => ⟨y9 x (by unfold ad at q1; omega) (by unfold ad at q2; omega), y9s x (by unfold ad at q2; omega)⟩) d1
  · show ρ9.1 (L + 31) i = some (ad L (32 + 30 * i))
    rw [(y2 (L + 31) (by omega) (by omega)).1, (hs i hi).2, show ad L (32 + 30 * i) = L + 32 + 30 * i by unfold ad; omega]
  · show LR (-99) (vwC g9 (L + 2)) iniV
    rw [vwC_kept (g := g) (fun x q1 q2 => gg x (by omega) (by omega))]
    exact s2
  · show g9 (L + 30) 0 = 0
    rw [gg (L + 30) (by omega) (by omega)]
    exact s3 0
  · show g9 (L + 30) 1 = 0
    rw [gg (L + 30) (by omega) (by omega)]
    exact s3 1
  · rw [hρ9]
    rfl
  · rw [hρ9]
    show ρ8.2.2.2 + 120 = _
    have z8 : ρ8.2.2.2 = ρ6.2.2.2 + 4 + 0 := by
      rw [d4, hρ7]
      rfl
    have z6 : ρ6.2.2.2 = ρ4.2.2.2 + 9 + 3379 := by
      rw [c4, hρ5]
      rfl
    have z4 : ρ4.2.2.2 = ρ2.2.2.2 + 4 + 198 := by
      rw [b4, hρ3]
      rfl
    omega
  · have hx2 := y2 x (by omega) (by omega)
    exact ⟨hx2.1.trans (lo x hx).1, hx2.2.trans (lo x hx).2.1, (gg x (by omega) (by omega)).trans (lo x hx).2.2⟩
theorem L_init_ok (hs : ρ.2.1 L = some (15, 9)) (ht : ρ.2.2.1 = L + 1) (hg : ∀ k, g L k = 0) (hz0 : zrR g ρ (zt 0) [3, 4, 1, 1]) (hz1 : zrR g ρ (zt 1) [3, 1, 5, 40, 8]) (h0 : zt 0 < L) (h1 : zt 1 < L) (hQ : ∀ (g' : Nat → Nat → Int) (ρ' : Ri), RepC g' ρ' L id iniX → NwP g ρ L 204 9955 g' ρ' → Q none (g', ρ')) : WpM zt 48 [AR L] (g, ρ) Q := by
  rw [m_L_init]
  unfold b_L_init_0
  have e4 : ∀ (k : Nat) (cs : List RI) (ls : LsT) (st : List AV) (i : Nat) (Q : Option AV → Sto → Prop), Wp zt k ((.new i, [4]) :: cs) ls st (g, ρ) Q ↔ Wp zt k cs ls (.inr (some (L + 1)) :: st) (setRow g (L + 1) (fun _ => 0), nwC ρ (L + 1) 14 3) Q := fun k cs ls st i Q => wp_new ht
  rw [wp_aln0, wp_obj (by simp), wp_aln0, e4, wp_dup, wp_ci1 (rk := 14) (by omega) (kdI_of nwC_s) (by simp)]
  refine newState ht hz0 hz1 (by omega) (by omega) (fun g1 ρ1 s1 s2 s4 s3 => ?_)
  obtain ⟨n1, n2, n3⟩ := s3
  have hs1 : ρ1.2.1 L = some (15, 9) := ((n3 L (by omega)).2.1).trans hs
  show Wp zt 48 _ _ [AR (L + 1), AR L] (g1, ρ1) Q
  rw [wp_pfr (c := 5) (n0 := 9) hs1 rfl, wp_aln0, wp_iconst]
  have ha : ∀ (k : Nat) (cs : List RI) (ls : LsT) (st : List AV) (i : Nat) (Q : Option AV → Sto → Prop), Wp zt k ((.anewarray i, [2]) :: cs) ls (.inl 5 :: st) (g1, stF ρ1 L 0 (L + 1)) Q ↔ Wp zt k cs ls (.inr (some (L + 31)) :: st) (setRow g1 (L + 31) (fun _ => 0), nwC (stF ρ1 L 0 (L + 1)) (L + 31) 2 5) Q := fun k cs ls st i Q => wp_anewa (n := 5) (by show ρ1.2.2.1 = _; rw [n1]) (by omega)
  have hs1' : (nwC (stF ρ1 L 0 (L + 1)) (L + 31) 2 5).2.1 L = some (15, 9) := (nwC_o (by omega)).trans hs1
  rw [ha, wp_pfr (c := 5) (n0 := 9) hs1' rfl, wp_iconst, wp_isn1, wp_nop]
  obtain ⟨g2, hg2⟩ : ∃ g2, g2 = setRow g1 (L + 31) (fun _ => 0) := ⟨_, rfl⟩
  obtain ⟨ρ2, hρ2⟩ : ∃ ρ2, ρ2 = stF (nwC (stF ρ1 L 0 (L + 1)) (L + 31) 2 5) L 1 (L + 31) := ⟨_, rfl⟩
  rw [← hg2, ← hρ2]
  have a2 : ∀ x, x < L + 31 → ρ2.2.1 x = ρ1.2.1 x := fun x hx => by
    rw [hρ2]
    exact nwC_o (by omega)
  have a3 : ∀ x, x < L + 31 → g2 x = g1 x := fun x hx => by rw [hg2, row_n (by omega)]
  have a9 : ∀ x, x ≠ L → x < L + 31 → ρ2.1 x = ρ1.1 x := fun x h1 h2 => by rw [hρ2, stF_x h1, nwC_r (by omega), stF_x h1]
  have hI : LI g ρ L 0 g2 ρ2 := by
    refine ⟨⟨?_, ?_⟩, ⟨?_, ?_, ?_, ?_⟩, ⟨?_, ?_, fun k => ?_⟩, fun j hj => absurd hj (Nat.not_lt_zero j), fun k => ?_, fun x hx => ⟨?_, ?_, ?_⟩⟩
    · rw [hρ2]
      rfl
    · rw [hρ2]
      show ρ1.2.2.2 + 5 = _
      omega
    · exact (a2 L (by omega)).trans hs1
    · rw [hρ2, stF_k (by omega), nwC_r (by omega)]
      exact stF_s
    · rw [hρ2]
      exact stF_s
    · rw [hρ2]
      exact nwC_s
    · exact st_low (fun x q1 q2 => ⟨a9 x (by omega) (by omega), a2 x (by omega)⟩) s1
    · show LR (-99) (vwC g2 (L + 2)) iniV
      rw [vwC_kept (g := g1) (fun x q1 q2 => a3 x (by omega))]
      exact s2
    · rw [a3 _ (by omega)]
      exact s4 k
    · rw [a3 L (by omega), (n3 L (by omega)).2.2]
      exact hg k
    · exact (a9 x (by omega) (by omega)).trans (n3 x (by omega)).1
    · exact (a2 x (by omega)).trans (n3 x (by omega)).2.1
    · exact (a3 x (by omega)).trans (n3 x (by omega)).2.2
  exact L_loop hz0 hz1 h0 h1 (fun g' ρ' o hI5 => L_tail hz0 hz1 h0 h1 hI5 hQ) 5 0 g2 ρ2 (by omega) hI
end NLF
