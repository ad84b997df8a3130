/-! the law's run, whole -/
section LAX
variable {zt : Nat → Nat} {g g0 : Nat → Nat → Int} {ρ ρ0 : Ri} {L s n : Nat} {Q : Option AV → Sto → Prop}
theorem law_loop (hZ : zrI g0 ρ0 zt L) (hs : ρ0.2.1 s = some (4, n)) (hsL : s < L) (hn : n ≤ 2048) (hg : ∀ j, j < n → i32 (g0 s j)) (hQ : ∀ (g' : Nat → Nat → Int) (ρ' : Ri), ρ'.2 = ρ0.2 → Q (some (AI 1)) (g', ρ')) :
    ∀ (d i : Nat) (X : XV) (h : Nat → Nat) (g1 : Nat → Nat → Int) (ρ1 : Ri), n ≤ i + 4 * d → i ≤ n + 4 → LW g0 ρ0 L X h g1 ρ1 → Wp zt 163 (P 163 18) [some (AR s), some (AR L), some (AR (L + 204)), some (AI i)] [] (g1, ρ1) Q := by
  intro d
  induction d with
  | zero =>
    intro i X h g1 ρ1 h1 h2 hI
    have hs1 : ρ1.2.1 s = some (4, n) := by rw [hI.2.2.2.1]; exact hs
    have hsk := kdI_of hs1
    have hsl := lnA_of hs1
    have hlen := fun (k : Nat) (x : List Nat) (c : List RI) (ls : LsT) (st : List AV) (Q : Option AV → Sto → Prop) => wp_alen (zt := zt) (k := k) (x := x) (c := c) (ls := ls) (st := st) (g := g1) (Q := Q) hsk (by omega)
    have hle : (n : Int) - 4 < (i : Int) := by omega
    have q := hQ g1 ρ1 hI.2.2.2.1
    rw [P_W_law_18]
    simp only [m_W_law, b_W_law_0, P_W_law_1095, b_W_law_1095, wp_aln0, wp_aln1, wp_aln2, wp_asn1, wp_asn2, wp_bipush, wp_ci1, wp_ci2, wp_ci3, wp_ci4, wp_ci5, wp_ci6, wp_ci7, wp_cv1, wp_cv2, wp_cv3, wp_cv4, wp_cv5, wp_cv6, wp_cv7, wp_dup, wp_goto, wp_iadd, wp_iald, wp_iand63, wp_iceq, wp_icgt, wp_iconst, wp_iln3, wp_inc3, wp_iret, wp_isn3, wp_isub, wp_nop, wp_zret, wrI_row, cpI_row, row_s, row_n, row_ss, row_sw, upd_s, upd_n, ad_inj, ad_z, ad_z2, Nat.reduceEqDiff, reduceCtorEq, List.cons_append, List.nil_append, Option.toList_some, Option.toList_none, Int.toNat_natCast, List.length_cons, List.length_nil, Int.cast_ofNat_Int, Nat.reduceAdd, Nat.reduceLeDiff, Nat.reduceLT, Nat.reduceMul, Int.reduceAdd, Int.reduceSub, Int.reduceMul, Int.reduceNeg, Int.reduceLT, Int.reduceLE, Int.reduceEq, Int.reduceToNat, eq_self, true_and, and_true, true_or, or_true, false_or, or_false, if_true, if_false, not_true_eq_false, not_false_eq_true, and_self, ne_eq, b_W_law_18, hlen, hle, hsl]
    (repeat' (first | apply And.intro | split)) <;> first | omega | exact q
  | succ d ih =>
    intro i X h g1 ρ1 h1 h2 hI
    by_cases c : i + 4 ≤ n
    · refine law_sw hI hZ hs hsL hn hg c (fun X' h' g' ρ' hI2 => ?_)
      have i1 := ih (i + 4) X' h' g' ρ' (by omega) (by omega) hI2
      rw [P_W_law_1089]
      simp only [m_W_law, b_W_law_0, P_W_law_1095, b_W_law_1095, wp_aln0, wp_aln1, wp_aln2, wp_asn1, wp_asn2, wp_bipush, wp_ci1, wp_ci2, wp_ci3, wp_ci4, wp_ci5, wp_ci6, wp_ci7, wp_cv1, wp_cv2, wp_cv3, wp_cv4, wp_cv5, wp_cv6, wp_cv7, wp_dup, wp_goto, wp_iadd, wp_iald, wp_iand63, wp_iceq, wp_icgt, wp_iconst, wp_iln3, wp_inc3, wp_iret, wp_isn3, wp_isub, wp_nop, wp_zret, wrI_row, cpI_row, row_s, row_n, row_ss, row_sw, upd_s, upd_n, ad_inj, ad_z, ad_z2, Nat.reduceEqDiff, reduceCtorEq, List.cons_append, List.nil_append, Option.toList_some, Option.toList_none, Int.toNat_natCast, List.length_cons, List.length_nil, Int.cast_ofNat_Int, Nat.reduceAdd, Nat.reduceLeDiff, Nat.reduceLT, Nat.reduceMul, Int.reduceAdd, Int.reduceSub, Int.reduceMul, Int.reduceNeg, Int.reduceLT, Int.reduceLE, Int.reduceEq, Int.reduceToNat, eq_self, true_and, and_true, true_or, or_true, false_or, or_false, if_true, if_false, not_true_eq_false, not_false_eq_true, and_self, ne_eq, b_W_law_1089]
      (repeat' (first | apply And.intro | split)) <;> first | omega | exact i1
    · have hs1 : ρ1.2.1 s = some (4, n) := by rw [hI.2.2.2.1]; exact hs
      have hsk := kdI_of hs1
      have hsl := lnA_of hs1
      have hlen := fun (k : Nat) (x : List Nat) (c : List RI) (ls : LsT) (st : List AV) (Q : Option AV → Sto → Prop) => wp_alen (zt := zt) (k := k) (x := x) (c := c) (ls := ls) (st := st) (g := g1) (Q := Q) hsk (by omega)
      have hle : (n : Int) - 4 < (i : Int) := by omega
      have q := hQ g1 ρ1 hI.2.2.2.1
      rw [P_W_law_18]
      simp only [m_W_law, b_W_law_0, P_W_law_1095, b_W_law_1095, wp_aln0, wp_aln1, wp_aln2, wp_asn1, wp_asn2, wp_bipush, wp_ci1, wp_ci2, wp_ci3, wp_ci4, wp_ci5, wp_ci6, wp_ci7, wp_cv1, wp_cv2, wp_cv3, wp_cv4, wp_cv5, wp_cv6, wp_cv7, wp_dup, wp_goto, wp_iadd, wp_iald, wp_iand63, wp_iceq, wp_icgt, wp_iconst, wp_iln3, wp_inc3, wp_iret, wp_isn3, wp_isub, wp_nop, wp_zret, wrI_row, cpI_row, row_s, row_n, row_ss, row_sw, upd_s, upd_n, ad_inj, ad_z, ad_z2, Nat.reduceEqDiff, reduceCtorEq, List.cons_append, List.nil_append, Option.toList_some, Option.toList_none, Int.toNat_natCast, List.length_cons, List.length_nil, Int.cast_ofNat_Int, Nat.reduceAdd, Nat.reduceLeDiff, Nat.reduceLT, Nat.reduceMul, Int.reduceAdd, Int.reduceSub, Int.reduceMul, Int.reduceNeg, Int.reduceLT, Int.reduceLE, Int.reduceEq, Int.reduceToNat, eq_self, true_and, and_true, true_or, or_true, false_or, or_false, if_true, if_false, not_true_eq_false, not_false_eq_true, and_self, ne_eq, b_W_law_18, hlen, hle, hsl]
      (repeat' (first | apply And.intro | split)) <;> first | omega | exact q
theorem law_ok (hs : ρ.2.1 s = some (4, n)) (hsL : s < L) (hn : n ≤ 2048) (hg : ∀ j, j < n → i32 (g s j)) (ht : ρ.2.2.1 = L) (hZ : zrI g ρ zt L) (hQ : ∀ (g' : Nat → Nat → Int) (ρ' : Ri), ρ'.2.2.1 = L + 214 → ρ'.2.2.2 = ρ.2.2.2 + 19540 → Q (some (AI 1)) (g', ρ')) : WpM zt 163 [AR s] (g, ρ) Q := by
  rw [m_W_law]
  unfold b_W_law_0
  obtain ⟨z, z0, z1, z2, z3, z4⟩ := id hZ
  have e5 : ∀ (k : Nat) (cs : List RI) (ls : LsT) (st : List AV) (i : Nat) (Q : Option AV → Sto → Prop), Wp zt k ((.new i, [5]) :: cs) ls st (g, ρ) Q ↔ Wp zt k cs ls (.inr (some L) :: st) (setRow g L (fun _ => 0), nwC ρ L 15 9) Q := fun k cs ls st i Q => wp_new ht
  rw [e5, wp_dup, wp_ci1 (rk := 15) (by omega) (kdI_of nwC_s) (by simp)]
  refine L_init_ok nwC_s rfl (fun k => by rw [row_s]) (zr_low (nwC_o (by have := z 0 (by omega); omega)) (row_n (by have := z 0 (by omega); omega)) z0) (zr_low (nwC_o (by have := z 1 (by omega); omega)) (row_n (by have := z 1 (by omega); omega)) z1) (z 0 (by omega)) (z 1 (by omega)) (fun g1 ρ1 a1 a2 => ?_)
  obtain ⟨n1, n2, n3⟩ := a2
  show Wp zt 163 _ _ [AR L] (g1, ρ1) Q
  have e6 : ∀ (k : Nat) (cs : List RI) (ls : LsT) (st : List AV) (i : Nat) (Q : Option AV → Sto → Prop), Wp zt k ((.new i, [6]) :: cs) ls st (g1, ρ1) Q ↔ Wp zt k cs ls (.inr (some (L + 204)) :: st) (setRow g1 (L + 204) (fun _ => 0), nwC ρ1 (L + 204) 16 13) Q := fun k cs ls st i Q => wp_new n1
  rw [wp_asn1, e6, wp_dup, wp_ci1 (rk := 16) (by omega) (kdI_of nwC_s) (by simp)]
  refine M_init_ok nwC_s rfl (fun k => by rw [row_s]) (fun g2 ρ2 b1 b2 => ?_)
  obtain ⟨m1, m2, m3⟩ := b2
  show Wp zt 163 _ _ [AR (L + 204)] (g2, ρ2) Q
  rw [wp_asn2, wp_iconst, wp_isn3, wp_nop]
  -- what the first making left stands behind the second one
  have lo2 : ∀ x, x < L + 204 → ρ2.1 x = ρ1.1 x ∧ ρ2.2.1 x = ρ1.2.1 x ∧ g2 x = g1 x := fun x hx => ⟨((m3 x hx).1).trans (nwC_r (by omega)), ((m3 x hx).2.1).trans (nwC_o (by omega)), ((m3 x hx).2.2).trans (row_n (by omega))⟩
  have lo1 : ∀ x, x < L → ρ2.2.1 x = ρ.2.1 x ∧ g2 x = g x := fun x hx => ⟨((lo2 x (by omega)).2.1).trans (((n3 x hx).2.1).trans (nwC_o (by omega))), ((lo2 x (by omega)).2.2).trans (((n3 x hx).2.2).trans (row_n (by omega)))⟩
  have hC : RepC g2 ρ2 L id iniX := by
    obtain ⟨⟨l1, l2, l3, l4, l5, l6, l7, l8, l9⟩, c2⟩ := a1.kept (g' := g2) iniX_wf (fun x q1 q2 => (lo2 x (by unfold ad at q2; omega)).2.2)
    have rg : ∀ (b k : Nat), b + k ≤ L + 204 → rgE ρ1 ρ2 b k := fun b k hb x q1 q2 => ⟨(lo2 x (by omega)).1, (lo2 x (by omega)).2.1⟩
    refine ⟨⟨?_, st_low (rg _ _ (by unfold ad; omega)) l2, fun i hi => st_low (rg _ _ (by unfold ad; omega)) (l3 i hi), sc_low (rg _ _ (by unfold ad; omega)) l4, ar_low (rg _ _ (by unfold ad; omega)) l5, pl_low (rg _ _ (by unfold ad; omega)) l6, rd_low (rg _ _ (by unfold ad; omega)) l7, fun i hi => ?_, l9⟩, c2⟩
    · unfold isLf at l1 ⊢
      rw [(lo2 L (by omega)).1, (lo2 L (by omega)).2.1, (lo2 (ad L 31) (by unfold ad; omega)).2.1, (lo2 (ad L 203) (by unfold ad; omega)).2.1]
      exact l1
    · rw [(lo2 (ad L 31) (by unfold ad; omega)).1]
      exact l8 i hi
  have hZ2 : zrI g2 ρ2 zt L := ⟨z, zr_low (lo1 _ (z 0 (by omega))).1 (lo1 _ (z 0 (by omega))).2 z0, zr_low (lo1 _ (z 1 (by omega))).1 (lo1 _ (z 1 (by omega))).2 z1, zr_low (lo1 _ (z 2 (by omega))).1 (lo1 _ (z 2 (by omega))).2 z2, zr_low (lo1 _ (z 3 (by omega))).1 (lo1 _ (z 3 (by omega))).2 z3, zr_low (lo1 _ (z 4 (by omega))).1 (lo1 _ (z 4 (by omega))).2 z4⟩
  refine law_loop (g0 := g2) (ρ0 := ρ2) hZ2 ((lo1 s hsL).1.trans hs) hsL hn (fun j hj => by rw [(lo1 s hsL).2]; exact hg j hj) (fun g' ρ' hr => hQ g' ρ' ?_ ?_) n 0 iniX id g2 ρ2 (by omega) (by omega) ⟨iniX_wf, hC, b1, rfl, fun x _ => rfl⟩
  · rw [hr]
    exact m1
  · have e1 : (nwC ρ1 (L + 204) 16 13).2.2.2 = ρ1.2.2.2 + 13 := rfl
    have e2 : (nwC ρ L 15 9).2.2.2 = ρ.2.2.2 + 9 := rfl
    rw [hr]
    rw [e1] at m2
    rw [e2] at n2
    clear hQ hr hZ2 hC lo1 lo2 hZ z0 z1 z2 z3 z4 b1 a1 e1 e2 n3 m3
    generalize ρ2.2.2.2 = x2 at *
    generalize ρ1.2.2.2 = x1 at *
    generalize ρ.2.2.2 = x0 at *
    omega
end LAX
