/-! CONSTRUCTORS of the state and of the class -/
section LOW
variable {ρ ρ' : Ri} {a : Nat}
/-- alike from a on, for n cells -/
def rgE (ρ ρ' : Ri) (a n : Nat) : Prop := ∀ x, a ≤ x → x < a + n → ρ'.1 x = ρ.1 x ∧ ρ'.2.1 x = ρ.2.1 x
theorem sc_low (h : rgE ρ ρ' a 9) (hS : isSc ρ a) : isSc ρ' a := by
  have e : ∀ j, j ≤ 8 → ρ'.2.1 (ad a j) = ρ.2.1 (ad a j) := fun j hj => (h _ (by unfold ad; omega) (by unfold ad; omega)).2
  have e0 := h a (Nat.le_refl _) (by omega)
  unfold isSc at hS ⊢
  rw [e0.1, e0.2, e 1 (by omega), e 2 (by omega), e 3 (by omega), e 4 (by omega), e 5 (by omega), e 6 (by omega), e 7 (by omega), e 8 (by omega)]
  exact hS
theorem ar_low (h : rgE ρ ρ' a 3) (hS : isAr ρ a) : isAr ρ' a := by
  have e : ∀ j, j ≤ 2 → ρ'.2.1 (ad a j) = ρ.2.1 (ad a j) := fun j hj => (h _ (by unfold ad; omega) (by unfold ad; omega)).2
  have e0 := h a (Nat.le_refl _) (by omega)
  unfold isAr at hS ⊢
  rw [e0.1, e0.2, e 1 (by omega), e 2 (by omega)]
  exact hS
theorem pl_low (h : rgE ρ ρ' a 7) (hS : isPl ρ a) : isPl ρ' a := by
  have e : ∀ j, j ≤ 6 → ρ'.2.1 (ad a j) = ρ.2.1 (ad a j) := fun j hj => (h _ (by unfold ad; omega) (by unfold ad; omega)).2
  have e0 := h a (Nat.le_refl _) (by omega)
  unfold isPl at hS ⊢
  rw [e0.1, e0.2, e 1 (by omega), e 2 (by omega), e 3 (by omega), e 4 (by omega), e 5 (by omega), e 6 (by omega)]
  exact hS
theorem rd_low (h : rgE ρ ρ' a 1) (hS : isRd ρ a) : isRd ρ' a := by
  unfold isRd at hS ⊢
  rw [(h a (Nat.le_refl _) (by omega)).2]
  exact hS
theorem st_low (h : rgE ρ ρ' a 30) (hS : isStX ρ a) : isStX ρ' a := by
  obtain ⟨s1, s2, s3, s4, s5, s6⟩ := hS
  have e0 := h a (Nat.le_refl _) (by omega)
  refine ⟨?_, sc_low (fun x z z2 => h x (by unfold ad at z; omega) (by unfold ad at z2; omega)) s2, sc_low (fun x z z2 => h x (by unfold ad at z; omega) (by unfold ad at z2; omega)) s3, sc_low (fun x z z2 => h x (by unfold ad at z; omega) (by unfold ad at z2; omega)) s4, ?_, ?_⟩
  · unfold isSt at s1 ⊢
    rw [e0.1, e0.2, (h (ad a 10) (by unfold ad; omega) (by unfold ad; omega)).2, (h (ad a 29) (by unfold ad; omega) (by unfold ad; omega)).2]
    exact s1
  · rw [(h (ad a 10) (by unfold ad; omega) (by unfold ad; omega)).1]
    exact s5
  · rw [(h (ad a 10) (by unfold ad; omega) (by unfold ad; omega)).1]
    exact s6
theorem zr_low {g g' : Nat → Nat → Int} {z : Nat} {v : List Int} (e2 : ρ'.2.1 z = ρ.2.1 z) (hg : g' z = g z) (hr : zrR g ρ z v) : zrR g' ρ' z v := by
  obtain ⟨q1, q2, q3⟩ := hr
  refine ⟨?_, ?_, fun j hj => by rw [hg]; exact q3 j hj⟩
  · obtain ⟨N, hN⟩ := q1
    exact ⟨N, e2.trans hN⟩
  · unfold lnA at q2 ⊢
    rw [e2]
    exact q2
end LOW
section NST
variable {zt : Nat → Nat} {g : Nat → Nat → Int} {ρ : Ri} {Q : Option AV → Sto → Prop} {t : Nat}
theorem newScene (ht : ρ.2.2.1 = t) (hz0 : zrR g ρ (zt 0) [3, 4, 1, 1]) (hz1 : zrR g ρ (zt 1) [3, 1, 5, 40, 8]) (h0 : zt 0 < t) (h1 : zt 1 < t) (hQ : ∀ (g' : Nat → Nat → Int) (ρ' : Ri), isSc ρ' t → LR (-99) (vwC g' t) iniV → NwP g ρ t 9 326 g' ρ' → Q none (g', ρ')) : WpM zt 25 [AR t] (setRow g t (fun _ => 0), nwC ρ t 13 11) Q := by
  refine S_init_ok nwC_s rfl (fun k => by rw [row_s]) (zr_low (nwC_o (by omega)) (row_n (by omega)) hz0) (zr_low (nwC_o (by omega)) (row_n (by omega)) hz1) h0 h1 (fun g' ρ' s1 s2 s3 => ?_)
  obtain ⟨n1, n2, n3⟩ := s3
  refine hQ g' ρ' s1 s2 ⟨n1, ?_, fun x hx => ?_⟩
  · rw [n2]
    show ρ.2.2.2 + 11 + 315 = _
    omega
  · obtain ⟨q1, q2, q3⟩ := n3 x hx
    exact ⟨q1.trans (nwC_r (by omega)), q2.trans (nwC_o (by omega)), q3.trans (row_n (by omega))⟩
theorem T_round {u i : Nat} (hi : i < 2) (hu : ρ.2.2.1 = u) (htu : t + 10 < u) (hs : ρ.2.1 t = some (14, 3)) (h1 : ρ.1 t 1 = some (t + 10)) (hk : ρ.2.1 (t + 10) = some (3, 2)) (hz0 : zrR g ρ (zt 0) [3, 4, 1, 1]) (hz1 : zrR g ρ (zt 1) [3, 1, 5, 40, 8]) (h0 : zt 0 < u) (h2 : zt 1 < u)
    (kk : ∀ (g' : Nat → Nat → Int) (ρ' : Ri), isSc ρ' u → LR (-99) (vwC g' u) iniV → ρ'.1 (t + 10) i = some u → (∀ x, x < u → ρ'.2.1 x = ρ.2.1 x ∧ g' x = g x) → (∀ x y, x < u → ¬ (x = t + 10 ∧ y = i) → ρ'.1 x y = ρ.1 x y) → ρ'.2.2.1 = u + 9 → ρ'.2.2.2 = ρ.2.2.2 + 326 → Wp zt 45 (P 45 25) [some (AR t), some (AI ((i : Int) + 1))] [] (g', ρ') Q) : Wp zt 45 (P 45 25) [some (AR t), some (AI i)] [] (g, ρ) Q := by
  have hl : ¬ (2 : Int) ≤ (i : Int) := by omega
  have e3 : ∀ (k : Nat) (cs : List RI) (ls : LsT) (st : List AV) (i : Nat) (Q : Option AV → Sto → Prop), Wp zt k ((.new i, [3]) :: cs) ls st (g, ρ) Q ↔ Wp zt k cs ls (.inr (some u) :: st) (setRow g u (fun _ => 0), nwC ρ u 13 11) Q := fun k cs ls st i Q => wp_new hu
  have hkd : kdI (nwC ρ u 13 11) u 13 := kdI_of nwC_s
  rw [P_T_init_25]
  simp only [m_T_init, b_T_init_0, wp_aln0, wp_ci1, wp_ci2, wp_ci3, wp_ci4, wp_ci5, wp_ci6, wp_ci7, wp_dup, wp_goto, wp_icge, wp_iconst, wp_iln1, wp_inc1, wp_isn1, wp_nop, wp_ret, wrI_row, cpI_row, row_s, row_n, row_ss, row_sw, upd_s, upd_n, ad_inj, ad_z, ad_z2, Nat.reduceEqDiff, reduceCtorEq, List.cons_append, List.nil_append, Option.toList_some, Option.toList_none, Int.toNat_natCast, List.length_cons, List.length_nil, Int.cast_ofNat_Int, Nat.reduceAdd, Nat.reduceLeDiff, Nat.reduceLT, Nat.reduceMul, Int.reduceAdd, Int.reduceSub, Int.reduceMul, Int.reduceNeg, Int.reduceLT, Int.reduceLE, Int.reduceEq, Int.reduceToNat, eq_self, true_and, and_true, true_or, or_true, false_or, or_false, if_true, if_false, not_true_eq_false, not_false_eq_true, and_self, ne_eq, b_T_init_25, hl, gf_4_1 (kdI_of hs) h1, e3, hkd]
  (repeat' (first | apply And.intro | split)) <;> first | omega | skip
  refine newScene hu hz0 hz1 h0 h2 (fun g' ρ' s1 s2 s3 => ?_)
  obtain ⟨n1, n2, n3⟩ := s3
  have hk' : kdI ρ' (t + 10) 3 := kdI_of (((n3 (t + 10) htu).2.1).trans hk)
  have hl' : lnA ρ' (t + 10) = 2 := lnA_of (((n3 (t + 10) htu).2.1).trans hk)
  have k1 := kk g' (wrR ρ'.1 (t + 10) i (some u), ρ'.2) (sc_low (ρ := ρ') (fun x h1 h2 => ⟨by
    funext y
    exact wrR_x (by omega), rfl⟩) s1) s2 wrR_s (fun x hx => ⟨(n3 x hx).2.1, (n3 x hx).2.2⟩) (fun x y hx hne => by
    show wrR ρ'.1 (t + 10) i (some u) x y = _
    unfold wrR
    rw [if_neg hne, (n3 x hx).1]) n1 n2
  simp only [m_T_init, b_T_init_0, wp_aln0, wp_ci1, wp_ci2, wp_ci3, wp_ci4, wp_ci5, wp_ci6, wp_ci7, wp_dup, wp_goto, wp_icge, wp_iconst, wp_iln1, wp_inc1, wp_isn1, wp_nop, wp_ret, wrI_row, cpI_row, row_s, row_n, row_ss, row_sw, upd_s, upd_n, ad_inj, ad_z, ad_z2, Nat.reduceEqDiff, reduceCtorEq, List.cons_append, List.nil_append, Option.toList_some, Option.toList_none, Int.toNat_natCast, List.length_cons, List.length_nil, Int.cast_ofNat_Int, Nat.reduceAdd, Nat.reduceLeDiff, Nat.reduceLT, Nat.reduceMul, Int.reduceAdd, Int.reduceSub, Int.reduceMul, Int.reduceNeg, Int.reduceLT, Int.reduceLE, Int.reduceEq, Int.reduceToNat, eq_self, true_and, and_true, true_or, or_true, false_or, or_false, if_true, if_false, not_true_eq_false, not_false_eq_true, and_self, ne_eq, wp_qast3 hk' (qsc_kd s1), hl']
  (repeat' (first | apply And.intro | split)) <;> first | omega | exact k1
theorem T_init_ok (hs : ρ.2.1 t = some (14, 3)) (ht : ρ.2.2.1 = t + 1) (hz0 : zrR g ρ (zt 0) [3, 4, 1, 1]) (hz1 : zrR g ρ (zt 1) [3, 1, 5, 40, 8]) (h0 : zt 0 < t) (h1 : zt 1 < t) (hQ : ∀ (g' : Nat → Nat → Int) (ρ' : Ri), isStX ρ' t → LR (-99) (vwC g' (ad t 1)) iniV → (∀ k, g' (ad t 29) k = 0) → NwP g ρ t 30 982 g' ρ' → Q none (g', ρ')) : WpM zt 45 [AR t] (g, ρ) Q := by
  rw [m_T_init]
  unfold b_T_init_0
  have e3 : ∀ (k : Nat) (cs : List RI) (ls : LsT) (st : List AV) (i : Nat) (Q : Option AV → Sto → Prop), Wp zt k ((.new i, [3]) :: cs) ls st (g, ρ) Q ↔ Wp zt k cs ls (.inr (some (t + 1)) :: st) (setRow g (t + 1) (fun _ => 0), nwC ρ (t + 1) 13 11) Q := fun k cs ls st i Q => wp_new ht
  rw [wp_aln0, wp_obj (by simp), wp_aln0, e3, wp_dup, wp_ci1 (rk := 13) (by omega) (kdI_of nwC_s) (by simp)]
  refine newScene ht hz0 hz1 (by omega) (by omega) (fun g1 ρ1 s1 s2 s3 => ?_)
  obtain ⟨n1, n2, n3⟩ := s3
  have hs1 : ρ1.2.1 t = some (14, 3) := ((n3 t (by omega)).2.1).trans hs
  show Wp zt 45 _ _ [AR (t + 1), AR t] (g1, ρ1) Q
  rw [wp_pfr (c := 4) (n0 := 3) hs1 rfl, wp_aln0, wp_iconst]
  have ha : ∀ (k : Nat) (cs : List RI) (ls : LsT) (st : List AV) (i : Nat) (Q : Option AV → Sto → Prop), Wp zt k ((.anewarray i, [3]) :: cs) ls (.inl 2 :: st) (g1, stF ρ1 t 0 (t + 1)) Q ↔ Wp zt k cs ls (.inr (some (t + 10)) :: st) (setRow g1 (t + 10) (fun _ => 0), nwC (stF ρ1 t 0 (t + 1)) (t + 10) 3 2) Q := fun k cs ls st i Q => wp_anewa (n := 2) (by show ρ1.2.2.1 = _; rw [n1]) (by omega)
  have hs1' : (nwC (stF ρ1 t 0 (t + 1)) (t + 10) 3 2).2.1 t = some (14, 3) := (nwC_o (by omega)).trans hs1
  rw [ha, wp_pfr (c := 4) (n0 := 3) hs1' rfl, wp_iconst, wp_isn1, wp_nop]
  obtain ⟨g2, hg2⟩ : ∃ g2, g2 = setRow g1 (t + 10) (fun _ => 0) := ⟨_, rfl⟩
  obtain ⟨ρ2, hρ2⟩ : ∃ ρ2, ρ2 = stF (nwC (stF ρ1 t 0 (t + 1)) (t + 10) 3 2) t 1 (t + 10) := ⟨_, rfl⟩
  rw [← hg2, ← hρ2]
  have a1 : ∀ x, x < t → ρ2.1 x = ρ.1 x := fun x hx => by rw [hρ2, stF_x (by omega), nwC_r (by omega), stF_x (by omega), (n3 x (by omega)).1]
  have a2 : ∀ x, x < t + 10 → ρ2.2.1 x = ρ1.2.1 x := fun x hx => by
    rw [hρ2]
    exact nwC_o (by omega)
  have a3 : ∀ x, x < t + 10 → g2 x = g1 x := fun x hx => by rw [hg2, row_n (by omega)]
  have a4 : ρ2.2.2.1 = t + 11 := by rw [hρ2]; rfl
  have a5 : ρ2.2.2.2 = ρ.2.2.2 + 328 := by
    rw [hρ2]
    show ρ1.2.2.2 + 2 = _
    omega
  have a6 : ρ2.1 t 0 = some (t + 1) := by
    rw [hρ2, stF_k (by omega)]
    show (if t = t + 10 then none else (stF ρ1 t 0 (t + 1)).1 t 0) = _
    rw [if_neg (by omega)]
    exact stF_s
  have a7 : ρ2.1 t 1 = some (t + 10) := by
    rw [hρ2]
    exact stF_s
  have a8 : ρ2.2.1 (t + 10) = some (3, 2) := by
    rw [hρ2]
    exact nwC_s
  have a9 : ∀ x, t < x → x < t + 10 → ρ2.1 x = ρ1.1 x := fun x h1 h2 => by rw [hρ2, stF_x (by omega), nwC_r (by omega), stF_x (by omega)]
  have z0' : zrR g2 ρ2 (zt 0) [3, 4, 1, 1] := zr_low ((a2 _ (by omega)).trans (n3 _ (by omega)).2.1) ((a3 _ (by omega)).trans (n3 _ (by omega)).2.2) hz0
  have z1' : zrR g2 ρ2 (zt 1) [3, 1, 5, 40, 8] := zr_low ((a2 _ (by omega)).trans (n3 _ (by omega)).2.1) ((a3 _ (by omega)).trans (n3 _ (by omega)).2.2) hz1
  refine T_round (i := 0) (u := t + 11) (by omega) a4 (by omega) ((a2 t (by omega)).trans hs1) a7 a8 z0' z1' (by omega) (by omega) (fun g3 ρ3 b1 b2 b3 b4 b5 b6 b7 => ?_)
  have lo3 : ∀ x, x < t + 10 → ρ3.1 x = ρ2.1 x ∧ ρ3.2.1 x = ρ2.2.1 x := fun x hx => ⟨by
    funext y
    exact b5 x y (by omega) (by omega), (b4 x (by omega)).1⟩
  refine T_round (i := 1) (u := t + 20) (by omega) b6 (by omega) (((b4 t (by omega)).1.trans (a2 t (by omega))).trans hs1) (by rw [(lo3 t (by omega)).1]; exact a7) ((b4 _ (by omega)).1.trans a8) (zr_low (b4 _ (by omega)).1 (b4 _ (by omega)).2 z0') (zr_low (b4 _ (by omega)).1 (b4 _ (by omega)).2 z1') (by omega) (by omega) (fun g4 ρ4 c1 c2 c3 c4 c5 c6 c7 => ?_)
  have lo4 : ∀ x, x < t + 20 → x ≠ t + 10 → ρ4.1 x = ρ3.1 x ∧ ρ4.2.1 x = ρ3.2.1 x := fun x hx hne => ⟨by
    funext y
    exact c5 x y hx (by omega), (c4 x hx).1⟩
  rw [P_T_init_25]
  have hs4 : ρ4.2.1 t = some (14, 3) := (((c4 t (by omega)).1.trans (b4 t (by omega)).1).trans (a2 t (by omega))).trans hs1
  simp only [m_T_init, b_T_init_0, wp_aln0, wp_ci1, wp_ci2, wp_ci3, wp_ci4, wp_ci5, wp_ci6, wp_ci7, wp_dup, wp_goto, wp_icge, wp_iconst, wp_iln1, wp_inc1, wp_isn1, wp_nop, wp_ret, wrI_row, cpI_row, row_s, row_n, row_ss, row_sw, upd_s, upd_n, ad_inj, ad_z, ad_z2, Nat.reduceEqDiff, reduceCtorEq, List.cons_append, List.nil_append, Option.toList_some, Option.toList_none, Int.toNat_natCast, List.length_cons, List.length_nil, Int.cast_ofNat_Int, Nat.reduceAdd, Nat.reduceLeDiff, Nat.reduceLT, Nat.reduceMul, Int.reduceAdd, Int.reduceSub, Int.reduceMul, Int.reduceNeg, Int.reduceLT, Int.reduceLE, Int.reduceEq, Int.reduceToNat, eq_self, true_and, and_true, true_or, or_true, false_or, or_false, if_true, if_false, not_true_eq_false, not_false_eq_true, and_self, ne_eq, b_T_init_25]
  rw [P_T_init_49]
  unfold b_T_init_49
  refine nw_field (t := t + 29) (n := 2) rfl hs4 rfl c6 (by omega) (by omega) ?_
  rw [wp_ret]
  have f1 : ∀ x, x ≠ t → x ≠ t + 29 → (stF (nwC ρ4 (t + 29) 1 2) t 2 (t + 29)).1 x = ρ4.1 x := fun x h1 h2 => by rw [stF_x h1, nwC_r h2]
  have f2 : ∀ x, x ≠ t + 29 → (stF (nwC ρ4 (t + 29) 1 2) t 2 (t + 29)).2.1 x = ρ4.2.1 x := fun x h2 => nwC_o h2
  have ft : ∀ y, y ≠ 2 → (stF (nwC ρ4 (t + 29) 1 2) t 2 (t + 29)).1 t y = ρ2.1 t y := fun y hy => by
    rw [stF_k hy, nwC_r (by omega), (lo4 t (by omega) (by omega)).1, (lo3 t (by omega)).1]
  have r10 : ρ4.1 (t + 10) 0 = some (t + 11) := (c5 (t + 10) 0 (by omega) (by omega)).trans b3
  refine hQ _ _ ⟨⟨?_, ?_, ?_, ?_, ?_, ?_⟩, ?_, ?_, ?_, ?_, ?_⟩ ?_ (fun k => ?_) ⟨rfl, ?_, fun x hx => ⟨?_, ?_, ?_⟩⟩
  · exact (f2 t (by omega)).trans hs4
  · exact (ft 0 (by omega)).trans a6
  · exact ((f2 (t + 10) (by omega)).trans (c4 (t + 10) (by omega)).1).trans ((b4 (t + 10) (by omega)).1.trans a8)
  · exact (ft 1 (by omega)).trans a7
  · exact nwC_s
  · exact stF_s
  · refine sc_low (ρ := ρ1) (fun x h1 h2 => ?_) s1
    unfold ad at h1 h2
    exact ⟨((f1 x (by omega) (by omega)).trans (lo4 x (by omega) (by omega)).1).trans ((lo3 x (by omega)).1.trans (a9 x (by omega) (by omega))), ((f2 x (by omega)).trans (lo4 x (by omega) (by omega)).2).trans ((lo3 x (by omega)).2.trans (a2 x (by omega)))⟩
  · refine sc_low (ρ := ρ3) (fun x h1 h2 => ?_) b1
    unfold ad at h1 h2
    exact ⟨(f1 x (by omega) (by omega)).trans (lo4 x (by omega) (by omega)).1, (f2 x (by omega)).trans (lo4 x (by omega) (by omega)).2⟩
  · refine sc_low (ρ := ρ4) (fun x h1 h2 => ?_) c1
    unfold ad at h1 h2
    exact ⟨f1 x (by omega) (by omega), f2 x (by omega)⟩
  · show (stF (nwC ρ4 (t + 29) 1 2) t 2 (t + 29)).1 (t + 10) 0 = some (t + 11)
    rw [f1 _ (by omega) (by omega)]
    exact r10
  · show (stF (nwC ρ4 (t + 29) 1 2) t 2 (t + 29)).1 (t + 10) 1 = some (t + 20)
    rw [f1 _ (by omega) (by omega)]
    exact c3
  · have ev : vwC (setRow g4 (t + 29) fun _ => 0) (ad t 1) = vwC g1 (ad t 1) := vwC_kept (fun x h1 h2 => by
      unfold ad at h1 h2
      rw [row_n (by omega), (c4 x (by omega)).2, (b4 x (by omega)).2, a3 x (by omega)])
    rw [ev]
    exact s2
  · show setRow g4 (t + 29) (fun _ => 0) (t + 29) k = 0
    rw [row_s]
  · show ρ4.2.2.2 + 2 = _
    omega
  · exact (f1 x (by omega) (by omega)).trans (((lo4 x (by omega) (by omega)).1).trans ((lo3 x (by omega)).1.trans (a1 x hx)))
  · exact (f2 x (by omega)).trans (((lo4 x (by omega) (by omega)).2).trans ((lo3 x (by omega)).2.trans ((a2 x (by omega)).trans (n3 x (by omega)).2.1)))
  · rw [row_n (by omega), (c4 x (by omega)).2, (b4 x (by omega)).2, a3 x (by omega)]
    exact (n3 x (by omega)).2.2
end NST
