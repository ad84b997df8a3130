/-! findPlan of the reference, whole -/
theorem amin_minB {v : Nat → Int} (hv : ∀ j, v j ≤ 1000000) : ∀ n : Nat, v (amin v (n + 1)) = minB (fun _ => true) v (n + 1)
  | 0 => by
    rw [amin_1]
    have h0 := hv 0
    have e : minB (fun _ => true) v 1 = min 1000000 (v 0) := rfl
    rw [e]
    omega
  | n + 1 => by
    have h1 := amin_minB hv n
    have e1 : amin v (n + 1 + 1) = if v (n + 1) < v (amin v (n + 1)) then n + 1 else amin v (n + 1) := rfl
    have e2 : minB (fun _ => true) v (n + 1 + 1) = min (minB (fun _ => true) v (n + 1)) (v (n + 1)) := rfl
    rw [e1, e2, ← h1]
    split <;> omega
section MLW
variable {zt : Nat → Nat} {g : Nat → Nat → Int} {ρ : Ri} {a : Nat} {U : Vw} {F N h : Nat} {c : Nat → Nat → Int} {sp : Int}
theorem lays_loop (hM : isMd ρ a) (hR : LR (-1) (vwM (g (ad a 1))) U) (hU : WFV (-1) U) (hN : (N : Int) = U 0 0) (hh : (h : Int) = U 4 1) (hc : ∀ f m, 0 ≤ c f m) (hF9 : F ≤ 99) (hI : rsI (g (ad a 7)) F N h c (clsV U sp) 0) (hsp : 0 ≤ sp ∧ sp ≤ 9) {T : Int} {Q : Option AV → Sto → Prop}
    (hQ : ∀ Y : Nat → Int, (∀ j, j < F → Y j = ((plnV F N h c (clsV U sp) j).1 : Nat)) → Q (some (AI T)) (setRow g (ad a 8) Y, ρ)) :
    ∀ (d f : Nat) (Y : Nat → Int) (o7 o8 o9 o10 o11 o12 o13 : Option AV), f + 1 + d = F → (∀ j, j < f + 1 → Y j = ((plnV F N h c (clsV U sp) j).1 : Nat)) → Rv F N h c (clsV U sp) (F - f) (plnV F N h c (clsV U sp) f).1 (plnV F N h c (clsV U sp) f).2 < 1000000 → Wp zt 142 (P 142 101) [some (AR a), some (AI F), some (AI sp), some (AI h), some (AI T), some (AI (((plnV F N h c (clsV U sp) f).2 : Int) + 1)), some (AI ((f : Int) + 1)), o7, o8, o9, o10, o11, o12, o13] [] (setRow g (ad a 8) Y, ρ) Q := by
  have b0 := hU.1
  have b4 := hU.2.2.2.1
  have e0 := m_0 hR
  rw [← hN] at e0
  have z18 : (ad a 1 = ad a 8) ↔ False := iff_false_intro (by unfold ad; omega)
  have hRr : ∀ Y, LR (-1) (vwM (setRow g (ad a 8) Y (ad a 1))) U := fun Y => by
    rw [row_n (by unfold ad; omega)]
    exact hR
  intro d
  induction d with
  | zero =>
    intro f Y o7 o8 o9 o10 o11 o12 o13 hf hY hv
    have q := hQ Y (fun j hj => hY j (by omega))
    have hfl : (F : Int) ≤ (f : Int) + 1 := by omega
    have hpb := plnV_b (F := F) (c := c) (cl := clsV U sp) (M := N) (h := h) (by omega) (by omega) f
    rw [P_M_lays_101]
    simp only [m_M_lays, b_M_lays_0, P_M_lays_20, b_M_lays_20, P_M_lays_56, b_M_lays_56, P_M_lays_62, b_M_lays_62, P_M_lays_75, b_M_lays_75, P_M_lays_77, b_M_lays_77, P_M_lays_85, b_M_lays_85, P_M_lays_95, b_M_lays_95, P_M_lays_164, b_M_lays_164, P_M_lays_165, b_M_lays_165, P_M_lays_190, b_M_lays_190, P_M_lays_194, b_M_lays_194, P_M_lays_195, b_M_lays_195, P_M_lays_215, b_M_lays_215, P_M_lays_224, b_M_lays_224, P_M_lays_225, b_M_lays_225, P_M_lays_256, b_M_lays_256, P_M_lays_258, b_M_lays_258, P_M_lays_277, b_M_lays_277, P_M_lays_290, b_M_lays_290, P_M_lays_291, b_M_lays_291, P_M_lays_308, b_M_lays_308, wp_abs, wp_aln0, wp_bipush, wp_copy, wp_cs1, wp_cs2, wp_cs3, wp_cs4, wp_cs5, wp_cs6, wp_cs7, wp_cv1, wp_cv2, wp_cv3, wp_cv4, wp_cv5, wp_cv6, wp_cv7, wp_goto, wp_iadd, wp_iald, wp_iast, wp_iceq, wp_icge, wp_icgt, wp_icne, wp_iconst, wp_il10, wp_il11, wp_il12, wp_il13, wp_il4, wp_il5, wp_il6, wp_il7, wp_il8, wp_il9, wp_iln1, wp_iln2, wp_iln3, wp_inc10, wp_inc5, wp_inc6, wp_iret, wp_is10, wp_is11, wp_is12, wp_is13, wp_is4, wp_is5, wp_is6, wp_is7, wp_is8, wp_is9, wp_isn3, wp_isub, wp_izeq, wp_izlt, wp_izne, wp_ldc, wp_max, wp_min, wp_nop, wp_zret, qmd_kd, qmd_k1, qmd_l1, qmd_gf0, qmd_k2, qmd_l2, qmd_gf1, qmd_k3, qmd_l3, qmd_gf2, qmd_k4, qmd_l4, qmd_gf4, qmd_k5, qmd_l5, qmd_gf6, qmd_k6, qmd_l6, qmd_gf7, qmd_k7, qmd_l7, qmd_gf10, qmd_k8, qmd_l8, qmd_gf11, qmd_k9, qmd_l9, qmd_gf12, qmd_gf3, qmd_pf3, qmd_gf5, qmd_pf5, qmd_gf8, qmd_pf8, qmd_gf9, qmd_pf9, wrI_row, cpI_row, row_s, row_n, row_ss, row_sw, upd_s, upd_n, ad_inj, ad_z, ad_z2, Nat.reduceEqDiff, reduceCtorEq, List.cons_append, List.nil_append, Option.toList_some, Option.toList_none, Int.toNat_natCast, List.length_cons, List.length_nil, Int.cast_ofNat_Int, Nat.reduceAdd, Nat.reduceLeDiff, Nat.reduceLT, Nat.reduceMul, Int.reduceAdd, Int.reduceSub, Int.reduceMul, Int.reduceNeg, Int.reduceLT, Int.reduceLE, Int.reduceEq, Int.reduceToNat, eq_self, true_and, and_true, true_or, or_true, false_or, or_false, if_true, if_false, not_true_eq_false, not_false_eq_true, and_self, ne_eq, b_M_lays_101, hM, hfl]
    (repeat' (first | apply And.intro | split)) <;> first | omega | exact q
  | succ d ih =>
    intro f Y o7 o8 o9 o10 o11 o12 o13 hf hY hv
    have hpb := plnV_b (F := F) (c := c) (cl := clsV U sp) (M := N) (h := h) (by omega) (by omega) f
    have eP : plnV F N h c (clsV U sp) (f + 1) = (nbV (sNV F N h c (clsV U sp) (f + 1) (plnV F N h c (clsV U sp) f).1 (plnV F N h c (clsV U sp) f).2) (plnV F N h c (clsV U sp) f).1 N, if nbV (sNV F N h c (clsV U sp) (f + 1) (plnV F N h c (clsV U sp) f).1 (plnV F N h c (clsV U sp) f).2) (plnV F N h c (clsV U sp) f).1 N = (plnV F N h c (clsV U sp) f).1 then min ((plnV F N h c (clsV U sp) f).2 + 1) (h - 1) else 0) := rfl
    have ih2 := ih (f + 1)
    rw [eP] at ih2
    have hYf := hY f (by omega)
    obtain ⟨last, hla⟩ : ∃ last, last = (plnV F N h c (clsV U sp) f).1 := ⟨_, rfl⟩
    obtain ⟨r, hr⟩ : ∃ r, r = (plnV F N h c (clsV U sp) f).2 := ⟨_, rfl⟩
    rw [← hla, ← hr] at hpb hv ih2 eP
    rw [← hla] at hYf
    rw [← hr]
    have eRv : Rv F N h c (clsV U sp) (F - f) last r = min 1000000 (c f last + bhV F N h c (clsV U sp) (F - (f + 1)) last r) := by
      rw [show F - f = (F - (f + 1)) + 1 by omega, Rv_bh, show F - (F - (f + 1) + 1) = f by omega]
    have hc1 := hc f last
    have bmin := bhV_min (cl := clsV U sp) (N := N) (h := h) hc (f := f + 1) (m := last) (r := r) (by omega : f + 1 < F) (by omega) hpb.1
    have bb := bhV_b (F := F) (N := N) (h := h) (cl := clsV U sp) hc (F - (f + 1)) last r
    have hdue : bhV F N h c (clsV U sp) (F - (f + 1)) last r < 1000000 := by omega
    have hIs : rsI (setRow g (ad a 8) Y (ad a 7)) F N h c (clsV U sp) (f + 1) := by
      rw [row_n (by unfold ad; omega)]
      exact fun f' m r h1 h2 h3 h4 => hI f' m r (Nat.zero_le _) h2 h3 h4
    have bh := fun Q => behind_ok (zt := zt) (g := setRow g (ad a 8) Y) (ρ := ρ) hM (hRr Y) hU hN hh hc hF9 (f := f) (m := last) (r := r) (by omega) hpb.1 hpb.2 hsp hIs (f' := (f : Int) + 1 - 1) (r' := (r : Int) + 1) (by omega) rfl Q
    obtain ⟨D, hD⟩ : ∃ D, D = bhV F N h c (clsV U sp) (F - (f + 1)) last r := ⟨_, rfl⟩
    rw [← hD] at bmin bb hdue bh
    have hfl : ¬ (F : Int) ≤ (f : Int) + 1 := by omega
    have ei : ((f : Int) + 1 - 1).toNat = f := by omega
    have ei2 : ((f : Int) + 1).toNat = f + 1 := by omega
    have k148 := lays_find (zt := zt) (T := T) (Y := Y) hM hR hU hN hh hc hF9 hI hsp (f := f + 1) (last := last) (r := r) (by omega) hpb.1 hpb.2 (D := D) ⟨bb.1, hdue⟩ (Q := Q) (fun B o10 o11 o12 o13 hB => by
      obtain ⟨q1, q2⟩ := fdI_end (last := last) hB hdue bmin.1 bmin.2
      have hnl := nbV_lt (s := sNV F N h c (clsV U sp) (f + 1) last r) hpb.1 N (Nat.le_refl _)
      obtain ⟨nb, hnb⟩ : ∃ nb, nb = nbV (sNV F N h c (clsV U sp) (f + 1) last r) last N := ⟨_, rfl⟩
      rw [← hnb] at q1 q2 hnl ih2 eP
      have hY2 : ∀ j, j < f + 1 + 1 → upd1 Y (f + 1) (nb : Int) j = ((plnV F N h c (clsV U sp) j).1 : Nat) := fun j hj => by
        by_cases e : j = f + 1
        · rw [e, upd_s, eP]
        · rw [upd_n e]
          exact hY j (by omega)
      have efc : (((f + 1 : Nat) : Int) + 1) = (f : Int) + 1 + 1 := by omega
      by_cases cs : nb = last
      · have e2 : (if nb = last then min (r + 1) (h - 1) else 0) = min (r + 1) (h - 1) := if_pos cs
        rw [e2] at ih2
        have e3 : sNV F N h c (clsV U sp) (f + 1) last r nb = Rv F N h c (clsV U sp) (F - (f + 1)) nb (min (r + 1) (h - 1)) := if_pos cs
        have i1 := ih2 (upd1 Y (f + 1) (nb : Int)) (some (AI last)) (some (AI D)) (some (AI nb)) o10 o11 o12 o13 (by omega) hY2 (by rw [← e3, q2]; exact hdue)
        dsimp only at i1
        rw [efc] at i1
        have cs' : (nb : Int) = (last : Int) := by omega
        rw [q1]
        by_cases cr : r + 1 < h
        · rw [show ((min (r + 1) (h - 1) : Nat) : Int) + 1 = (r : Int) + 1 + 1 by omega] at i1
          have cr' : ¬ (h : Int) ≤ (r : Int) + 1 := by omega
          rw [P_M_lays_266]
          simp only [m_M_lays, b_M_lays_0, P_M_lays_20, b_M_lays_20, P_M_lays_56, b_M_lays_56, P_M_lays_62, b_M_lays_62, P_M_lays_75, b_M_lays_75, P_M_lays_77, b_M_lays_77, P_M_lays_85, b_M_lays_85, P_M_lays_95, b_M_lays_95, P_M_lays_164, b_M_lays_164, P_M_lays_165, b_M_lays_165, P_M_lays_190, b_M_lays_190, P_M_lays_194, b_M_lays_194, P_M_lays_195, b_M_lays_195, P_M_lays_215, b_M_lays_215, P_M_lays_224, b_M_lays_224, P_M_lays_225, b_M_lays_225, P_M_lays_256, b_M_lays_256, P_M_lays_258, b_M_lays_258, P_M_lays_277, b_M_lays_277, P_M_lays_290, b_M_lays_290, P_M_lays_291, b_M_lays_291, P_M_lays_308, b_M_lays_308, wp_abs, wp_aln0, wp_bipush, wp_copy, wp_cs1, wp_cs2, wp_cs3, wp_cs4, wp_cs5, wp_cs6, wp_cs7, wp_cv1, wp_cv2, wp_cv3, wp_cv4, wp_cv5, wp_cv6, wp_cv7, wp_goto, wp_iadd, wp_iald, wp_iast, wp_iceq, wp_icge, wp_icgt, wp_icne, wp_iconst, wp_il10, wp_il11, wp_il12, wp_il13, wp_il4, wp_il5, wp_il6, wp_il7, wp_il8, wp_il9, wp_iln1, wp_iln2, wp_iln3, wp_inc10, wp_inc5, wp_inc6, wp_iret, wp_is10, wp_is11, wp_is12, wp_is13, wp_is4, wp_is5, wp_is6, wp_is7, wp_is8, wp_is9, wp_isn3, wp_isub, wp_izeq, wp_izlt, wp_izne, wp_ldc, wp_max, wp_min, wp_nop, wp_zret, qmd_kd, qmd_k1, qmd_l1, qmd_gf0, qmd_k2, qmd_l2, qmd_gf1, qmd_k3, qmd_l3, qmd_gf2, qmd_k4, qmd_l4, qmd_gf4, qmd_k5, qmd_l5, qmd_gf6, qmd_k6, qmd_l6, qmd_gf7, qmd_k7, qmd_l7, qmd_gf10, qmd_k8, qmd_l8, qmd_gf11, qmd_k9, qmd_l9, qmd_gf12, qmd_gf3, qmd_pf3, qmd_gf5, qmd_pf5, qmd_gf8, qmd_pf8, qmd_gf9, qmd_pf9, wrI_row, cpI_row, row_s, row_n, row_ss, row_sw, upd_s, upd_n, ad_inj, ad_z, ad_z2, Nat.reduceEqDiff, reduceCtorEq, List.cons_append, List.nil_append, Option.toList_some, Option.toList_none, Int.toNat_natCast, List.length_cons, List.length_nil, Int.cast_ofNat_Int, Nat.reduceAdd, Nat.reduceLeDiff, Nat.reduceLT, Nat.reduceMul, Int.reduceAdd, Int.reduceSub, Int.reduceMul, Int.reduceNeg, Int.reduceLT, Int.reduceLE, Int.reduceEq, Int.reduceToNat, eq_self, true_and, and_true, true_or, or_true, false_or, or_false, if_true, if_false, not_true_eq_false, not_false_eq_true, and_self, ne_eq, b_M_lays_266, hM, cr', ei2]
          (repeat' (first | apply And.intro | split)) <;> first | omega | exact i1
        · rw [show ((min (r + 1) (h - 1) : Nat) : Int) + 1 = (h : Int) by omega] at i1
          have cr' : (h : Int) ≤ (r : Int) + 1 := by omega
          rw [P_M_lays_266]
          simp only [m_M_lays, b_M_lays_0, P_M_lays_20, b_M_lays_20, P_M_lays_56, b_M_lays_56, P_M_lays_62, b_M_lays_62, P_M_lays_75, b_M_lays_75, P_M_lays_77, b_M_lays_77, P_M_lays_85, b_M_lays_85, P_M_lays_95, b_M_lays_95, P_M_lays_164, b_M_lays_164, P_M_lays_165, b_M_lays_165, P_M_lays_190, b_M_lays_190, P_M_lays_194, b_M_lays_194, P_M_lays_195, b_M_lays_195, P_M_lays_215, b_M_lays_215, P_M_lays_224, b_M_lays_224, P_M_lays_225, b_M_lays_225, P_M_lays_256, b_M_lays_256, P_M_lays_258, b_M_lays_258, P_M_lays_277, b_M_lays_277, P_M_lays_290, b_M_lays_290, P_M_lays_291, b_M_lays_291, P_M_lays_308, b_M_lays_308, wp_abs, wp_aln0, wp_bipush, wp_copy, wp_cs1, wp_cs2, wp_cs3, wp_cs4, wp_cs5, wp_cs6, wp_cs7, wp_cv1, wp_cv2, wp_cv3, wp_cv4, wp_cv5, wp_cv6, wp_cv7, wp_goto, wp_iadd, wp_iald, wp_iast, wp_iceq, wp_icge, wp_icgt, wp_icne, wp_iconst, wp_il10, wp_il11, wp_il12, wp_il13, wp_il4, wp_il5, wp_il6, wp_il7, wp_il8, wp_il9, wp_iln1, wp_iln2, wp_iln3, wp_inc10, wp_inc5, wp_inc6, wp_iret, wp_is10, wp_is11, wp_is12, wp_is13, wp_is4, wp_is5, wp_is6, wp_is7, wp_is8, wp_is9, wp_isn3, wp_isub, wp_izeq, wp_izlt, wp_izne, wp_ldc, wp_max, wp_min, wp_nop, wp_zret, qmd_kd, qmd_k1, qmd_l1, qmd_gf0, qmd_k2, qmd_l2, qmd_gf1, qmd_k3, qmd_l3, qmd_gf2, qmd_k4, qmd_l4, qmd_gf4, qmd_k5, qmd_l5, qmd_gf6, qmd_k6, qmd_l6, qmd_gf7, qmd_k7, qmd_l7, qmd_gf10, qmd_k8, qmd_l8, qmd_gf11, qmd_k9, qmd_l9, qmd_gf12, qmd_gf3, qmd_pf3, qmd_gf5, qmd_pf5, qmd_gf8, qmd_pf8, qmd_gf9, qmd_pf9, wrI_row, cpI_row, row_s, row_n, row_ss, row_sw, upd_s, upd_n, ad_inj, ad_z, ad_z2, Nat.reduceEqDiff, reduceCtorEq, List.cons_append, List.nil_append, Option.toList_some, Option.toList_none, Int.toNat_natCast, List.length_cons, List.length_nil, Int.cast_ofNat_Int, Nat.reduceAdd, Nat.reduceLeDiff, Nat.reduceLT, Nat.reduceMul, Int.reduceAdd, Int.reduceSub, Int.reduceMul, Int.reduceNeg, Int.reduceLT, Int.reduceLE, Int.reduceEq, Int.reduceToNat, eq_self, true_and, and_true, true_or, or_true, false_or, or_false, if_true, if_false, not_true_eq_false, not_false_eq_true, and_self, ne_eq, b_M_lays_266, hM, cr', ei2]
          (repeat' (first | apply And.intro | split)) <;> first | omega | exact i1
      · have e2 : (if nb = last then min (r + 1) (h - 1) else 0) = 0 := if_neg cs
        rw [e2] at ih2
        have e3 : Rv F N h c (clsV U sp) (F - (f + 1)) nb 0 = D := by
          unfold sNV at q2
          rw [if_neg cs] at q2
          by_cases e4 : r = h - 1 ∧ clsV U sp last nb = true
          · rw [if_pos e4] at q2
            exact q2
          · rw [if_neg e4] at q2
            omega
        have i1 := ih2 (upd1 Y (f + 1) (nb : Int)) (some (AI last)) (some (AI D)) (some (AI nb)) o10 o11 o12 o13 (by omega) hY2 (by rw [e3]; exact hdue)
        dsimp only at i1
        rw [efc, show ((0 : Nat) : Int) + 1 = 1 by omega] at i1
        have cs' : ¬ (nb : Int) = (last : Int) := by omega
        rw [q1]
        rw [P_M_lays_266]
        simp only [m_M_lays, b_M_lays_0, P_M_lays_20, b_M_lays_20, P_M_lays_56, b_M_lays_56, P_M_lays_62, b_M_lays_62, P_M_lays_75, b_M_lays_75, P_M_lays_77, b_M_lays_77, P_M_lays_85, b_M_lays_85, P_M_lays_95, b_M_lays_95, P_M_lays_164, b_M_lays_164, P_M_lays_165, b_M_lays_165, P_M_lays_190, b_M_lays_190, P_M_lays_194, b_M_lays_194, P_M_lays_195, b_M_lays_195, P_M_lays_215, b_M_lays_215, P_M_lays_224, b_M_lays_224, P_M_lays_225, b_M_lays_225, P_M_lays_256, b_M_lays_256, P_M_lays_258, b_M_lays_258, P_M_lays_277, b_M_lays_277, P_M_lays_290, b_M_lays_290, P_M_lays_291, b_M_lays_291, P_M_lays_308, b_M_lays_308, wp_abs, wp_aln0, wp_bipush, wp_copy, wp_cs1, wp_cs2, wp_cs3, wp_cs4, wp_cs5, wp_cs6, wp_cs7, wp_cv1, wp_cv2, wp_cv3, wp_cv4, wp_cv5, wp_cv6, wp_cv7, wp_goto, wp_iadd, wp_iald, wp_iast, wp_iceq, wp_icge, wp_icgt, wp_icne, wp_iconst, wp_il10, wp_il11, wp_il12, wp_il13, wp_il4, wp_il5, wp_il6, wp_il7, wp_il8, wp_il9, wp_iln1, wp_iln2, wp_iln3, wp_inc10, wp_inc5, wp_inc6, wp_iret, wp_is10, wp_is11, wp_is12, wp_is13, wp_is4, wp_is5, wp_is6, wp_is7, wp_is8, wp_is9, wp_isn3, wp_isub, wp_izeq, wp_izlt, wp_izne, wp_ldc, wp_max, wp_min, wp_nop, wp_zret, qmd_kd, qmd_k1, qmd_l1, qmd_gf0, qmd_k2, qmd_l2, qmd_gf1, qmd_k3, qmd_l3, qmd_gf2, qmd_k4, qmd_l4, qmd_gf4, qmd_k5, qmd_l5, qmd_gf6, qmd_k6, qmd_l6, qmd_gf7, qmd_k7, qmd_l7, qmd_gf10, qmd_k8, qmd_l8, qmd_gf11, qmd_k9, qmd_l9, qmd_gf12, qmd_gf3, qmd_pf3, qmd_gf5, qmd_pf5, qmd_gf8, qmd_pf8, qmd_gf9, qmd_pf9, wrI_row, cpI_row, row_s, row_n, row_ss, row_sw, upd_s, upd_n, ad_inj, ad_z, ad_z2, Nat.reduceEqDiff, reduceCtorEq, List.cons_append, List.nil_append, Option.toList_some, Option.toList_none, Int.toNat_natCast, List.length_cons, List.length_nil, Int.cast_ofNat_Int, Nat.reduceAdd, Nat.reduceLeDiff, Nat.reduceLT, Nat.reduceMul, Int.reduceAdd, Int.reduceSub, Int.reduceMul, Int.reduceNeg, Int.reduceLT, Int.reduceLE, Int.reduceEq, Int.reduceToNat, eq_self, true_and, and_true, true_or, or_true, false_or, or_false, if_true, if_false, not_true_eq_false, not_false_eq_true, and_self, ne_eq, b_M_lays_266, hM, cs', ei2]
        (repeat' (first | apply And.intro | split)) <;> first | omega | exact i1) N (-99) o11 o12 o13 (Nat.le_refl _) (Or.inl ⟨rfl, fun j h1 h2 => by omega⟩)
    rw [show ((f + 1 : Nat) : Int) = (f : Int) + 1 by omega] at k148
    rw [P_M_lays_101]
    simp only [m_M_lays, b_M_lays_0, P_M_lays_20, b_M_lays_20, P_M_lays_56, b_M_lays_56, P_M_lays_62, b_M_lays_62, P_M_lays_75, b_M_lays_75, P_M_lays_77, b_M_lays_77, P_M_lays_85, b_M_lays_85, P_M_lays_95, b_M_lays_95, P_M_lays_164, b_M_lays_164, P_M_lays_165, b_M_lays_165, P_M_lays_190, b_M_lays_190, P_M_lays_194, b_M_lays_194, P_M_lays_195, b_M_lays_195, P_M_lays_215, b_M_lays_215, P_M_lays_224, b_M_lays_224, P_M_lays_225, b_M_lays_225, P_M_lays_256, b_M_lays_256, P_M_lays_258, b_M_lays_258, P_M_lays_277, b_M_lays_277, P_M_lays_290, b_M_lays_290, P_M_lays_291, b_M_lays_291, P_M_lays_308, b_M_lays_308, wp_abs, wp_aln0, wp_bipush, wp_copy, wp_cs1, wp_cs2, wp_cs3, wp_cs4, wp_cs5, wp_cs6, wp_cs7, wp_cv1, wp_cv2, wp_cv3, wp_cv4, wp_cv5, wp_cv6, wp_cv7, wp_goto, wp_iadd, wp_iald, wp_iast, wp_iceq, wp_icge, wp_icgt, wp_icne, wp_iconst, wp_il10, wp_il11, wp_il12, wp_il13, wp_il4, wp_il5, wp_il6, wp_il7, wp_il8, wp_il9, wp_iln1, wp_iln2, wp_iln3, wp_inc10, wp_inc5, wp_inc6, wp_iret, wp_is10, wp_is11, wp_is12, wp_is13, wp_is4, wp_is5, wp_is6, wp_is7, wp_is8, wp_is9, wp_isn3, wp_isub, wp_izeq, wp_izlt, wp_izne, wp_ldc, wp_max, wp_min, wp_nop, wp_zret, qmd_kd, qmd_k1, qmd_l1, qmd_gf0, qmd_k2, qmd_l2, qmd_gf1, qmd_k3, qmd_l3, qmd_gf2, qmd_k4, qmd_l4, qmd_gf4, qmd_k5, qmd_l5, qmd_gf6, qmd_k6, qmd_l6, qmd_gf7, qmd_k7, qmd_l7, qmd_gf10, qmd_k8, qmd_l8, qmd_gf11, qmd_k9, qmd_l9, qmd_gf12, qmd_gf3, qmd_pf3, qmd_gf5, qmd_pf5, qmd_gf8, qmd_pf8, qmd_gf9, qmd_pf9, wrI_row, cpI_row, row_s, row_n, row_ss, row_sw, upd_s, upd_n, ad_inj, ad_z, ad_z2, Nat.reduceEqDiff, reduceCtorEq, List.cons_append, List.nil_append, Option.toList_some, Option.toList_none, Int.toNat_natCast, List.length_cons, List.length_nil, Int.cast_ofNat_Int, Nat.reduceAdd, Nat.reduceLeDiff, Nat.reduceLT, Nat.reduceMul, Int.reduceAdd, Int.reduceSub, Int.reduceMul, Int.reduceNeg, Int.reduceLT, Int.reduceLE, Int.reduceEq, Int.reduceToNat, eq_self, true_and, and_true, true_or, or_true, false_or, or_false, if_true, if_false, not_true_eq_false, not_false_eq_true, and_self, ne_eq, b_M_lays_101, hM, hfl, ei, hYf, bh, e0, z18]
    (repeat' (first | apply And.intro | split)) <;> first | omega | exact k148
theorem lays_ok (hM : isMd ρ a) (hR : LR (-1) (vwM (g (ad a 1))) U) (hU : WFV (-1) U) (hN : (N : Int) = U 0 0) (hh : (h : Int) = U 4 1) (hc : ∀ f m, 0 ≤ c f m) (hF : 0 < F) (hF9 : F ≤ 99) (hI : rsI (g (ad a 7)) F N h c (clsV U sp) 0) (hsp : 0 ≤ sp ∧ sp ≤ 9) {Q : Option AV → Sto → Prop}
    (hQ : ∀ Y : Nat → Int, (totV F N h c (clsV U sp) < 1000000 → ∀ j, j < F → Y j = ((plnV F N h c (clsV U sp) j).1 : Nat)) → Q (some (AI (if totV F N h c (clsV U sp) < 1000000 then totV F N h c (clsV U sp) else -99))) (setRow g (ad a 8) Y, ρ)) : WpM zt 142 [AR a, AI F, AI sp] (g, ρ) Q := by
  have b0 := hU.1
  have b4 := hU.2.2.2.1
  have e0 := m_0 hR
  rw [← hN] at e0
  have s1 := setting_ok (zt := zt) hM hR (w := 1) (by omega) (by omega)
  have es1 : U 4 (1 : Int).toNat = (h : Int) := by rw [hh]; rfl
  rw [es1] at s1
  have hb := fun m => Rv_b (F := F) (M := N) (h := h) (cl := clsV U sp) hc F m 0
  have tl := minB_lt (p := fun _ => true) (v := fun m => Rv F N h c (clsV U sp) F m 0) N
  have tb := minB_b (p := fun _ => true) (v := fun m => Rv F N h c (clsV U sp) F m 0) (fun o => (hb o).1) N
  have k20 := lays_min (zt := zt) (r6 := none) (r7 := none) (r8 := none) (r9 := none) (r10 := none) (r11 := none) (r12 := none) (r13 := none) hM hR hU hN hh hc hF hI (Q := Q) (fun Y o5 o6 hY => by
    have hQ' := hQ
    unfold totV at hQ'
    obtain ⟨N2, hN2⟩ : ∃ N2, N = N2 + 1 := ⟨N - 1, by omega⟩
    have am := amin_minB (v := fun m => Rv F N h c (clsV U sp) F m 0) (fun j => (hb j).2) N2
    rw [← hN2] at am
    by_cases cT : minB (fun _ => true) (fun m => Rv F N h c (clsV U sp) F m 0) N < 1000000
    · rw [if_pos cT] at hQ'
      have cT' : ¬ minB (fun _ => true) (fun m => Rv F N h c (clsV U sp) F m 0) N = 1000000 := by omega
      have k101 := lays_loop (zt := zt) (T := minB (fun _ => true) (fun m => Rv F N h c (clsV U sp) F m 0) N) hM hR hU hN hh hc hF9 hI hsp (Q := Q) (fun Y2 hY2 => hQ' Y2 (fun _ => hY2)) (F - 1) 0 Y none none none none none none none (by omega) (fun j hj => by
        rw [show j = 0 by omega, hY]
        rfl) (by
        show Rv F N h c (clsV U sp) (F - 0) (amin (fun m => Rv F N h c (clsV U sp) F m 0) N) 0 < 1000000
        rw [show F - 0 = F by omega]
        exact Int.lt_of_le_of_lt (Int.le_of_eq am) cT)
      have e1 : (((plnV F N h c (clsV U sp) 0).2 : Nat) : Int) + 1 = 1 := by
        show ((0 : Nat) : Int) + 1 = 1
        omega
      have e2 : ((0 : Nat) : Int) + 1 = 1 := by omega
      rw [e1, e2] at k101
      rw [P_M_lays_85]
      simp only [m_M_lays, b_M_lays_0, P_M_lays_56, b_M_lays_56, P_M_lays_62, b_M_lays_62, P_M_lays_75, b_M_lays_75, P_M_lays_77, b_M_lays_77, P_M_lays_95, b_M_lays_95, P_M_lays_148, b_M_lays_148, P_M_lays_164, b_M_lays_164, P_M_lays_165, b_M_lays_165, P_M_lays_190, b_M_lays_190, P_M_lays_194, b_M_lays_194, P_M_lays_195, b_M_lays_195, P_M_lays_215, b_M_lays_215, P_M_lays_224, b_M_lays_224, P_M_lays_225, b_M_lays_225, P_M_lays_256, b_M_lays_256, P_M_lays_258, b_M_lays_258, P_M_lays_266, b_M_lays_266, P_M_lays_277, b_M_lays_277, P_M_lays_290, b_M_lays_290, P_M_lays_291, b_M_lays_291, P_M_lays_308, b_M_lays_308, wp_abs, wp_aln0, wp_bipush, wp_copy, wp_cs1, wp_cs2, wp_cs3, wp_cs4, wp_cs5, wp_cs6, wp_cs7, wp_cv1, wp_cv2, wp_cv3, wp_cv4, wp_cv5, wp_cv6, wp_cv7, wp_goto, wp_iadd, wp_iald, wp_iast, wp_iceq, wp_icge, wp_icgt, wp_icne, wp_iconst, wp_il10, wp_il11, wp_il12, wp_il13, wp_il4, wp_il5, wp_il6, wp_il7, wp_il8, wp_il9, wp_iln1, wp_iln2, wp_iln3, wp_inc10, wp_inc5, wp_inc6, wp_iret, wp_is10, wp_is11, wp_is12, wp_is13, wp_is4, wp_is5, wp_is6, wp_is7, wp_is8, wp_is9, wp_isn3, wp_isub, wp_izeq, wp_izlt, wp_izne, wp_ldc, wp_max, wp_min, wp_nop, wp_zret, qmd_kd, qmd_k1, qmd_l1, qmd_gf0, qmd_k2, qmd_l2, qmd_gf1, qmd_k3, qmd_l3, qmd_gf2, qmd_k4, qmd_l4, qmd_gf4, qmd_k5, qmd_l5, qmd_gf6, qmd_k6, qmd_l6, qmd_gf7, qmd_k7, qmd_l7, qmd_gf10, qmd_k8, qmd_l8, qmd_gf11, qmd_k9, qmd_l9, qmd_gf12, qmd_gf3, qmd_pf3, qmd_gf5, qmd_pf5, qmd_gf8, qmd_pf8, qmd_gf9, qmd_pf9, wrI_row, cpI_row, row_s, row_n, row_ss, row_sw, upd_s, upd_n, ad_inj, ad_z, ad_z2, Nat.reduceEqDiff, reduceCtorEq, List.cons_append, List.nil_append, Option.toList_some, Option.toList_none, Int.toNat_natCast, List.length_cons, List.length_nil, Int.cast_ofNat_Int, Nat.reduceAdd, Nat.reduceLeDiff, Nat.reduceLT, Nat.reduceMul, Int.reduceAdd, Int.reduceSub, Int.reduceMul, Int.reduceNeg, Int.reduceLT, Int.reduceLE, Int.reduceEq, Int.reduceToNat, eq_self, true_and, and_true, true_or, or_true, false_or, or_false, if_true, if_false, not_true_eq_false, not_false_eq_true, and_self, ne_eq, b_M_lays_85, hM, cT']
      (repeat' (first | apply And.intro | split)) <;> first | omega | exact k101
    · rw [if_neg cT] at hQ'
      have q := hQ' Y (fun z => absurd z cT)
      have cT' : minB (fun _ => true) (fun m => Rv F N h c (clsV U sp) F m 0) N = 1000000 := by omega
      rw [P_M_lays_85]
      simp only [m_M_lays, b_M_lays_0, P_M_lays_56, b_M_lays_56, P_M_lays_62, b_M_lays_62, P_M_lays_75, b_M_lays_75, P_M_lays_77, b_M_lays_77, P_M_lays_95, b_M_lays_95, P_M_lays_148, b_M_lays_148, P_M_lays_164, b_M_lays_164, P_M_lays_165, b_M_lays_165, P_M_lays_190, b_M_lays_190, P_M_lays_194, b_M_lays_194, P_M_lays_195, b_M_lays_195, P_M_lays_215, b_M_lays_215, P_M_lays_224, b_M_lays_224, P_M_lays_225, b_M_lays_225, P_M_lays_256, b_M_lays_256, P_M_lays_258, b_M_lays_258, P_M_lays_266, b_M_lays_266, P_M_lays_277, b_M_lays_277, P_M_lays_290, b_M_lays_290, P_M_lays_291, b_M_lays_291, P_M_lays_308, b_M_lays_308, wp_abs, wp_aln0, wp_bipush, wp_copy, wp_cs1, wp_cs2, wp_cs3, wp_cs4, wp_cs5, wp_cs6, wp_cs7, wp_cv1, wp_cv2, wp_cv3, wp_cv4, wp_cv5, wp_cv6, wp_cv7, wp_goto, wp_iadd, wp_iald, wp_iast, wp_iceq, wp_icge, wp_icgt, wp_icne, wp_iconst, wp_il10, wp_il11, wp_il12, wp_il13, wp_il4, wp_il5, wp_il6, wp_il7, wp_il8, wp_il9, wp_iln1, wp_iln2, wp_iln3, wp_inc10, wp_inc5, wp_inc6, wp_iret, wp_is10, wp_is11, wp_is12, wp_is13, wp_is4, wp_is5, wp_is6, wp_is7, wp_is8, wp_is9, wp_isn3, wp_isub, wp_izeq, wp_izlt, wp_izne, wp_ldc, wp_max, wp_min, wp_nop, wp_zret, qmd_kd, qmd_k1, qmd_l1, qmd_gf0, qmd_k2, qmd_l2, qmd_gf1, qmd_k3, qmd_l3, qmd_gf2, qmd_k4, qmd_l4, qmd_gf4, qmd_k5, qmd_l5, qmd_gf6, qmd_k6, qmd_l6, qmd_gf7, qmd_k7, qmd_l7, qmd_gf10, qmd_k8, qmd_l8, qmd_gf11, qmd_k9, qmd_l9, qmd_gf12, qmd_gf3, qmd_pf3, qmd_gf5, qmd_pf5, qmd_gf8, qmd_pf8, qmd_gf9, qmd_pf9, wrI_row, cpI_row, row_s, row_n, row_ss, row_sw, upd_s, upd_n, ad_inj, ad_z, ad_z2, Nat.reduceEqDiff, reduceCtorEq, List.cons_append, List.nil_append, Option.toList_some, Option.toList_none, Int.toNat_natCast, List.length_cons, List.length_nil, Int.cast_ofNat_Int, Nat.reduceAdd, Nat.reduceLeDiff, Nat.reduceLT, Nat.reduceMul, Int.reduceAdd, Int.reduceSub, Int.reduceMul, Int.reduceNeg, Int.reduceLT, Int.reduceLE, Int.reduceEq, Int.reduceToNat, eq_self, true_and, and_true, true_or, or_true, false_or, or_false, if_true, if_false, not_true_eq_false, not_false_eq_true, and_self, ne_eq, b_M_lays_85, hM, cT']
      (repeat' (first | apply And.intro | split)) <;> first | omega | exact q) N (g (ad a 8)) (g (ad a 8) 0) 1000000 none (Nat.le_refl _) rfl (by omega) (Or.inl ⟨rfl, rfl⟩)
  rw [row_id] at k20
  simp only [m_M_lays, b_M_lays_0, P_M_lays_56, b_M_lays_56, P_M_lays_62, b_M_lays_62, P_M_lays_75, b_M_lays_75, P_M_lays_77, b_M_lays_77, P_M_lays_85, b_M_lays_85, P_M_lays_95, b_M_lays_95, P_M_lays_101, b_M_lays_101, P_M_lays_148, b_M_lays_148, P_M_lays_164, b_M_lays_164, P_M_lays_165, b_M_lays_165, P_M_lays_190, b_M_lays_190, P_M_lays_194, b_M_lays_194, P_M_lays_195, b_M_lays_195, P_M_lays_215, b_M_lays_215, P_M_lays_224, b_M_lays_224, P_M_lays_225, b_M_lays_225, P_M_lays_256, b_M_lays_256, P_M_lays_258, b_M_lays_258, P_M_lays_266, b_M_lays_266, P_M_lays_277, b_M_lays_277, P_M_lays_290, b_M_lays_290, P_M_lays_291, b_M_lays_291, P_M_lays_308, b_M_lays_308, wp_abs, wp_aln0, wp_bipush, wp_copy, wp_cs1, wp_cs2, wp_cs3, wp_cs4, wp_cs5, wp_cs6, wp_cs7, wp_cv1, wp_cv2, wp_cv3, wp_cv4, wp_cv5, wp_cv6, wp_cv7, wp_goto, wp_iadd, wp_iald, wp_iast, wp_iceq, wp_icge, wp_icgt, wp_icne, wp_iconst, wp_il10, wp_il11, wp_il12, wp_il13, wp_il4, wp_il5, wp_il6, wp_il7, wp_il8, wp_il9, wp_iln1, wp_iln2, wp_iln3, wp_inc10, wp_inc5, wp_inc6, wp_iret, wp_is10, wp_is11, wp_is12, wp_is13, wp_is4, wp_is5, wp_is6, wp_is7, wp_is8, wp_is9, wp_isn3, wp_isub, wp_izeq, wp_izlt, wp_izne, wp_ldc, wp_max, wp_min, wp_nop, wp_zret, qmd_kd, qmd_k1, qmd_l1, qmd_gf0, qmd_k2, qmd_l2, qmd_gf1, qmd_k3, qmd_l3, qmd_gf2, qmd_k4, qmd_l4, qmd_gf4, qmd_k5, qmd_l5, qmd_gf6, qmd_k6, qmd_l6, qmd_gf7, qmd_k7, qmd_l7, qmd_gf10, qmd_k8, qmd_l8, qmd_gf11, qmd_k9, qmd_l9, qmd_gf12, qmd_gf3, qmd_pf3, qmd_gf5, qmd_pf5, qmd_gf8, qmd_pf8, qmd_gf9, qmd_pf9, wrI_row, cpI_row, row_s, row_n, row_ss, row_sw, upd_s, upd_n, ad_inj, ad_z, ad_z2, Nat.reduceEqDiff, reduceCtorEq, List.cons_append, List.nil_append, Option.toList_some, Option.toList_none, Int.toNat_natCast, List.length_cons, List.length_nil, Int.cast_ofNat_Int, Nat.reduceAdd, Nat.reduceLeDiff, Nat.reduceLT, Nat.reduceMul, Int.reduceAdd, Int.reduceSub, Int.reduceMul, Int.reduceNeg, Int.reduceLT, Int.reduceLE, Int.reduceEq, Int.reduceToNat, eq_self, true_and, and_true, true_or, or_true, false_or, or_false, if_true, if_false, not_true_eq_false, not_false_eq_true, and_self, ne_eq, hM, s1, e0]
  (repeat' (first | apply And.intro | split)) <;> first | omega | exact k20
theorem findPlan_ok {fr mo : Int} (hM : isMd ρ a) (hR : LR (-1) (vwM (g (ad a 1))) U) (hU : WFV (-1) U) (hN : (N : Int) = U 0 0) (hF : (F : Int) = U 8 0) (hh : (h : Int) = U 4 1) (hc : ∀ f m, 0 ≤ c f m ∧ c f m ≤ 1000000) (hcm : cMay U F N c fr mo) (hsp : 0 ≤ sp ∧ sp ≤ 9) (hfr : -99 ≤ fr ∧ fr ≤ 1000) (hmo : -99 ≤ mo ∧ mo ≤ 1000) {Q : Option AV → Sto → Prop}
    (hQ : ∀ g1 : Nat → Nat → Int, plE g a g1 → (∀ j : Nat, (j : Int) < U 8 0 → g1 (ad a 9) j = kndV U j) → (lstV F N h c (clsV U sp) ≠ -99 → ∀ j, j < F → g1 (ad a 8) j = ((plnV F N h c (clsV U sp) j).1 : Nat)) → Q (some (AI (lstV F N h c (clsV U sp)))) (g1, ρ)) : WpM zt 141 [AR a, AI sp, AI fr, AI mo] (g, ρ) Q := by
  have b0 := hU.1
  have b4 := hU.2.2.2.1
  have b8 := hU.2.2.2.2.2.2.1
  simp only [m_M_findPlan, b_M_findPlan_0, P_M_findPlan_24, b_M_findPlan_24, P_M_findPlan_63, b_M_findPlan_63, P_M_findPlan_75, b_M_findPlan_75, P_M_findPlan_79, b_M_findPlan_79, P_M_findPlan_80, b_M_findPlan_80, P_M_findPlan_100, b_M_findPlan_100, P_M_findPlan_134, b_M_findPlan_134, P_M_findPlan_136, b_M_findPlan_136, P_M_findPlan_163, b_M_findPlan_163, P_M_findPlan_165, b_M_findPlan_165, P_M_findPlan_172, b_M_findPlan_172, P_M_findPlan_178, b_M_findPlan_178, P_M_findPlan_184, b_M_findPlan_184, P_M_findPlan_193, b_M_findPlan_193, P_M_findPlan_200, b_M_findPlan_200, wp_abs, wp_aln0, wp_bipush, wp_copy, wp_cs1, wp_cs2, wp_cs3, wp_cs4, wp_cs5, wp_cs6, wp_cs7, wp_cv1, wp_cv2, wp_cv3, wp_cv4, wp_cv5, wp_cv6, wp_cv7, wp_goto, wp_iadd, wp_iald, wp_iast, wp_icge, wp_icgt, wp_icne, wp_iconst, wp_il10, wp_il4, wp_il5, wp_il6, wp_il7, wp_il8, wp_il9, wp_iln1, wp_iln2, wp_iln3, wp_inc5, wp_inc6, wp_inc9, wp_iret, wp_is10, wp_is4, wp_is5, wp_is6, wp_is7, wp_is8, wp_is9, wp_isub, wp_izeq, wp_izlt, wp_izne, wp_ldc, wp_max, wp_min, wp_nop, wp_zret, qmd_kd, qmd_k1, qmd_l1, qmd_gf0, qmd_k2, qmd_l2, qmd_gf1, qmd_k3, qmd_l3, qmd_gf2, qmd_k4, qmd_l4, qmd_gf4, qmd_k5, qmd_l5, qmd_gf6, qmd_k6, qmd_l6, qmd_gf7, qmd_k7, qmd_l7, qmd_gf10, qmd_k8, qmd_l8, qmd_gf11, qmd_k9, qmd_l9, qmd_gf12, qmd_gf3, qmd_pf3, qmd_gf5, qmd_pf5, qmd_gf8, qmd_pf8, qmd_gf9, qmd_pf9, wrI_row, cpI_row, row_s, row_n, row_ss, row_sw, upd_s, upd_n, ad_inj, ad_z, ad_z2, Nat.reduceEqDiff, reduceCtorEq, List.cons_append, List.nil_append, Option.toList_some, Option.toList_none, Int.toNat_natCast, List.length_cons, List.length_nil, Int.cast_ofNat_Int, Nat.reduceAdd, Nat.reduceLeDiff, Nat.reduceLT, Nat.reduceMul, Int.reduceAdd, Int.reduceSub, Int.reduceMul, Int.reduceNeg, Int.reduceLT, Int.reduceLE, Int.reduceEq, Int.reduceToNat, eq_self, true_and, and_true, true_or, or_true, false_or, or_false, if_true, if_false, not_true_eq_false, not_false_eq_true, and_self, ne_eq, hM]
  refine layKinds_ok hM hR hU (fun K hK => ?_)
  have hR1 : LR (-1) (vwM (setRow g (ad a 9) K (ad a 1))) U := by
    rw [row_n (by unfold ad; omega)]
    exact hR
  have fo := frames_ok (zt := zt) (g := setRow g (ad a 9) K) (ρ := ρ) hM hR1 hU
  rw [← hF] at fo
  have hK1 : ∀ j : Nat, (j : Int) < U 8 0 → setRow g (ad a 9) K (ad a 9) j = kndV U j := fun j hj => by
    rw [row_s]
    exact hK j hj
  obtain ⟨g0, hg0⟩ : ∃ g0, g0 = setRow g (ad a 9) K := ⟨_, rfl⟩
  have hE0 : ∀ x, x ≠ ad a 9 → g0 x = g x := fun x z => by rw [hg0]; exact row_n z
  rw [← hg0] at hR1 fo hK1 ⊢
  have k16 := frame_loop (zt := zt) (N := N) (F := F) (h := h) (c := c) (fr := fr) (mo := mo) hM hR1 hU hK1 hN hF hh hc hcm hsp hfr hmo (Q := Q) (fun R o5 o6 o7 o8 o9 o10 hI => by
    by_cases cF : F = 0
    · have q := hQ (setRow g0 (ad a 7) R) (fun x z1 z2 z3 => by rw [row_n z1, hE0 x z3]) (fun j hj => by rw [row_n (by unfold ad; omega)]; exact hK1 j hj) (fun z j hj => by omega)
      have e : lstV F N h c (clsV U sp) = 0 := if_pos cF
      rw [e] at q
      have cF' : (F : Int) = 0 := by omega
      rw [P_M_findPlan_184]
      simp only [m_M_findPlan, b_M_findPlan_0, P_M_findPlan_24, b_M_findPlan_24, P_M_findPlan_63, b_M_findPlan_63, P_M_findPlan_75, b_M_findPlan_75, P_M_findPlan_79, b_M_findPlan_79, P_M_findPlan_80, b_M_findPlan_80, P_M_findPlan_100, b_M_findPlan_100, P_M_findPlan_134, b_M_findPlan_134, P_M_findPlan_136, b_M_findPlan_136, P_M_findPlan_163, b_M_findPlan_163, P_M_findPlan_165, b_M_findPlan_165, P_M_findPlan_172, b_M_findPlan_172, P_M_findPlan_178, b_M_findPlan_178, P_M_findPlan_193, b_M_findPlan_193, P_M_findPlan_200, b_M_findPlan_200, wp_abs, wp_aln0, wp_bipush, wp_copy, wp_cs1, wp_cs2, wp_cs3, wp_cs4, wp_cs5, wp_cs6, wp_cs7, wp_cv1, wp_cv2, wp_cv3, wp_cv4, wp_cv5, wp_cv6, wp_cv7, wp_goto, wp_iadd, wp_iald, wp_iast, wp_icge, wp_icgt, wp_icne, wp_iconst, wp_il10, wp_il4, wp_il5, wp_il6, wp_il7, wp_il8, wp_il9, wp_iln1, wp_iln2, wp_iln3, wp_inc5, wp_inc6, wp_inc9, wp_iret, wp_is10, wp_is4, wp_is5, wp_is6, wp_is7, wp_is8, wp_is9, wp_isub, wp_izeq, wp_izlt, wp_izne, wp_ldc, wp_max, wp_min, wp_nop, wp_zret, qmd_kd, qmd_k1, qmd_l1, qmd_gf0, qmd_k2, qmd_l2, qmd_gf1, qmd_k3, qmd_l3, qmd_gf2, qmd_k4, qmd_l4, qmd_gf4, qmd_k5, qmd_l5, qmd_gf6, qmd_k6, qmd_l6, qmd_gf7, qmd_k7, qmd_l7, qmd_gf10, qmd_k8, qmd_l8, qmd_gf11, qmd_k9, qmd_l9, qmd_gf12, qmd_gf3, qmd_pf3, qmd_gf5, qmd_pf5, qmd_gf8, qmd_pf8, qmd_gf9, qmd_pf9, wrI_row, cpI_row, row_s, row_n, row_ss, row_sw, upd_s, upd_n, ad_inj, ad_z, ad_z2, Nat.reduceEqDiff, reduceCtorEq, List.cons_append, List.nil_append, Option.toList_some, Option.toList_none, Int.toNat_natCast, List.length_cons, List.length_nil, Int.cast_ofNat_Int, Nat.reduceAdd, Nat.reduceLeDiff, Nat.reduceLT, Nat.reduceMul, Int.reduceAdd, Int.reduceSub, Int.reduceMul, Int.reduceNeg, Int.reduceLT, Int.reduceLE, Int.reduceEq, Int.reduceToNat, eq_self, true_and, and_true, true_or, or_true, false_or, or_false, if_true, if_false, not_true_eq_false, not_false_eq_true, and_self, ne_eq, b_M_findPlan_184, hM, cF']
      (repeat' (first | apply And.intro | split)) <;> first | omega | exact q
    · have cF' : ¬ (F : Int) = 0 := by omega
      have hR2 : LR (-1) (vwM (setRow g0 (ad a 7) R (ad a 1))) U := by
        rw [row_n (by unfold ad; omega)]
        exact hR1
      have e : lstV F N h c (clsV U sp) = if totV F N h c (clsV U sp) < 1000000 then totV F N h c (clsV U sp) else -99 := if_neg cF
      have kl : WpM zt 142 [AR a, AI F, AI sp] (setRow g0 (ad a 7) R, ρ) Q := lays_ok (N := N) (F := F) (h := h) (c := c) hM hR2 hU hN hh (fun f m => (hc f m).1) (by omega) (by omega) (by rw [row_s]; exact hI) hsp (fun Y hY => by
        rw [← e]
        refine hQ _ (fun x z1 z2 z3 => by rw [row_n z2, row_n z1, hE0 x z3]) (fun j hj => ?_) (fun z => ?_)
        · rw [row_n (by unfold ad; omega), row_n (by unfold ad; omega)]
          exact hK1 j hj
        · rw [row_s]
          refine hY ?_
          rw [e] at z
          by_cases cT : totV F N h c (clsV U sp) < 1000000
          · exact cT
          · rw [if_neg cT] at z
            exact absurd rfl z)
      have k200 : WpM zt 142 [AR a, AI F, AI sp] (setRow g0 (ad a 7) R, ρ) (fun v s => Wp zt 141 (P 141 200) [some (AR a), some (AI sp), some (AI fr), some (AI mo), some (AI F), o5, o6, o7, o8, o9, o10] v.toList s Q) := by
        refine lays_ok (N := N) (F := F) (h := h) (c := c) hM hR2 hU hN hh (fun f m => (hc f m).1) (by omega) (by omega) (by rw [row_s]; exact hI) hsp (fun Y hY => ?_)
        rw [← e]
        have q := hQ (setRow (setRow g0 (ad a 7) R) (ad a 8) Y) (fun x z1 z2 z3 => by rw [row_n z2, row_n z1, hE0 x z3]) (fun j hj => by
          rw [row_n (by unfold ad; omega), row_n (by unfold ad; omega)]
          exact hK1 j hj) (fun z => by
          rw [row_s]
          refine hY ?_
          rw [e] at z
          by_cases cT : totV F N h c (clsV U sp) < 1000000
          · exact cT
          · rw [if_neg cT] at z
            exact absurd rfl z)
        rw [P_M_findPlan_200]
        simp only [m_M_findPlan, b_M_findPlan_0, P_M_findPlan_24, b_M_findPlan_24, P_M_findPlan_63, b_M_findPlan_63, P_M_findPlan_75, b_M_findPlan_75, P_M_findPlan_79, b_M_findPlan_79, P_M_findPlan_80, b_M_findPlan_80, P_M_findPlan_100, b_M_findPlan_100, P_M_findPlan_134, b_M_findPlan_134, P_M_findPlan_136, b_M_findPlan_136, P_M_findPlan_163, b_M_findPlan_163, P_M_findPlan_165, b_M_findPlan_165, P_M_findPlan_172, b_M_findPlan_172, P_M_findPlan_178, b_M_findPlan_178, P_M_findPlan_193, b_M_findPlan_193, wp_abs, wp_aln0, wp_bipush, wp_copy, wp_cs1, wp_cs2, wp_cs3, wp_cs4, wp_cs5, wp_cs6, wp_cs7, wp_cv1, wp_cv2, wp_cv3, wp_cv4, wp_cv5, wp_cv6, wp_cv7, wp_goto, wp_iadd, wp_iald, wp_iast, wp_icge, wp_icgt, wp_icne, wp_iconst, wp_il10, wp_il4, wp_il5, wp_il6, wp_il7, wp_il8, wp_il9, wp_iln1, wp_iln2, wp_iln3, wp_inc5, wp_inc6, wp_inc9, wp_iret, wp_is10, wp_is4, wp_is5, wp_is6, wp_is7, wp_is8, wp_is9, wp_isub, wp_izeq, wp_izlt, wp_izne, wp_ldc, wp_max, wp_min, wp_nop, wp_zret, qmd_kd, qmd_k1, qmd_l1, qmd_gf0, qmd_k2, qmd_l2, qmd_gf1, qmd_k3, qmd_l3, qmd_gf2, qmd_k4, qmd_l4, qmd_gf4, qmd_k5, qmd_l5, qmd_gf6, qmd_k6, qmd_l6, qmd_gf7, qmd_k7, qmd_l7, qmd_gf10, qmd_k8, qmd_l8, qmd_gf11, qmd_k9, qmd_l9, qmd_gf12, qmd_gf3, qmd_pf3, qmd_gf5, qmd_pf5, qmd_gf8, qmd_pf8, qmd_gf9, qmd_pf9, wrI_row, cpI_row, row_s, row_n, row_ss, row_sw, upd_s, upd_n, ad_inj, ad_z, ad_z2, Nat.reduceEqDiff, reduceCtorEq, List.cons_append, List.nil_append, Option.toList_some, Option.toList_none, Int.toNat_natCast, List.length_cons, List.length_nil, Int.cast_ofNat_Int, Nat.reduceAdd, Nat.reduceLeDiff, Nat.reduceLT, Nat.reduceMul, Int.reduceAdd, Int.reduceSub, Int.reduceMul, Int.reduceNeg, Int.reduceLT, Int.reduceLE, Int.reduceEq, Int.reduceToNat, eq_self, true_and, and_true, true_or, or_true, false_or, or_false, if_true, if_false, not_true_eq_false, not_false_eq_true, and_self, ne_eq, b_M_findPlan_200, hM]
        exact q
      rw [P_M_findPlan_184]
      simp only [m_M_findPlan, b_M_findPlan_0, P_M_findPlan_24, b_M_findPlan_24, P_M_findPlan_63, b_M_findPlan_63, P_M_findPlan_75, b_M_findPlan_75, P_M_findPlan_79, b_M_findPlan_79, P_M_findPlan_80, b_M_findPlan_80, P_M_findPlan_100, b_M_findPlan_100, P_M_findPlan_134, b_M_findPlan_134, P_M_findPlan_136, b_M_findPlan_136, P_M_findPlan_163, b_M_findPlan_163, P_M_findPlan_165, b_M_findPlan_165, P_M_findPlan_172, b_M_findPlan_172, P_M_findPlan_178, b_M_findPlan_178, P_M_findPlan_193, b_M_findPlan_193, wp_abs, wp_aln0, wp_bipush, wp_copy, wp_cs1, wp_cs2, wp_cs3, wp_cs4, wp_cs5, wp_cs6, wp_cs7, wp_cv1, wp_cv2, wp_cv3, wp_cv4, wp_cv5, wp_cv6, wp_cv7, wp_goto, wp_iadd, wp_iald, wp_iast, wp_icge, wp_icgt, wp_icne, wp_iconst, wp_il10, wp_il4, wp_il5, wp_il6, wp_il7, wp_il8, wp_il9, wp_iln1, wp_iln2, wp_iln3, wp_inc5, wp_inc6, wp_inc9, wp_iret, wp_is10, wp_is4, wp_is5, wp_is6, wp_is7, wp_is8, wp_is9, wp_isub, wp_izeq, wp_izlt, wp_izne, wp_ldc, wp_max, wp_min, wp_nop, wp_zret, qmd_kd, qmd_k1, qmd_l1, qmd_gf0, qmd_k2, qmd_l2, qmd_gf1, qmd_k3, qmd_l3, qmd_gf2, qmd_k4, qmd_l4, qmd_gf4, qmd_k5, qmd_l5, qmd_gf6, qmd_k6, qmd_l6, qmd_gf7, qmd_k7, qmd_l7, qmd_gf10, qmd_k8, qmd_l8, qmd_gf11, qmd_k9, qmd_l9, qmd_gf12, qmd_gf3, qmd_pf3, qmd_gf5, qmd_pf5, qmd_gf8, qmd_pf8, qmd_gf9, qmd_pf9, wrI_row, cpI_row, row_s, row_n, row_ss, row_sw, upd_s, upd_n, ad_inj, ad_z, ad_z2, Nat.reduceEqDiff, reduceCtorEq, List.cons_append, List.nil_append, Option.toList_some, Option.toList_none, Int.toNat_natCast, List.length_cons, List.length_nil, Int.cast_ofNat_Int, Nat.reduceAdd, Nat.reduceLeDiff, Nat.reduceLT, Nat.reduceMul, Int.reduceAdd, Int.reduceSub, Int.reduceMul, Int.reduceNeg, Int.reduceLT, Int.reduceLE, Int.reduceEq, Int.reduceToNat, eq_self, true_and, and_true, true_or, or_true, false_or, or_false, if_true, if_false, not_true_eq_false, not_false_eq_true, and_self, ne_eq, b_M_findPlan_184, hM, cF']
      (repeat' (first | apply And.intro | split)) <;> first | omega | skip
      refine wpm_mono k200 (fun v s z => ?_)
      rw [List.append_nil]
      exact (wp_nop (zt := zt) (g := s.1) (ρ := s.2)).2 z) F (g0 (ad a 7)) none none none none none (Nat.le_refl _) (fun f' m r h1 h2 => by omega)
  rw [row_id] at k16
  simp only [m_M_findPlan, b_M_findPlan_0, P_M_findPlan_24, b_M_findPlan_24, P_M_findPlan_63, b_M_findPlan_63, P_M_findPlan_75, b_M_findPlan_75, P_M_findPlan_79, b_M_findPlan_79, P_M_findPlan_80, b_M_findPlan_80, P_M_findPlan_100, b_M_findPlan_100, P_M_findPlan_134, b_M_findPlan_134, P_M_findPlan_136, b_M_findPlan_136, P_M_findPlan_163, b_M_findPlan_163, P_M_findPlan_165, b_M_findPlan_165, P_M_findPlan_172, b_M_findPlan_172, P_M_findPlan_178, b_M_findPlan_178, P_M_findPlan_184, b_M_findPlan_184, P_M_findPlan_193, b_M_findPlan_193, P_M_findPlan_200, b_M_findPlan_200, wp_abs, wp_aln0, wp_bipush, wp_copy, wp_cs1, wp_cs2, wp_cs3, wp_cs4, wp_cs5, wp_cs6, wp_cs7, wp_cv1, wp_cv2, wp_cv3, wp_cv4, wp_cv5, wp_cv6, wp_cv7, wp_goto, wp_iadd, wp_iald, wp_iast, wp_icge, wp_icgt, wp_icne, wp_iconst, wp_il10, wp_il4, wp_il5, wp_il6, wp_il7, wp_il8, wp_il9, wp_iln1, wp_iln2, wp_iln3, wp_inc5, wp_inc6, wp_inc9, wp_iret, wp_is10, wp_is4, wp_is5, wp_is6, wp_is7, wp_is8, wp_is9, wp_isub, wp_izeq, wp_izlt, wp_izne, wp_ldc, wp_max, wp_min, wp_nop, wp_zret, qmd_kd, qmd_k1, qmd_l1, qmd_gf0, qmd_k2, qmd_l2, qmd_gf1, qmd_k3, qmd_l3, qmd_gf2, qmd_k4, qmd_l4, qmd_gf4, qmd_k5, qmd_l5, qmd_gf6, qmd_k6, qmd_l6, qmd_gf7, qmd_k7, qmd_l7, qmd_gf10, qmd_k8, qmd_l8, qmd_gf11, qmd_k9, qmd_l9, qmd_gf12, qmd_gf3, qmd_pf3, qmd_gf5, qmd_pf5, qmd_gf8, qmd_pf8, qmd_gf9, qmd_pf9, wrI_row, cpI_row, row_s, row_n, row_ss, row_sw, upd_s, upd_n, ad_inj, ad_z, ad_z2, Nat.reduceEqDiff, reduceCtorEq, List.cons_append, List.nil_append, Option.toList_some, Option.toList_none, Int.toNat_natCast, List.length_cons, List.length_nil, Int.cast_ofNat_Int, Nat.reduceAdd, Nat.reduceLeDiff, Nat.reduceLT, Nat.reduceMul, Int.reduceAdd, Int.reduceSub, Int.reduceMul, Int.reduceNeg, Int.reduceLT, Int.reduceLE, Int.reduceEq, Int.reduceToNat, eq_self, true_and, and_true, true_or, or_true, false_or, or_false, if_true, if_false, not_true_eq_false, not_false_eq_true, and_self, ne_eq, hM, fo]
  exact k16
end MLW
section MLU
variable {U : Vw}
theorem cMay_u (hU : WFV (-1) U) : cMay U (pF U) (pM U) (cstV (-1) U) (-99) (-99) := fun f m hf hm => by
  have b0 := hU.1
  have b8 := hU.2.2.2.2.2.2.1
  unfold pF at hf
  unfold pM at hm
  have e : cstV (-1) U f m = if U 9 f = -1 ∨ U 9 f = m then wrgV U (kndV U f) m else 1000000 := if_pos ⟨by omega, by omega⟩
  rw [e]
  refine ⟨fun z => if_pos z.1, fun z => if_neg (fun z2 => z ⟨z2, Or.inl (by omega)⟩)⟩
theorem cMay_b (hU : WFV (-1) U) {f0 m0 : Nat} : cMay U (pF U) (pM U) (cstB U f0 m0) f0 m0 := fun f m hf hm => by
  have b0 := hU.1
  have b8 := hU.2.2.2.2.2.2.1
  unfold pF at hf
  unfold pM at hm
  have e : cstV (-1) U f m = if U 9 f = -1 ∨ U 9 f = m then wrgV U (kndV U f) m else 1000000 := if_pos ⟨by omega, by omega⟩
  unfold cstB
  rw [e]
  refine ⟨fun z => ?_, fun z => ?_⟩
  · rw [if_neg (by omega), if_pos z.1]
  · by_cases c : f = f0 ∧ m ≠ m0
    · rw [if_pos c]
    · rw [if_neg c, if_neg (fun z2 => z ⟨z2, by omega⟩)]
end MLU
section MLV
variable {zt : Nat → Nat} {g : Nat → Nat → Int} {ρ : Ri} {M : Nat} {X : XV} {Q : Option AV → Sto → Prop}
theorem plE.rep {g1 : Nat → Nat → Int} (hE : plE g M g1) (hX : RepM g ρ M X) : RepM g1 ρ M X := hX.kept (hE _ (by unfold ad; omega) (by unfold ad; omega) (by unfold ad; omega)) (hE _ (by unfold ad; omega) (by unfold ad; omega) (by unfold ad; omega)) (hE _ (by unfold ad; omega) (by unfold ad; omega) (by unfold ad; omega)) (by rw [hE M (by unfold ad; omega) (by unfold ad; omega) (by unfold ad; omega)]) (by rw [hE M (by unfold ad; omega) (by unfold ad; omega) (by unfold ad; omega)])
theorem plE.fr {g1 : Nat → Nat → Int} (hE : plE g M g1) (x : Nat) (z : x < M ∨ ad M 10 ≤ x) : g1 x = g x := hE x (by unfold ad at *; omega) (by unfold ad at *; omega) (by unfold ad at *; omega)
theorem find_u (hX : RepM g ρ M X) (hW : WFX X) {sp : Int} (hsp : 0 ≤ sp ∧ sp ≤ 9) (hQ : ∀ g1 : Nat → Nat → Int, plE g M g1 → (∀ j : Nat, (j : Int) < X.1.1 8 0 → g1 (ad M 9) j = kndV X.1.1 j) → (sp = X.1.1 4 0 → lsU X.1.1 sp ≠ -99 → ∀ j, j < pF X.1.1 → g1 (ad M 8) j = plU X.1.1 j) → Q (some (AI (lsU X.1.1 sp))) (g1, ρ)) : WpM zt 141 [AR M, AI sp, AI (-99), AI (-99)] (g, ρ) Q := by
  obtain ⟨hM, hS, -⟩ := id hX
  have hR := hS.1
  have hU := hW.1.1
  have e0 := m_0 hR
  have e5 := m_5 hR
  have b0 := hU.1
  have b5 := hU.2.2.2.2.1
  have b8 := hU.2.2.2.2.2.2.1
  have b4 := hU.2.2.2.1
  refine findPlan_ok (N := pM X.1.1) (F := pF X.1.1) (h := pH X.1.1) (c := cstV (-1) X.1.1) hM hR hU (by unfold pM; omega) (by unfold pF; omega) (by unfold pH; omega) (fun f m => cstU_b hU f m) (cMay_u hU) hsp (by omega) (by omega) (fun g1 y1 y2 y3 => ?_)
  exact hQ g1 y1 y2 (fun z1 z2 j hj => by
    subst z1
    exact y3 z2 j hj)
theorem d_least (hX : RepM g ρ M X) (hW : WFX X) {w : Int} (hw : i32 w) (hQ : MdQ g ρ M (sLeast w X, X) Q) : WpM zt 155 [AR M, AI w] (g, ρ) Q := by
  obtain ⟨hM, hS, -⟩ := id hX
  have hR := hS.1
  have hU := hW.1.1
  have e0 := m_0 hR
  have e5 := m_5 hR
  have b0 := hU.1
  have b5 := hU.2.2.2.2.1
  have b8 := hU.2.2.2.2.2.2.1
  have b4 := hU.2.2.2.1
  unfold sLeast at hQ
  by_cases c : 0 ≤ w ∧ w ≤ 1
  · rw [if_pos c] at hQ
    have ho := fun Q => in_t (zt := zt) (g := g) (ρ := ρ) (lo := 0) (hi := 1) (by omega) (by omega) c Q
    have s0 := setting_ok (zt := zt) hM hR (w := 0) (by omega) (by omega)
    have es0 : X.1.1 4 (0 : Int).toNat = X.1.1 4 0 := rfl
    rw [es0] at s0
    simp only [m_M_least, b_M_least_0, P_M_least_25, b_M_least_25, P_M_least_26, b_M_least_26, wp_abs, wp_aln0, wp_bipush, wp_copy, wp_cs1, wp_cs2, wp_cs3, wp_cs4, wp_cs5, wp_cs6, wp_cs7, wp_cv1, wp_cv2, wp_cv3, wp_cv4, wp_cv5, wp_cv6, wp_cv7, wp_goto, wp_iconst, wp_iln1, wp_iret, wp_izeq, wp_max, wp_min, wp_nop, wp_zret, qmd_kd, qmd_k1, qmd_l1, qmd_gf0, qmd_k2, qmd_l2, qmd_gf1, qmd_k3, qmd_l3, qmd_gf2, qmd_k4, qmd_l4, qmd_gf4, qmd_k5, qmd_l5, qmd_gf6, qmd_k6, qmd_l6, qmd_gf7, qmd_k7, qmd_l7, qmd_gf10, qmd_k8, qmd_l8, qmd_gf11, qmd_k9, qmd_l9, qmd_gf12, qmd_gf3, qmd_pf3, qmd_gf5, qmd_pf5, qmd_gf8, qmd_pf8, qmd_gf9, qmd_pf9, wrI_row, cpI_row, row_s, row_n, row_ss, row_sw, upd_s, upd_n, ad_inj, ad_z, ad_z2, Nat.reduceEqDiff, reduceCtorEq, List.cons_append, List.nil_append, Option.toList_some, Option.toList_none, Int.toNat_natCast, List.length_cons, List.length_nil, Int.cast_ofNat_Int, Nat.reduceAdd, Nat.reduceLeDiff, Nat.reduceLT, Nat.reduceMul, Int.reduceAdd, Int.reduceSub, Int.reduceMul, Int.reduceNeg, Int.reduceLT, Int.reduceLE, Int.reduceEq, Int.reduceToNat, eq_self, true_and, and_true, true_or, or_true, false_or, or_false, if_true, if_false, not_true_eq_false, not_false_eq_true, and_self, ne_eq, hM, ho, s0]
    (repeat' (first | apply And.intro | split)) <;> first | omega | skip
    refine find_u hX hW (by omega) (fun g1 y1 y2 y3 => ?_)
    have q := hQ g1 (y1.rep hX) (fun x z => y1.fr x z)
    simp only [m_M_least, b_M_least_0, P_M_least_25, b_M_least_25, P_M_least_26, b_M_least_26, wp_abs, wp_aln0, wp_bipush, wp_copy, wp_cs1, wp_cs2, wp_cs3, wp_cs4, wp_cs5, wp_cs6, wp_cs7, wp_cv1, wp_cv2, wp_cv3, wp_cv4, wp_cv5, wp_cv6, wp_cv7, wp_goto, wp_iconst, wp_iln1, wp_iret, wp_izeq, wp_max, wp_min, wp_nop, wp_zret, qmd_kd, qmd_k1, qmd_l1, qmd_gf0, qmd_k2, qmd_l2, qmd_gf1, qmd_k3, qmd_l3, qmd_gf2, qmd_k4, qmd_l4, qmd_gf4, qmd_k5, qmd_l5, qmd_gf6, qmd_k6, qmd_l6, qmd_gf7, qmd_k7, qmd_l7, qmd_gf10, qmd_k8, qmd_l8, qmd_gf11, qmd_k9, qmd_l9, qmd_gf12, qmd_gf3, qmd_pf3, qmd_gf5, qmd_pf5, qmd_gf8, qmd_pf8, qmd_gf9, qmd_pf9, wrI_row, cpI_row, row_s, row_n, row_ss, row_sw, upd_s, upd_n, ad_inj, ad_z, ad_z2, Nat.reduceEqDiff, reduceCtorEq, List.cons_append, List.nil_append, Option.toList_some, Option.toList_none, Int.toNat_natCast, List.length_cons, List.length_nil, Int.cast_ofNat_Int, Nat.reduceAdd, Nat.reduceLeDiff, Nat.reduceLT, Nat.reduceMul, Int.reduceAdd, Int.reduceSub, Int.reduceMul, Int.reduceNeg, Int.reduceLT, Int.reduceLE, Int.reduceEq, Int.reduceToNat, eq_self, true_and, and_true, true_or, or_true, false_or, or_false, if_true, if_false, not_true_eq_false, not_false_eq_true, and_self, ne_eq]
    (repeat' (first | apply And.intro | split)) <;> first | omega | exact q
  · rw [if_neg c] at hQ
    have q := hQ.ro hX
    have ho := fun Q => in_f (zt := zt) (g := g) (ρ := ρ) (lo := 0) (hi := 1) hw (by omega) (by omega) c Q
    simp only [m_M_least, b_M_least_0, P_M_least_25, b_M_least_25, P_M_least_26, b_M_least_26, wp_abs, wp_aln0, wp_bipush, wp_copy, wp_cs1, wp_cs2, wp_cs3, wp_cs4, wp_cs5, wp_cs6, wp_cs7, wp_cv1, wp_cv2, wp_cv3, wp_cv4, wp_cv5, wp_cv6, wp_cv7, wp_goto, wp_iconst, wp_iln1, wp_iret, wp_izeq, wp_max, wp_min, wp_nop, wp_zret, qmd_kd, qmd_k1, qmd_l1, qmd_gf0, qmd_k2, qmd_l2, qmd_gf1, qmd_k3, qmd_l3, qmd_gf2, qmd_k4, qmd_l4, qmd_gf4, qmd_k5, qmd_l5, qmd_gf6, qmd_k6, qmd_l6, qmd_gf7, qmd_k7, qmd_l7, qmd_gf10, qmd_k8, qmd_l8, qmd_gf11, qmd_k9, qmd_l9, qmd_gf12, qmd_gf3, qmd_pf3, qmd_gf5, qmd_pf5, qmd_gf8, qmd_pf8, qmd_gf9, qmd_pf9, wrI_row, cpI_row, row_s, row_n, row_ss, row_sw, upd_s, upd_n, ad_inj, ad_z, ad_z2, Nat.reduceEqDiff, reduceCtorEq, List.cons_append, List.nil_append, Option.toList_some, Option.toList_none, Int.toNat_natCast, List.length_cons, List.length_nil, Int.cast_ofNat_Int, Nat.reduceAdd, Nat.reduceLeDiff, Nat.reduceLT, Nat.reduceMul, Int.reduceAdd, Int.reduceSub, Int.reduceMul, Int.reduceNeg, Int.reduceLT, Int.reduceLE, Int.reduceEq, Int.reduceToNat, eq_self, true_and, and_true, true_or, or_true, false_or, or_false, if_true, if_false, not_true_eq_false, not_false_eq_true, and_self, ne_eq, hM, ho]
    (repeat' (first | apply And.intro | split)) <;> first | omega | exact q
theorem d_leastWith (hX : RepM g ρ M X) (hW : WFX X) {f m : Int} (hf : i32 f) (hm : i32 m) (hQ : MdQ g ρ M (sLeastWith f m X, X) Q) : WpM zt 156 [AR M, AI f, AI m] (g, ρ) Q := by
  obtain ⟨hM, hS, -⟩ := id hX
  have hR := hS.1
  have hU := hW.1.1
  have e0 := m_0 hR
  have e5 := m_5 hR
  have b0 := hU.1
  have b5 := hU.2.2.2.2.1
  have b8 := hU.2.2.2.2.2.2.1
  have b4 := hU.2.2.2.1
  unfold sLeastWith at hQ
  have h1 := isFrame_ok (zt := zt) hM hR hU hf
  have h2 := isMouth_ok (zt := zt) hM hR hU hm
  by_cases c1 : 0 ≤ f ∧ f < X.1.1 8 0
  · rw [b2_t c1] at h1
    by_cases c2 : 0 ≤ m ∧ m < X.1.1 0 0
    · rw [b2_t c2] at h2
      rw [if_pos ⟨c1, c2⟩] at hQ
      obtain ⟨f0, rfl⟩ := Int.eq_ofNat_of_zero_le c1.1
      obtain ⟨m0, rfl⟩ := Int.eq_ofNat_of_zero_le c2.1
      rw [Int.toNat_natCast, Int.toNat_natCast] at hQ
      have s0 := setting_ok (zt := zt) hM hR (w := 0) (by omega) (by omega)
      have es0 : X.1.1 4 (0 : Int).toNat = X.1.1 4 0 := rfl
      rw [es0] at s0
      simp only [m_M_leastWith, b_M_leastWith_0, P_M_leastWith_30, b_M_leastWith_30, P_M_leastWith_31, b_M_leastWith_31, wp_aln0, wp_cv1, wp_cv2, wp_cv3, wp_cv4, wp_cv5, wp_cv6, wp_cv7, wp_goto, wp_iconst, wp_iln1, wp_iln2, wp_iret, wp_izeq, wp_nop, wp_zret, qmd_kd, qmd_k1, qmd_l1, qmd_gf0, qmd_k2, qmd_l2, qmd_gf1, qmd_k3, qmd_l3, qmd_gf2, qmd_k4, qmd_l4, qmd_gf4, qmd_k5, qmd_l5, qmd_gf6, qmd_k6, qmd_l6, qmd_gf7, qmd_k7, qmd_l7, qmd_gf10, qmd_k8, qmd_l8, qmd_gf11, qmd_k9, qmd_l9, qmd_gf12, qmd_gf3, qmd_pf3, qmd_gf5, qmd_pf5, qmd_gf8, qmd_pf8, qmd_gf9, qmd_pf9, wrI_row, cpI_row, row_s, row_n, row_ss, row_sw, upd_s, upd_n, ad_inj, ad_z, ad_z2, Nat.reduceEqDiff, reduceCtorEq, List.cons_append, List.nil_append, Option.toList_some, Option.toList_none, Int.toNat_natCast, List.length_cons, List.length_nil, Int.cast_ofNat_Int, Nat.reduceAdd, Nat.reduceLeDiff, Nat.reduceLT, Nat.reduceMul, Int.reduceAdd, Int.reduceSub, Int.reduceMul, Int.reduceNeg, Int.reduceLT, Int.reduceLE, Int.reduceEq, Int.reduceToNat, eq_self, true_and, and_true, true_or, or_true, false_or, or_false, if_true, if_false, not_true_eq_false, not_false_eq_true, and_self, ne_eq, hM, h1, h2, s0]
      (repeat' (first | apply And.intro | split)) <;> first | omega | skip
      refine findPlan_ok (N := pM X.1.1) (F := pF X.1.1) (h := pH X.1.1) (c := cstB X.1.1 f0 m0) hM hR hU (by unfold pM; omega) (by unfold pF; omega) (by unfold pH; omega) (fun f m => cstB_b hU f m) (cMay_b hU) (by omega) (by omega) (by omega) (fun g1 y1 y2 y3 => ?_)
      have q := hQ g1 (y1.rep hX) (fun x z => y1.fr x z)
      simp only [m_M_leastWith, b_M_leastWith_0, P_M_leastWith_30, b_M_leastWith_30, P_M_leastWith_31, b_M_leastWith_31, wp_aln0, wp_cv1, wp_cv2, wp_cv3, wp_cv4, wp_cv5, wp_cv6, wp_cv7, wp_goto, wp_iconst, wp_iln1, wp_iln2, wp_iret, wp_izeq, wp_nop, wp_zret, qmd_kd, qmd_k1, qmd_l1, qmd_gf0, qmd_k2, qmd_l2, qmd_gf1, qmd_k3, qmd_l3, qmd_gf2, qmd_k4, qmd_l4, qmd_gf4, qmd_k5, qmd_l5, qmd_gf6, qmd_k6, qmd_l6, qmd_gf7, qmd_k7, qmd_l7, qmd_gf10, qmd_k8, qmd_l8, qmd_gf11, qmd_k9, qmd_l9, qmd_gf12, qmd_gf3, qmd_pf3, qmd_gf5, qmd_pf5, qmd_gf8, qmd_pf8, qmd_gf9, qmd_pf9, wrI_row, cpI_row, row_s, row_n, row_ss, row_sw, upd_s, upd_n, ad_inj, ad_z, ad_z2, Nat.reduceEqDiff, reduceCtorEq, List.cons_append, List.nil_append, Option.toList_some, Option.toList_none, Int.toNat_natCast, List.length_cons, List.length_nil, Int.cast_ofNat_Int, Nat.reduceAdd, Nat.reduceLeDiff, Nat.reduceLT, Nat.reduceMul, Int.reduceAdd, Int.reduceSub, Int.reduceMul, Int.reduceNeg, Int.reduceLT, Int.reduceLE, Int.reduceEq, Int.reduceToNat, eq_self, true_and, and_true, true_or, or_true, false_or, or_false, if_true, if_false, not_true_eq_false, not_false_eq_true, and_self, ne_eq]
      (repeat' (first | apply And.intro | split)) <;> first | omega | exact q
    · rw [b2_f c2] at h2
      rw [if_neg (fun z => c2 z.2)] at hQ
      have q := hQ.ro hX
      simp only [m_M_leastWith, b_M_leastWith_0, P_M_leastWith_30, b_M_leastWith_30, P_M_leastWith_31, b_M_leastWith_31, wp_aln0, wp_cv1, wp_cv2, wp_cv3, wp_cv4, wp_cv5, wp_cv6, wp_cv7, wp_goto, wp_iconst, wp_iln1, wp_iln2, wp_iret, wp_izeq, wp_nop, wp_zret, qmd_kd, qmd_k1, qmd_l1, qmd_gf0, qmd_k2, qmd_l2, qmd_gf1, qmd_k3, qmd_l3, qmd_gf2, qmd_k4, qmd_l4, qmd_gf4, qmd_k5, qmd_l5, qmd_gf6, qmd_k6, qmd_l6, qmd_gf7, qmd_k7, qmd_l7, qmd_gf10, qmd_k8, qmd_l8, qmd_gf11, qmd_k9, qmd_l9, qmd_gf12, qmd_gf3, qmd_pf3, qmd_gf5, qmd_pf5, qmd_gf8, qmd_pf8, qmd_gf9, qmd_pf9, wrI_row, cpI_row, row_s, row_n, row_ss, row_sw, upd_s, upd_n, ad_inj, ad_z, ad_z2, Nat.reduceEqDiff, reduceCtorEq, List.cons_append, List.nil_append, Option.toList_some, Option.toList_none, Int.toNat_natCast, List.length_cons, List.length_nil, Int.cast_ofNat_Int, Nat.reduceAdd, Nat.reduceLeDiff, Nat.reduceLT, Nat.reduceMul, Int.reduceAdd, Int.reduceSub, Int.reduceMul, Int.reduceNeg, Int.reduceLT, Int.reduceLE, Int.reduceEq, Int.reduceToNat, eq_self, true_and, and_true, true_or, or_true, false_or, or_false, if_true, if_false, not_true_eq_false, not_false_eq_true, and_self, ne_eq, hM, h1, h2]
      (repeat' (first | apply And.intro | split)) <;> first | omega | exact q
  · rw [b2_f c1] at h1
    rw [if_neg (fun z => c1 z.1)] at hQ
    have q := hQ.ro hX
    simp only [m_M_leastWith, b_M_leastWith_0, P_M_leastWith_30, b_M_leastWith_30, P_M_leastWith_31, b_M_leastWith_31, wp_aln0, wp_cv1, wp_cv2, wp_cv3, wp_cv4, wp_cv5, wp_cv6, wp_cv7, wp_goto, wp_iconst, wp_iln1, wp_iln2, wp_iret, wp_izeq, wp_nop, wp_zret, qmd_kd, qmd_k1, qmd_l1, qmd_gf0, qmd_k2, qmd_l2, qmd_gf1, qmd_k3, qmd_l3, qmd_gf2, qmd_k4, qmd_l4, qmd_gf4, qmd_k5, qmd_l5, qmd_gf6, qmd_k6, qmd_l6, qmd_gf7, qmd_k7, qmd_l7, qmd_gf10, qmd_k8, qmd_l8, qmd_gf11, qmd_k9, qmd_l9, qmd_gf12, qmd_gf3, qmd_pf3, qmd_gf5, qmd_pf5, qmd_gf8, qmd_pf8, qmd_gf9, qmd_pf9, wrI_row, cpI_row, row_s, row_n, row_ss, row_sw, upd_s, upd_n, ad_inj, ad_z, ad_z2, Nat.reduceEqDiff, reduceCtorEq, List.cons_append, List.nil_append, Option.toList_some, Option.toList_none, Int.toNat_natCast, List.length_cons, List.length_nil, Int.cast_ofNat_Int, Nat.reduceAdd, Nat.reduceLeDiff, Nat.reduceLT, Nat.reduceMul, Int.reduceAdd, Int.reduceSub, Int.reduceMul, Int.reduceNeg, Int.reduceLT, Int.reduceLE, Int.reduceEq, Int.reduceToNat, eq_self, true_and, and_true, true_or, or_true, false_or, or_false, if_true, if_false, not_true_eq_false, not_false_eq_true, and_self, ne_eq, hM, h1]
    (repeat' (first | apply And.intro | split)) <;> first | omega | exact q
end MLV
