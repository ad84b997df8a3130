/-! lays of the reference -/
/-! locals 11 to 13 -/
section WPX
variable {zt : Nat → Nat} {k : Nat} {c : List RI} {st : List AV} {g : Nat → Nat → Int} {ρ : Ri} {Q : Option AV → Sto → Prop} {x : List Nat}
theorem wp_il11 {l0 l1 l2 l3 l4 l5 l6 l7 l8 l9 l10 : Option AV} {l : LsT} {z : Int} : Wp zt k ((.iload 11, x) :: c) (l0 :: l1 :: l2 :: l3 :: l4 :: l5 :: l6 :: l7 :: l8 :: l9 :: l10 :: some (.inl z) :: l) st (g, ρ) Q ↔ Wp zt k c (l0 :: l1 :: l2 :: l3 :: l4 :: l5 :: l6 :: l7 :: l8 :: l9 :: l10 :: some (.inl z) :: l) (.inl z :: st) (g, ρ) Q := wp_nx rfl
theorem wp_is11 {l0 l1 l2 l3 l4 l5 l6 l7 l8 l9 l10 : Option AV} {l : LsT} {o : Option AV} {z : Int} : Wp zt k ((.istore 11, x) :: c) (l0 :: l1 :: l2 :: l3 :: l4 :: l5 :: l6 :: l7 :: l8 :: l9 :: l10 :: o :: l) (.inl z :: st) (g, ρ) Q ↔ Wp zt k c (l0 :: l1 :: l2 :: l3 :: l4 :: l5 :: l6 :: l7 :: l8 :: l9 :: l10 :: some (.inl z) :: l) st (g, ρ) Q := wp_nx rfl
theorem wp_il12 {l0 l1 l2 l3 l4 l5 l6 l7 l8 l9 l10 l11 : Option AV} {l : LsT} {z : Int} : Wp zt k ((.iload 12, x) :: c) (l0 :: l1 :: l2 :: l3 :: l4 :: l5 :: l6 :: l7 :: l8 :: l9 :: l10 :: l11 :: some (.inl z) :: l) st (g, ρ) Q ↔ Wp zt k c (l0 :: l1 :: l2 :: l3 :: l4 :: l5 :: l6 :: l7 :: l8 :: l9 :: l10 :: l11 :: some (.inl z) :: l) (.inl z :: st) (g, ρ) Q := wp_nx rfl
theorem wp_is12 {l0 l1 l2 l3 l4 l5 l6 l7 l8 l9 l10 l11 : Option AV} {l : LsT} {o : Option AV} {z : Int} : Wp zt k ((.istore 12, x) :: c) (l0 :: l1 :: l2 :: l3 :: l4 :: l5 :: l6 :: l7 :: l8 :: l9 :: l10 :: l11 :: o :: l) (.inl z :: st) (g, ρ) Q ↔ Wp zt k c (l0 :: l1 :: l2 :: l3 :: l4 :: l5 :: l6 :: l7 :: l8 :: l9 :: l10 :: l11 :: some (.inl z) :: l) st (g, ρ) Q := wp_nx rfl
theorem wp_il13 {l0 l1 l2 l3 l4 l5 l6 l7 l8 l9 l10 l11 l12 : Option AV} {l : LsT} {z : Int} : Wp zt k ((.iload 13, x) :: c) (l0 :: l1 :: l2 :: l3 :: l4 :: l5 :: l6 :: l7 :: l8 :: l9 :: l10 :: l11 :: l12 :: some (.inl z) :: l) st (g, ρ) Q ↔ Wp zt k c (l0 :: l1 :: l2 :: l3 :: l4 :: l5 :: l6 :: l7 :: l8 :: l9 :: l10 :: l11 :: l12 :: some (.inl z) :: l) (.inl z :: st) (g, ρ) Q := wp_nx rfl
theorem wp_is13 {l0 l1 l2 l3 l4 l5 l6 l7 l8 l9 l10 l11 l12 : Option AV} {l : LsT} {o : Option AV} {z : Int} : Wp zt k ((.istore 13, x) :: c) (l0 :: l1 :: l2 :: l3 :: l4 :: l5 :: l6 :: l7 :: l8 :: l9 :: l10 :: l11 :: l12 :: o :: l) (.inl z :: st) (g, ρ) Q ↔ Wp zt k c (l0 :: l1 :: l2 :: l3 :: l4 :: l5 :: l6 :: l7 :: l8 :: l9 :: l10 :: l11 :: l12 :: some (.inl z) :: l) st (g, ρ) Q := wp_nx rfl
end WPX
section MLY
variable {v s : Nat → Int} {N : Nat}
/-- the least so far from the greatest mouth down, and its place -/
def lsI (v : Nat → Int) (N m : Nat) (B D : Int) : Prop := (m = N ∧ D = 1000000) ∨ ∃ b : Nat, B = b ∧ m ≤ b ∧ b < N ∧ v b = D ∧ (∀ j, m ≤ j → j < N → D ≤ v j) ∧ ∀ j, m ≤ j → j < b → D < v j
theorem lsI_new {m : Nat} {B D : Int} (hm : m < N) (h : lsI v N (m + 1) B D) (hl : v m ≤ D) : lsI v N m m (v m) := by
  refine Or.inr ⟨m, rfl, Nat.le_refl _, hm, rfl, fun j h1 h2 => ?_, fun j h1 h2 => by omega⟩
  by_cases e : j = m
  · rw [e]
    exact Int.le_refl _
  · rcases h with ⟨a1, a2⟩ | ⟨b, b1, b2, b3, b4, b5, b6⟩
    · omega
    · have := b5 j (by omega) h2
      omega
theorem lsI_old {m : Nat} {B D : Int} (hm : m < N) (hv : v m ≤ 1000000) (h : lsI v N (m + 1) B D) (hl : ¬ v m ≤ D) : lsI v N m B D := by
  rcases h with ⟨a1, a2⟩ | ⟨b, b1, b2, b3, b4, b5, b6⟩
  · omega
  · refine Or.inr ⟨b, b1, by omega, b3, b4, fun j h1 h2 => ?_, fun j h1 h2 => ?_⟩
    · by_cases e : j = m
      · rw [e]
        omega
      · exact b5 j (by omega) h2
    · by_cases e : j = m
      · rw [e]
        omega
      · exact b6 j (by omega) h2
theorem lsI_end {B D : Int} (hN : 0 < N) (hv : ∀ j, v j ≤ 1000000) (h : lsI v N 0 B D) : B = (amin v N : Nat) ∧ D = minB (fun _ => true) v N := by
  rcases h with ⟨a1, a2⟩ | ⟨b, b1, b2, b3, b4, b5, b6⟩
  · omega
  · rw [amin_char N b3 (fun j hj => by rw [b4]; exact b5 j (by omega) hj) (fun j hj => by rw [b4]; exact b6 j (by omega) hj)]
    refine ⟨b1, (minB_char (fun j hj => b5 j (by omega) hj) (by rw [← b4]; exact hv b) (Or.inr ⟨b, b3, b4⟩)).symm⟩
/-- the least place with the value D from the greatest down -/
def fdI (s : Nat → Int) (D : Int) (N m : Nat) (B : Int) : Prop := (B = -99 ∧ ∀ j, m ≤ j → j < N → s j ≠ D) ∨ ∃ b : Nat, B = b ∧ m ≤ b ∧ b < N ∧ s b = D ∧ ∀ j, m ≤ j → j < b → s j ≠ D
theorem fdI_new {m : Nat} {B D : Int} (hm : m < N) (hs : s m = D) : fdI s D N m m := Or.inr ⟨m, rfl, Nat.le_refl _, hm, hs, fun j h1 h2 => by omega⟩
theorem fdI_old {m : Nat} {B D : Int} (h : fdI s D N (m + 1) B) (hs : s m ≠ D) : fdI s D N m B := by
  rcases h with ⟨a1, a2⟩ | ⟨b, b1, b2, b3, b4, b5⟩
  · refine Or.inl ⟨a1, fun j h1 h2 => ?_⟩
    by_cases e : j = m
    · rw [e]
      exact hs
    · exact a2 j (by omega) h2
  · refine Or.inr ⟨b, b1, by omega, b3, b4, fun j h1 h2 => ?_⟩
    by_cases e : j = m
    · rw [e]
      exact hs
    · exact b5 j (by omega) h2
theorem fdI_end {B D : Int} {last : Nat} (h : fdI s D N 0 B) (hD : D < 1000000) (hle : ∀ j, j < N → D ≤ s j) (hat : D = 1000000 ∨ ∃ j, j < N ∧ s j = D) : B = (nbV s last N : Nat) ∧ s (nbV s last N) = D := by
  rcases h with ⟨a1, a2⟩ | ⟨b, b1, b2, b3, b4, b5⟩
  · rcases hat with q | ⟨j, j1, j2⟩
    · omega
    · exact absurd j2 (a2 j (by omega) j1)
  · rw [nbV_char hD N b3 b4 hle (fun j hj => by
      have h1 := hle j (by omega)
      have h2 := b5 j (by omega) hj
      omega)]
    exact ⟨b1, b4⟩
end MLY
section MLZ
variable {zt : Nat → Nat} {g : Nat → Nat → Int} {ρ : Ri} {a : Nat} {U : Vw} {F N h : Nat} {c : Nat → Nat → Int} {sp : Int}
theorem lays_min (hM : isMd ρ a) (hR : LR (-1) (vwM (g (ad a 1))) U) (hU : WFV (-1) U) (hN : (N : Int) = U 0 0) (hh : (h : Int) = U 4 1) (hc : ∀ f m, 0 ≤ c f m) (hF : 0 < F) (hI : rsI (g (ad a 7)) F N h c (clsV U sp) 0) {r6 r7 r8 r9 r10 r11 r12 r13 : Option AV} {Q : Option AV → Sto → Prop}
    (kk : ∀ (Y : Nat → Int) (o5 o6 : Option AV), Y 0 = (amin (fun m => Rv F N h c (clsV U sp) F m 0) N : Nat) → Wp zt 142 (P 142 85) [some (AR a), some (AI F), some (AI sp), some (AI h), some (AI (minB (fun _ => true) (fun m => Rv F N h c (clsV U sp) F m 0) N)), o5, o6, r7, r8, r9, r10, r11, r12, r13] [] (setRow g (ad a 8) Y, ρ) Q) :
    ∀ (m1 : Nat) (Y : Nat → Int) (B D : Int) (o6 : Option AV), m1 ≤ N → Y 0 = B → 0 ≤ D ∧ D ≤ 1000000 → lsI (fun m => Rv F N h c (clsV U sp) F m 0) N m1 B D → Wp zt 142 (P 142 20) [some (AR a), some (AI F), some (AI sp), some (AI h), some (AI D), some (AI ((m1 : Int) - 1)), o6, r7, r8, r9, r10, r11, r12, r13] [] (setRow g (ad a 8) Y, ρ) Q := by
  have b0 := hU.1
  have b4 := hU.2.2.2.1
  have hb := fun m => Rv_b (F := F) (M := N) (h := h) (cl := clsV U sp) hc F m 0
  have z78 : (ad a 7 = ad a 8) ↔ False := iff_false_intro (by unfold ad; omega)
  intro m1
  induction m1 with
  | zero =>
    intro Y B D o6 hm hP hD hL
    obtain ⟨q1, q2⟩ := lsI_end (by omega) (fun j => (hb j).2) hL
    have k1 := kk Y (some (AI (((0 : Nat) : Int) - 1))) o6 (by rw [hP, q1])
    rw [← q2] at k1
    have e1 : ((0 : Nat) : Int) - 1 = -1 := by omega
    rw [e1] at k1 ⊢
    rw [P_M_lays_20]
    simp only [m_M_lays, b_M_lays_0, P_M_lays_56, b_M_lays_56, P_M_lays_62, b_M_lays_62, P_M_lays_75, b_M_lays_75, P_M_lays_77, b_M_lays_77, P_M_lays_95, b_M_lays_95, P_M_lays_101, b_M_lays_101, P_M_lays_148, b_M_lays_148, P_M_lays_164, b_M_lays_164, P_M_lays_165, b_M_lays_165, P_M_lays_190, b_M_lays_190, P_M_lays_194, b_M_lays_194, P_M_lays_195, b_M_lays_195, P_M_lays_215, b_M_lays_215, P_M_lays_224, b_M_lays_224, P_M_lays_225, b_M_lays_225, P_M_lays_256, b_M_lays_256, P_M_lays_258, b_M_lays_258, P_M_lays_266, b_M_lays_266, P_M_lays_277, b_M_lays_277, P_M_lays_290, b_M_lays_290, P_M_lays_291, b_M_lays_291, P_M_lays_308, b_M_lays_308, wp_abs, wp_aln0, wp_bipush, wp_copy, wp_cs1, wp_cs2, wp_cs3, wp_cs4, wp_cs5, wp_cs6, wp_cs7, wp_cv1, wp_cv2, wp_cv3, wp_cv4, wp_cv5, wp_cv6, wp_cv7, wp_goto, wp_iadd, wp_iald, wp_iast, wp_iceq, wp_icge, wp_icgt, wp_icne, wp_iconst, wp_il10, wp_il11, wp_il12, wp_il13, wp_il4, wp_il5, wp_il6, wp_il7, wp_il8, wp_il9, wp_iln1, wp_iln2, wp_iln3, wp_inc10, wp_inc5, wp_inc6, wp_iret, wp_is10, wp_is11, wp_is12, wp_is13, wp_is4, wp_is5, wp_is6, wp_is7, wp_is8, wp_is9, wp_isn3, wp_isub, wp_izeq, wp_izlt, wp_izne, wp_ldc, wp_max, wp_min, wp_nop, wp_zret, qmd_kd, qmd_k1, qmd_l1, qmd_gf0, qmd_k2, qmd_l2, qmd_gf1, qmd_k3, qmd_l3, qmd_gf2, qmd_k4, qmd_l4, qmd_gf4, qmd_k5, qmd_l5, qmd_gf6, qmd_k6, qmd_l6, qmd_gf7, qmd_k7, qmd_l7, qmd_gf10, qmd_k8, qmd_l8, qmd_gf11, qmd_k9, qmd_l9, qmd_gf12, qmd_gf3, qmd_pf3, qmd_gf5, qmd_pf5, qmd_gf8, qmd_pf8, qmd_gf9, qmd_pf9, wrI_row, cpI_row, row_s, row_n, row_ss, row_sw, upd_s, upd_n, ad_inj, ad_z, ad_z2, Nat.reduceEqDiff, reduceCtorEq, List.cons_append, List.nil_append, Option.toList_some, Option.toList_none, Int.toNat_natCast, List.length_cons, List.length_nil, Int.cast_ofNat_Int, Nat.reduceAdd, Nat.reduceLeDiff, Nat.reduceLT, Nat.reduceMul, Int.reduceAdd, Int.reduceSub, Int.reduceMul, Int.reduceNeg, Int.reduceLT, Int.reduceLE, Int.reduceEq, Int.reduceToNat, eq_self, true_and, and_true, true_or, or_true, false_or, or_false, if_true, if_false, not_true_eq_false, not_false_eq_true, and_self, ne_eq, b_M_lays_20, hM]
    (repeat' (first | apply And.intro | split)) <;> first | omega | exact k1
  | succ m ih =>
    intro Y B D o6 hm hP hD hL
    have e1 : ((m + 1 : Nat) : Int) - 1 = (m : Int) := by omega
    have hbm := hb m
    have rd := hI 0 m 0 (Nat.le_refl _) hF (by omega) (by omega)
    rw [show F - 0 = F by omega] at rd
    have ce := fun Q => (cellOf_ok (zt := zt) (g := setRow g (ad a 8) Y) (ρ := ρ) (f := 0) (m := (m : Int)) (h := 1) Q).trans (by rw [show 24 * (0 : Int) + 3 * (m : Int) + 1 - 1 = 3 * (m : Int) by omega])
    have ei : (3 * (m : Int)).toNat = (0 * 8 + m) * 3 + 0 := by omega
    have z0 : (0 : Int).toNat = 0 := rfl
    have en : (m : Int) + -1 = (m : Int) - 1 := by omega
    by_cases cl : Rv F N h c (clsV U sp) F m 0 ≤ D
    · have i1 := ih (upd1 Y 0 (m : Int)) (m : Int) (Rv F N h c (clsV U sp) F m 0) (some (AI (Rv F N h c (clsV U sp) F m 0))) (by omega) upd_s hbm (lsI_new (v := fun m => Rv F N h c (clsV U sp) F m 0) (by omega) hL cl)
      have cl' : ¬ D < Rv F N h c (clsV U sp) F m 0 := by omega
      rw [P_M_lays_20, e1]
      simp only [m_M_lays, b_M_lays_0, P_M_lays_56, b_M_lays_56, P_M_lays_62, b_M_lays_62, P_M_lays_75, b_M_lays_75, P_M_lays_77, b_M_lays_77, P_M_lays_95, b_M_lays_95, P_M_lays_101, b_M_lays_101, P_M_lays_148, b_M_lays_148, P_M_lays_164, b_M_lays_164, P_M_lays_165, b_M_lays_165, P_M_lays_190, b_M_lays_190, P_M_lays_194, b_M_lays_194, P_M_lays_195, b_M_lays_195, P_M_lays_215, b_M_lays_215, P_M_lays_224, b_M_lays_224, P_M_lays_225, b_M_lays_225, P_M_lays_256, b_M_lays_256, P_M_lays_258, b_M_lays_258, P_M_lays_266, b_M_lays_266, P_M_lays_277, b_M_lays_277, P_M_lays_290, b_M_lays_290, P_M_lays_291, b_M_lays_291, P_M_lays_308, b_M_lays_308, wp_abs, wp_aln0, wp_bipush, wp_copy, wp_cs1, wp_cs2, wp_cs3, wp_cs4, wp_cs5, wp_cs6, wp_cs7, wp_cv1, wp_cv2, wp_cv3, wp_cv4, wp_cv5, wp_cv6, wp_cv7, wp_goto, wp_iadd, wp_iald, wp_iast, wp_iceq, wp_icge, wp_icgt, wp_icne, wp_iconst, wp_il10, wp_il11, wp_il12, wp_il13, wp_il4, wp_il5, wp_il6, wp_il7, wp_il8, wp_il9, wp_iln1, wp_iln2, wp_iln3, wp_inc10, wp_inc5, wp_inc6, wp_iret, wp_is10, wp_is11, wp_is12, wp_is13, wp_is4, wp_is5, wp_is6, wp_is7, wp_is8, wp_is9, wp_isn3, wp_isub, wp_izeq, wp_izlt, wp_izne, wp_ldc, wp_max, wp_min, wp_nop, wp_zret, qmd_kd, qmd_k1, qmd_l1, qmd_gf0, qmd_k2, qmd_l2, qmd_gf1, qmd_k3, qmd_l3, qmd_gf2, qmd_k4, qmd_l4, qmd_gf4, qmd_k5, qmd_l5, qmd_gf6, qmd_k6, qmd_l6, qmd_gf7, qmd_k7, qmd_l7, qmd_gf10, qmd_k8, qmd_l8, qmd_gf11, qmd_k9, qmd_l9, qmd_gf12, qmd_gf3, qmd_pf3, qmd_gf5, qmd_pf5, qmd_gf8, qmd_pf8, qmd_gf9, qmd_pf9, wrI_row, cpI_row, row_s, row_n, row_ss, row_sw, upd_s, upd_n, ad_inj, ad_z, ad_z2, Nat.reduceEqDiff, reduceCtorEq, List.cons_append, List.nil_append, Option.toList_some, Option.toList_none, Int.toNat_natCast, List.length_cons, List.length_nil, Int.cast_ofNat_Int, Nat.reduceAdd, Nat.reduceLeDiff, Nat.reduceLT, Nat.reduceMul, Int.reduceAdd, Int.reduceSub, Int.reduceMul, Int.reduceNeg, Int.reduceLT, Int.reduceLE, Int.reduceEq, Int.reduceToNat, eq_self, true_and, and_true, true_or, or_true, false_or, or_false, if_true, if_false, not_true_eq_false, not_false_eq_true, and_self, ne_eq, b_M_lays_20, hM, ce, ei, z78, rd, cl', en]
      (repeat' (first | apply And.intro | split)) <;> first | omega | exact i1
    · have i1 := ih (upd1 Y 0 B) B D (some (AI (Rv F N h c (clsV U sp) F m 0))) (by omega) upd_s hD (lsI_old (v := fun m => Rv F N h c (clsV U sp) F m 0) (by omega) hbm.2 hL cl)
      have cl' : D < Rv F N h c (clsV U sp) F m 0 := by omega
      rw [P_M_lays_20, e1]
      simp only [m_M_lays, b_M_lays_0, P_M_lays_56, b_M_lays_56, P_M_lays_62, b_M_lays_62, P_M_lays_75, b_M_lays_75, P_M_lays_77, b_M_lays_77, P_M_lays_95, b_M_lays_95, P_M_lays_101, b_M_lays_101, P_M_lays_148, b_M_lays_148, P_M_lays_164, b_M_lays_164, P_M_lays_165, b_M_lays_165, P_M_lays_190, b_M_lays_190, P_M_lays_194, b_M_lays_194, P_M_lays_195, b_M_lays_195, P_M_lays_215, b_M_lays_215, P_M_lays_224, b_M_lays_224, P_M_lays_225, b_M_lays_225, P_M_lays_256, b_M_lays_256, P_M_lays_258, b_M_lays_258, P_M_lays_266, b_M_lays_266, P_M_lays_277, b_M_lays_277, P_M_lays_290, b_M_lays_290, P_M_lays_291, b_M_lays_291, P_M_lays_308, b_M_lays_308, wp_abs, wp_aln0, wp_bipush, wp_copy, wp_cs1, wp_cs2, wp_cs3, wp_cs4, wp_cs5, wp_cs6, wp_cs7, wp_cv1, wp_cv2, wp_cv3, wp_cv4, wp_cv5, wp_cv6, wp_cv7, wp_goto, wp_iadd, wp_iald, wp_iast, wp_iceq, wp_icge, wp_icgt, wp_icne, wp_iconst, wp_il10, wp_il11, wp_il12, wp_il13, wp_il4, wp_il5, wp_il6, wp_il7, wp_il8, wp_il9, wp_iln1, wp_iln2, wp_iln3, wp_inc10, wp_inc5, wp_inc6, wp_iret, wp_is10, wp_is11, wp_is12, wp_is13, wp_is4, wp_is5, wp_is6, wp_is7, wp_is8, wp_is9, wp_isn3, wp_isub, wp_izeq, wp_izlt, wp_izne, wp_ldc, wp_max, wp_min, wp_nop, wp_zret, qmd_kd, qmd_k1, qmd_l1, qmd_gf0, qmd_k2, qmd_l2, qmd_gf1, qmd_k3, qmd_l3, qmd_gf2, qmd_k4, qmd_l4, qmd_gf4, qmd_k5, qmd_l5, qmd_gf6, qmd_k6, qmd_l6, qmd_gf7, qmd_k7, qmd_l7, qmd_gf10, qmd_k8, qmd_l8, qmd_gf11, qmd_k9, qmd_l9, qmd_gf12, qmd_gf3, qmd_pf3, qmd_gf5, qmd_pf5, qmd_gf8, qmd_pf8, qmd_gf9, qmd_pf9, wrI_row, cpI_row, row_s, row_n, row_ss, row_sw, upd_s, upd_n, ad_inj, ad_z, ad_z2, Nat.reduceEqDiff, reduceCtorEq, List.cons_append, List.nil_append, Option.toList_some, Option.toList_none, Int.toNat_natCast, List.length_cons, List.length_nil, Int.cast_ofNat_Int, Nat.reduceAdd, Nat.reduceLeDiff, Nat.reduceLT, Nat.reduceMul, Int.reduceAdd, Int.reduceSub, Int.reduceMul, Int.reduceNeg, Int.reduceLT, Int.reduceLE, Int.reduceEq, Int.reduceToNat, eq_self, true_and, and_true, true_or, or_true, false_or, or_false, if_true, if_false, not_true_eq_false, not_false_eq_true, and_self, ne_eq, b_M_lays_20, hM, ce, ei, z78, rd, cl', en, hP]
      (repeat' (first | apply And.intro | split)) <;> first | omega | exact i1
theorem lays_find (hM : isMd ρ a) (hR : LR (-1) (vwM (g (ad a 1))) U) (hU : WFV (-1) U) (hN : (N : Int) = U 0 0) (hh : (h : Int) = U 4 1) (hc : ∀ f m, 0 ≤ c f m) (hF9 : F ≤ 99) (hI : rsI (g (ad a 7)) F N h c (clsV U sp) 0) (hsp : 0 ≤ sp ∧ sp ≤ 9) {f last r : Nat} (hf : f < F) (hl : last < N) (hr : r < h) {D T : Int} (hD : 0 ≤ D ∧ D < 1000000) {Y : Nat → Int} {Q : Option AV → Sto → Prop}
    (kk : ∀ (B : Int) (o10 o11 o12 o13 : Option AV), fdI (sNV F N h c (clsV U sp) f last r) D N 0 B → Wp zt 142 (P 142 266) [some (AR a), some (AI F), some (AI sp), some (AI h), some (AI T), some (AI ((r : Int) + 1)), some (AI f), some (AI last), some (AI D), some (AI B), o10, o11, o12, o13] [] (setRow g (ad a 8) Y, ρ) Q) :
    ∀ (m1 : Nat) (B : Int) (o11 o12 o13 : Option AV), m1 ≤ N → fdI (sNV F N h c (clsV U sp) f last r) D N m1 B → Wp zt 142 (P 142 148) [some (AR a), some (AI F), some (AI sp), some (AI h), some (AI T), some (AI ((r : Int) + 1)), some (AI f), some (AI last), some (AI D), some (AI B), some (AI ((m1 : Int) - 1)), o11, o12, o13] [] (setRow g (ad a 8) Y, ρ) Q := by
  have b0 := hU.1
  have b4 := hU.2.2.2.1
  have hb := fun m r => Rv_b (F := F) (M := N) (h := h) (cl := clsV U sp) hc (F - f) m r
  have z78 : (ad a 7 = ad a 8) ↔ False := iff_false_intro (by unfold ad; omega)
  have hRr : LR (-1) (vwM (setRow g (ad a 8) Y (ad a 1))) U := by
    rw [row_n (by unfold ad; omega)]
    exact hR
  intro m1
  induction m1 with
  | zero =>
    intro B o11 o12 o13 hm hL
    have k1 := kk B (some (AI (((0 : Nat) : Int) - 1))) o11 o12 o13 hL
    have e1 : ((0 : Nat) : Int) - 1 = -1 := by omega
    rw [e1] at k1 ⊢
    rw [P_M_lays_148]
    simp only [m_M_lays, b_M_lays_0, P_M_lays_20, b_M_lays_20, P_M_lays_56, b_M_lays_56, P_M_lays_62, b_M_lays_62, P_M_lays_75, b_M_lays_75, P_M_lays_77, b_M_lays_77, P_M_lays_85, b_M_lays_85, P_M_lays_95, b_M_lays_95, P_M_lays_101, b_M_lays_101, P_M_lays_164, b_M_lays_164, P_M_lays_165, b_M_lays_165, P_M_lays_190, b_M_lays_190, P_M_lays_194, b_M_lays_194, P_M_lays_195, b_M_lays_195, P_M_lays_215, b_M_lays_215, P_M_lays_224, b_M_lays_224, P_M_lays_225, b_M_lays_225, P_M_lays_256, b_M_lays_256, P_M_lays_258, b_M_lays_258, P_M_lays_277, b_M_lays_277, P_M_lays_290, b_M_lays_290, P_M_lays_291, b_M_lays_291, P_M_lays_308, b_M_lays_308, wp_abs, wp_aln0, wp_bipush, wp_copy, wp_cs1, wp_cs2, wp_cs3, wp_cs4, wp_cs5, wp_cs6, wp_cs7, wp_cv1, wp_cv2, wp_cv3, wp_cv4, wp_cv5, wp_cv6, wp_cv7, wp_goto, wp_iadd, wp_iald, wp_iast, wp_iceq, wp_icge, wp_icgt, wp_icne, wp_iconst, wp_il10, wp_il11, wp_il12, wp_il13, wp_il4, wp_il5, wp_il6, wp_il7, wp_il8, wp_il9, wp_iln1, wp_iln2, wp_iln3, wp_inc10, wp_inc5, wp_inc6, wp_iret, wp_is10, wp_is11, wp_is12, wp_is13, wp_is4, wp_is5, wp_is6, wp_is7, wp_is8, wp_is9, wp_isn3, wp_isub, wp_izeq, wp_izlt, wp_izne, wp_ldc, wp_max, wp_min, wp_nop, wp_zret, qmd_kd, qmd_k1, qmd_l1, qmd_gf0, qmd_k2, qmd_l2, qmd_gf1, qmd_k3, qmd_l3, qmd_gf2, qmd_k4, qmd_l4, qmd_gf4, qmd_k5, qmd_l5, qmd_gf6, qmd_k6, qmd_l6, qmd_gf7, qmd_k7, qmd_l7, qmd_gf10, qmd_k8, qmd_l8, qmd_gf11, qmd_k9, qmd_l9, qmd_gf12, qmd_gf3, qmd_pf3, qmd_gf5, qmd_pf5, qmd_gf8, qmd_pf8, qmd_gf9, qmd_pf9, wrI_row, cpI_row, row_s, row_n, row_ss, row_sw, upd_s, upd_n, ad_inj, ad_z, ad_z2, Nat.reduceEqDiff, reduceCtorEq, List.cons_append, List.nil_append, Option.toList_some, Option.toList_none, Int.toNat_natCast, List.length_cons, List.length_nil, Int.cast_ofNat_Int, Nat.reduceAdd, Nat.reduceLeDiff, Nat.reduceLT, Nat.reduceMul, Int.reduceAdd, Int.reduceSub, Int.reduceMul, Int.reduceNeg, Int.reduceLT, Int.reduceLE, Int.reduceEq, Int.reduceToNat, eq_self, true_and, and_true, true_or, or_true, false_or, or_false, if_true, if_false, not_true_eq_false, not_false_eq_true, and_self, ne_eq, b_M_lays_148, hM]
    (repeat' (first | apply And.intro | split)) <;> first | omega | exact k1
  | succ m ih =>
    intro B o11 o12 o13 hm hL
    have e1 : ((m + 1 : Nat) : Int) - 1 = (m : Int) := by omega
    have en : (m : Int) + -1 = (m : Int) - 1 := by omega
    have hmN : m < N := by omega
    have inew := fun (hs : sNV F N h c (clsV U sp) f last r m = D) o11 o12 o13 => ih (m : Int) o11 o12 o13 (by omega) (fdI_new (B := B) hmN hs)
    have iold := fun (hs : sNV F N h c (clsV U sp) f last r m ≠ D) o11 o12 o13 => ih B o11 o12 o13 (by omega) (fdI_old hL hs)
    by_cases c1 : m = last
    · have es : sNV F N h c (clsV U sp) f last r m = Rv F N h c (clsV U sp) (F - f) m (min (r + 1) (h - 1)) := if_pos c1
      rw [es] at inew iold
      have c1' : (m : Int) = (last : Int) := by omega
      have rd := hI f m (min (r + 1) (h - 1)) (Nat.zero_le _) hf hmN (by omega)
      have hbv := hb m (min (r + 1) (h - 1))
      obtain ⟨nx, hnx⟩ : ∃ nx : Int, nx = ((min (r + 1) (h - 1) : Nat) : Int) + 1 := ⟨_, rfl⟩
      have ce := fun Q => cellOf_ok (zt := zt) (g := setRow g (ad a 8) Y) (ρ := ρ) (f := (f : Int)) (m := (m : Int)) (h := nx) Q
      have ei : (24 * (f : Int) + 3 * (m : Int) + nx - 1).toNat = (f * 8 + m) * 3 + min (r + 1) (h - 1) := by omega
      generalize Rv F N h c (clsV U sp) (F - f) m (min (r + 1) (h - 1)) = vv at *
      have k225 : Wp zt 142 (P 142 225) [some (AR a), some (AI F), some (AI sp), some (AI h), some (AI T), some (AI ((r : Int) + 1)), some (AI f), some (AI last), some (AI D), some (AI B), some (AI m), some (AI 1), some (AI 1), o13] [.inl nx] (setRow g (ad a 8) Y, ρ) Q := by
        by_cases c2 : vv = D
        · have i1 := inew c2 (some (AI 1)) (some (AI 1)) (some (AI nx))
          rw [P_M_lays_225]
          simp only [m_M_lays, b_M_lays_0, P_M_lays_20, b_M_lays_20, P_M_lays_56, b_M_lays_56, P_M_lays_62, b_M_lays_62, P_M_lays_75, b_M_lays_75, P_M_lays_77, b_M_lays_77, P_M_lays_85, b_M_lays_85, P_M_lays_95, b_M_lays_95, P_M_lays_101, b_M_lays_101, P_M_lays_164, b_M_lays_164, P_M_lays_165, b_M_lays_165, P_M_lays_190, b_M_lays_190, P_M_lays_194, b_M_lays_194, P_M_lays_195, b_M_lays_195, P_M_lays_215, b_M_lays_215, P_M_lays_224, b_M_lays_224, P_M_lays_225, b_M_lays_225, P_M_lays_256, b_M_lays_256, P_M_lays_258, b_M_lays_258, P_M_lays_277, b_M_lays_277, P_M_lays_290, b_M_lays_290, P_M_lays_291, b_M_lays_291, P_M_lays_308, b_M_lays_308, wp_abs, wp_aln0, wp_bipush, wp_copy, wp_cs1, wp_cs2, wp_cs3, wp_cs4, wp_cs5, wp_cs6, wp_cs7, wp_cv1, wp_cv2, wp_cv3, wp_cv4, wp_cv5, wp_cv6, wp_cv7, wp_goto, wp_iadd, wp_iald, wp_iast, wp_iceq, wp_icge, wp_icgt, wp_icne, wp_iconst, wp_il10, wp_il11, wp_il12, wp_il13, wp_il4, wp_il5, wp_il6, wp_il7, wp_il8, wp_il9, wp_iln1, wp_iln2, wp_iln3, wp_inc10, wp_inc5, wp_inc6, wp_iret, wp_is10, wp_is11, wp_is12, wp_is13, wp_is4, wp_is5, wp_is6, wp_is7, wp_is8, wp_is9, wp_isn3, wp_isub, wp_izeq, wp_izlt, wp_izne, wp_ldc, wp_max, wp_min, wp_nop, wp_zret, qmd_kd, qmd_k1, qmd_l1, qmd_gf0, qmd_k2, qmd_l2, qmd_gf1, qmd_k3, qmd_l3, qmd_gf2, qmd_k4, qmd_l4, qmd_gf4, qmd_k5, qmd_l5, qmd_gf6, qmd_k6, qmd_l6, qmd_gf7, qmd_k7, qmd_l7, qmd_gf10, qmd_k8, qmd_l8, qmd_gf11, qmd_k9, qmd_l9, qmd_gf12, qmd_gf3, qmd_pf3, qmd_gf5, qmd_pf5, qmd_gf8, qmd_pf8, qmd_gf9, qmd_pf9, wrI_row, cpI_row, row_s, row_n, row_ss, row_sw, upd_s, upd_n, ad_inj, ad_z, ad_z2, Nat.reduceEqDiff, reduceCtorEq, List.cons_append, List.nil_append, Option.toList_some, Option.toList_none, Int.toNat_natCast, List.length_cons, List.length_nil, Int.cast_ofNat_Int, Nat.reduceAdd, Nat.reduceLeDiff, Nat.reduceLT, Nat.reduceMul, Int.reduceAdd, Int.reduceSub, Int.reduceMul, Int.reduceNeg, Int.reduceLT, Int.reduceLE, Int.reduceEq, Int.reduceToNat, eq_self, true_and, and_true, true_or, or_true, false_or, or_false, if_true, if_false, not_true_eq_false, not_false_eq_true, and_self, ne_eq, b_M_lays_225, hM, ce, ei, z78, rd, c2, en]
          (repeat' (first | apply And.intro | split)) <;> first | omega | exact i1
        · have i1 := iold c2 (some (AI 1)) (some (AI 1)) (some (AI nx))
          rw [P_M_lays_225]
          simp only [m_M_lays, b_M_lays_0, P_M_lays_20, b_M_lays_20, P_M_lays_56, b_M_lays_56, P_M_lays_62, b_M_lays_62, P_M_lays_75, b_M_lays_75, P_M_lays_77, b_M_lays_77, P_M_lays_85, b_M_lays_85, P_M_lays_95, b_M_lays_95, P_M_lays_101, b_M_lays_101, P_M_lays_164, b_M_lays_164, P_M_lays_165, b_M_lays_165, P_M_lays_190, b_M_lays_190, P_M_lays_194, b_M_lays_194, P_M_lays_195, b_M_lays_195, P_M_lays_215, b_M_lays_215, P_M_lays_224, b_M_lays_224, P_M_lays_225, b_M_lays_225, P_M_lays_256, b_M_lays_256, P_M_lays_258, b_M_lays_258, P_M_lays_277, b_M_lays_277, P_M_lays_290, b_M_lays_290, P_M_lays_291, b_M_lays_291, P_M_lays_308, b_M_lays_308, wp_abs, wp_aln0, wp_bipush, wp_copy, wp_cs1, wp_cs2, wp_cs3, wp_cs4, wp_cs5, wp_cs6, wp_cs7, wp_cv1, wp_cv2, wp_cv3, wp_cv4, wp_cv5, wp_cv6, wp_cv7, wp_goto, wp_iadd, wp_iald, wp_iast, wp_iceq, wp_icge, wp_icgt, wp_icne, wp_iconst, wp_il10, wp_il11, wp_il12, wp_il13, wp_il4, wp_il5, wp_il6, wp_il7, wp_il8, wp_il9, wp_iln1, wp_iln2, wp_iln3, wp_inc10, wp_inc5, wp_inc6, wp_iret, wp_is10, wp_is11, wp_is12, wp_is13, wp_is4, wp_is5, wp_is6, wp_is7, wp_is8, wp_is9, wp_isn3, wp_isub, wp_izeq, wp_izlt, wp_izne, wp_ldc, wp_max, wp_min, wp_nop, wp_zret, qmd_kd, qmd_k1, qmd_l1, qmd_gf0, qmd_k2, qmd_l2, qmd_gf1, qmd_k3, qmd_l3, qmd_gf2, qmd_k4, qmd_l4, qmd_gf4, qmd_k5, qmd_l5, qmd_gf6, qmd_k6, qmd_l6, qmd_gf7, qmd_k7, qmd_l7, qmd_gf10, qmd_k8, qmd_l8, qmd_gf11, qmd_k9, qmd_l9, qmd_gf12, qmd_gf3, qmd_pf3, qmd_gf5, qmd_pf5, qmd_gf8, qmd_pf8, qmd_gf9, qmd_pf9, wrI_row, cpI_row, row_s, row_n, row_ss, row_sw, upd_s, upd_n, ad_inj, ad_z, ad_z2, Nat.reduceEqDiff, reduceCtorEq, List.cons_append, List.nil_append, Option.toList_some, Option.toList_none, Int.toNat_natCast, List.length_cons, List.length_nil, Int.cast_ofNat_Int, Nat.reduceAdd, Nat.reduceLeDiff, Nat.reduceLT, Nat.reduceMul, Int.reduceAdd, Int.reduceSub, Int.reduceMul, Int.reduceNeg, Int.reduceLT, Int.reduceLE, Int.reduceEq, Int.reduceToNat, eq_self, true_and, and_true, true_or, or_true, false_or, or_false, if_true, if_false, not_true_eq_false, not_false_eq_true, and_self, ne_eq, b_M_lays_225, hM, ce, ei, z78, rd, c2, en]
          (repeat' (first | apply And.intro | split)) <;> first | omega | exact i1
      by_cases cr : r + 1 < h
      · have hnx2 : nx = (r : Int) + 1 + 1 := by omega
        rw [hnx2] at k225
        have cr' : ¬ (h : Int) ≤ (r : Int) + 1 := by omega
        rw [← c1'] at k225 ⊢
        rw [P_M_lays_148, e1]
        simp only [m_M_lays, b_M_lays_0, P_M_lays_20, b_M_lays_20, P_M_lays_56, b_M_lays_56, P_M_lays_62, b_M_lays_62, P_M_lays_75, b_M_lays_75, P_M_lays_77, b_M_lays_77, P_M_lays_85, b_M_lays_85, P_M_lays_95, b_M_lays_95, P_M_lays_101, b_M_lays_101, P_M_lays_164, b_M_lays_164, P_M_lays_165, b_M_lays_165, P_M_lays_190, b_M_lays_190, P_M_lays_194, b_M_lays_194, P_M_lays_195, b_M_lays_195, P_M_lays_215, b_M_lays_215, P_M_lays_224, b_M_lays_224, P_M_lays_256, b_M_lays_256, P_M_lays_258, b_M_lays_258, P_M_lays_277, b_M_lays_277, P_M_lays_290, b_M_lays_290, P_M_lays_291, b_M_lays_291, P_M_lays_308, b_M_lays_308, wp_abs, wp_aln0, wp_bipush, wp_copy, wp_cs1, wp_cs2, wp_cs3, wp_cs4, wp_cs5, wp_cs6, wp_cs7, wp_cv1, wp_cv2, wp_cv3, wp_cv4, wp_cv5, wp_cv6, wp_cv7, wp_goto, wp_iadd, wp_iald, wp_iast, wp_iceq, wp_icge, wp_icgt, wp_icne, wp_iconst, wp_il10, wp_il11, wp_il12, wp_il13, wp_il4, wp_il5, wp_il6, wp_il7, wp_il8, wp_il9, wp_iln1, wp_iln2, wp_iln3, wp_inc10, wp_inc5, wp_inc6, wp_iret, wp_is10, wp_is11, wp_is12, wp_is13, wp_is4, wp_is5, wp_is6, wp_is7, wp_is8, wp_is9, wp_isn3, wp_isub, wp_izeq, wp_izlt, wp_izne, wp_ldc, wp_max, wp_min, wp_nop, wp_zret, qmd_kd, qmd_k1, qmd_l1, qmd_gf0, qmd_k2, qmd_l2, qmd_gf1, qmd_k3, qmd_l3, qmd_gf2, qmd_k4, qmd_l4, qmd_gf4, qmd_k5, qmd_l5, qmd_gf6, qmd_k6, qmd_l6, qmd_gf7, qmd_k7, qmd_l7, qmd_gf10, qmd_k8, qmd_l8, qmd_gf11, qmd_k9, qmd_l9, qmd_gf12, qmd_gf3, qmd_pf3, qmd_gf5, qmd_pf5, qmd_gf8, qmd_pf8, qmd_gf9, qmd_pf9, wrI_row, cpI_row, row_s, row_n, row_ss, row_sw, upd_s, upd_n, ad_inj, ad_z, ad_z2, Nat.reduceEqDiff, reduceCtorEq, List.cons_append, List.nil_append, Option.toList_some, Option.toList_none, Int.toNat_natCast, List.length_cons, List.length_nil, Int.cast_ofNat_Int, Nat.reduceAdd, Nat.reduceLeDiff, Nat.reduceLT, Nat.reduceMul, Int.reduceAdd, Int.reduceSub, Int.reduceMul, Int.reduceNeg, Int.reduceLT, Int.reduceLE, Int.reduceEq, Int.reduceToNat, eq_self, true_and, and_true, true_or, or_true, false_or, or_false, if_true, if_false, not_true_eq_false, not_false_eq_true, and_self, ne_eq, b_M_lays_148, hM, cr']
        (repeat' (first | apply And.intro | split)) <;> first | omega | exact k225
      · have hnx2 : nx = (h : Int) := by omega
        rw [hnx2] at k225
        have cr' : (h : Int) ≤ (r : Int) + 1 := by omega
        rw [← c1'] at k225 ⊢
        rw [P_M_lays_148, e1]
        simp only [m_M_lays, b_M_lays_0, P_M_lays_20, b_M_lays_20, P_M_lays_56, b_M_lays_56, P_M_lays_62, b_M_lays_62, P_M_lays_75, b_M_lays_75, P_M_lays_77, b_M_lays_77, P_M_lays_85, b_M_lays_85, P_M_lays_95, b_M_lays_95, P_M_lays_101, b_M_lays_101, P_M_lays_164, b_M_lays_164, P_M_lays_165, b_M_lays_165, P_M_lays_190, b_M_lays_190, P_M_lays_194, b_M_lays_194, P_M_lays_195, b_M_lays_195, P_M_lays_215, b_M_lays_215, P_M_lays_224, b_M_lays_224, P_M_lays_256, b_M_lays_256, P_M_lays_258, b_M_lays_258, P_M_lays_277, b_M_lays_277, P_M_lays_290, b_M_lays_290, P_M_lays_291, b_M_lays_291, P_M_lays_308, b_M_lays_308, wp_abs, wp_aln0, wp_bipush, wp_copy, wp_cs1, wp_cs2, wp_cs3, wp_cs4, wp_cs5, wp_cs6, wp_cs7, wp_cv1, wp_cv2, wp_cv3, wp_cv4, wp_cv5, wp_cv6, wp_cv7, wp_goto, wp_iadd, wp_iald, wp_iast, wp_iceq, wp_icge, wp_icgt, wp_icne, wp_iconst, wp_il10, wp_il11, wp_il12, wp_il13, wp_il4, wp_il5, wp_il6, wp_il7, wp_il8, wp_il9, wp_iln1, wp_iln2, wp_iln3, wp_inc10, wp_inc5, wp_inc6, wp_iret, wp_is10, wp_is11, wp_is12, wp_is13, wp_is4, wp_is5, wp_is6, wp_is7, wp_is8, wp_is9, wp_isn3, wp_isub, wp_izeq, wp_izlt, wp_izne, wp_ldc, wp_max, wp_min, wp_nop, wp_zret, qmd_kd, qmd_k1, qmd_l1, qmd_gf0, qmd_k2, qmd_l2, qmd_gf1, qmd_k3, qmd_l3, qmd_gf2, qmd_k4, qmd_l4, qmd_gf4, qmd_k5, qmd_l5, qmd_gf6, qmd_k6, qmd_l6, qmd_gf7, qmd_k7, qmd_l7, qmd_gf10, qmd_k8, qmd_l8, qmd_gf11, qmd_k9, qmd_l9, qmd_gf12, qmd_gf3, qmd_pf3, qmd_gf5, qmd_pf5, qmd_gf8, qmd_pf8, qmd_gf9, qmd_pf9, wrI_row, cpI_row, row_s, row_n, row_ss, row_sw, upd_s, upd_n, ad_inj, ad_z, ad_z2, Nat.reduceEqDiff, reduceCtorEq, List.cons_append, List.nil_append, Option.toList_some, Option.toList_none, Int.toNat_natCast, List.length_cons, List.length_nil, Int.cast_ofNat_Int, Nat.reduceAdd, Nat.reduceLeDiff, Nat.reduceLT, Nat.reduceMul, Int.reduceAdd, Int.reduceSub, Int.reduceMul, Int.reduceNeg, Int.reduceLT, Int.reduceLE, Int.reduceEq, Int.reduceToNat, eq_self, true_and, and_true, true_or, or_true, false_or, or_false, if_true, if_false, not_true_eq_false, not_false_eq_true, and_self, ne_eq, b_M_lays_148, hM, cr']
        (repeat' (first | apply And.intro | split)) <;> first | omega | exact k225
    · have c1' : ¬ (m : Int) = (last : Int) := by omega
      by_cases cr : r = h - 1
      · have cr' : (r : Int) + 1 = (h : Int) := by omega
        have fb := farBetween_ok (zt := zt) (g := setRow g (ad a 8) Y) (ρ := ρ) hM hRr hU (x := (last : Int)) (y := (m : Int)) (by omega) (by omega) (by omega) (by omega)
        rw [Int.toNat_natCast, Int.toNat_natCast] at fb
        have jb := jmpV_b hU (x := last) (y := m) (by omega) (by omega)
        by_cases c2 : jmpV U last m ≤ sp
        · have es : sNV F N h c (clsV U sp) f last r m = Rv F N h c (clsV U sp) (F - f) m 0 := by
            unfold sNV
            rw [if_neg c1, if_pos ⟨cr, (clsV_i (by omega) (by omega)).2 c2⟩]
          rw [es] at inew iold
          have rd := hI f m 0 (Nat.zero_le _) hf hmN (by omega)
          have hbv := hb m 0
          have ce := fun Q => cellOf_ok (zt := zt) (g := setRow g (ad a 8) Y) (ρ := ρ) (f := (f : Int)) (m := (m : Int)) (h := 1) Q
          have ei : (24 * (f : Int) + 3 * (m : Int) + 1 - 1).toNat = (f * 8 + m) * 3 + 0 := by omega
          generalize Rv F N h c (clsV U sp) (F - f) m 0 = vv at *
          by_cases c3 : vv = D
          · have i1 := inew c3 (some (AI 0)) (some (AI 1)) (some (AI 1))
            rw [P_M_lays_148, e1, cr'] 
            rw [cr'] at i1
            simp only [m_M_lays, b_M_lays_0, P_M_lays_20, b_M_lays_20, P_M_lays_56, b_M_lays_56, P_M_lays_62, b_M_lays_62, P_M_lays_75, b_M_lays_75, P_M_lays_77, b_M_lays_77, P_M_lays_85, b_M_lays_85, P_M_lays_95, b_M_lays_95, P_M_lays_101, b_M_lays_101, P_M_lays_164, b_M_lays_164, P_M_lays_165, b_M_lays_165, P_M_lays_190, b_M_lays_190, P_M_lays_194, b_M_lays_194, P_M_lays_195, b_M_lays_195, P_M_lays_215, b_M_lays_215, P_M_lays_224, b_M_lays_224, P_M_lays_225, b_M_lays_225, P_M_lays_256, b_M_lays_256, P_M_lays_258, b_M_lays_258, P_M_lays_277, b_M_lays_277, P_M_lays_290, b_M_lays_290, P_M_lays_291, b_M_lays_291, P_M_lays_308, b_M_lays_308, wp_abs, wp_aln0, wp_bipush, wp_copy, wp_cs1, wp_cs2, wp_cs3, wp_cs4, wp_cs5, wp_cs6, wp_cs7, wp_cv1, wp_cv2, wp_cv3, wp_cv4, wp_cv5, wp_cv6, wp_cv7, wp_goto, wp_iadd, wp_iald, wp_iast, wp_iceq, wp_icge, wp_icgt, wp_icne, wp_iconst, wp_il10, wp_il11, wp_il12, wp_il13, wp_il4, wp_il5, wp_il6, wp_il7, wp_il8, wp_il9, wp_iln1, wp_iln2, wp_iln3, wp_inc10, wp_inc5, wp_inc6, wp_iret, wp_is10, wp_is11, wp_is12, wp_is13, wp_is4, wp_is5, wp_is6, wp_is7, wp_is8, wp_is9, wp_isn3, wp_isub, wp_izeq, wp_izlt, wp_izne, wp_ldc, wp_max, wp_min, wp_nop, wp_zret, qmd_kd, qmd_k1, qmd_l1, qmd_gf0, qmd_k2, qmd_l2, qmd_gf1, qmd_k3, qmd_l3, qmd_gf2, qmd_k4, qmd_l4, qmd_gf4, qmd_k5, qmd_l5, qmd_gf6, qmd_k6, qmd_l6, qmd_gf7, qmd_k7, qmd_l7, qmd_gf10, qmd_k8, qmd_l8, qmd_gf11, qmd_k9, qmd_l9, qmd_gf12, qmd_gf3, qmd_pf3, qmd_gf5, qmd_pf5, qmd_gf8, qmd_pf8, qmd_gf9, qmd_pf9, wrI_row, cpI_row, row_s, row_n, row_ss, row_sw, upd_s, upd_n, ad_inj, ad_z, ad_z2, Nat.reduceEqDiff, reduceCtorEq, List.cons_append, List.nil_append, Option.toList_some, Option.toList_none, Int.toNat_natCast, List.length_cons, List.length_nil, Int.cast_ofNat_Int, Nat.reduceAdd, Nat.reduceLeDiff, Nat.reduceLT, Nat.reduceMul, Int.reduceAdd, Int.reduceSub, Int.reduceMul, Int.reduceNeg, Int.reduceLT, Int.reduceLE, Int.reduceEq, Int.reduceToNat, eq_self, true_and, and_true, true_or, or_true, false_or, or_false, if_true, if_false, not_true_eq_false, not_false_eq_true, and_self, ne_eq, b_M_lays_148, hM, c1', fb, ce, ei, z78, rd, c3, en]
            (repeat' (first | apply And.intro | split)) <;> first | omega | exact i1
          · have i1 := iold c3 (some (AI 0)) (some (AI 1)) (some (AI 1))
            rw [P_M_lays_148, e1, cr'] 
            rw [cr'] at i1
            simp only [m_M_lays, b_M_lays_0, P_M_lays_20, b_M_lays_20, P_M_lays_56, b_M_lays_56, P_M_lays_62, b_M_lays_62, P_M_lays_75, b_M_lays_75, P_M_lays_77, b_M_lays_77, P_M_lays_85, b_M_lays_85, P_M_lays_95, b_M_lays_95, P_M_lays_101, b_M_lays_101, P_M_lays_164, b_M_lays_164, P_M_lays_165, b_M_lays_165, P_M_lays_190, b_M_lays_190, P_M_lays_194, b_M_lays_194, P_M_lays_195, b_M_lays_195, P_M_lays_215, b_M_lays_215, P_M_lays_224, b_M_lays_224, P_M_lays_225, b_M_lays_225, P_M_lays_256, b_M_lays_256, P_M_lays_258, b_M_lays_258, P_M_lays_277, b_M_lays_277, P_M_lays_290, b_M_lays_290, P_M_lays_291, b_M_lays_291, P_M_lays_308, b_M_lays_308, wp_abs, wp_aln0, wp_bipush, wp_copy, wp_cs1, wp_cs2, wp_cs3, wp_cs4, wp_cs5, wp_cs6, wp_cs7, wp_cv1, wp_cv2, wp_cv3, wp_cv4, wp_cv5, wp_cv6, wp_cv7, wp_goto, wp_iadd, wp_iald, wp_iast, wp_iceq, wp_icge, wp_icgt, wp_icne, wp_iconst, wp_il10, wp_il11, wp_il12, wp_il13, wp_il4, wp_il5, wp_il6, wp_il7, wp_il8, wp_il9, wp_iln1, wp_iln2, wp_iln3, wp_inc10, wp_inc5, wp_inc6, wp_iret, wp_is10, wp_is11, wp_is12, wp_is13, wp_is4, wp_is5, wp_is6, wp_is7, wp_is8, wp_is9, wp_isn3, wp_isub, wp_izeq, wp_izlt, wp_izne, wp_ldc, wp_max, wp_min, wp_nop, wp_zret, qmd_kd, qmd_k1, qmd_l1, qmd_gf0, qmd_k2, qmd_l2, qmd_gf1, qmd_k3, qmd_l3, qmd_gf2, qmd_k4, qmd_l4, qmd_gf4, qmd_k5, qmd_l5, qmd_gf6, qmd_k6, qmd_l6, qmd_gf7, qmd_k7, qmd_l7, qmd_gf10, qmd_k8, qmd_l8, qmd_gf11, qmd_k9, qmd_l9, qmd_gf12, qmd_gf3, qmd_pf3, qmd_gf5, qmd_pf5, qmd_gf8, qmd_pf8, qmd_gf9, qmd_pf9, wrI_row, cpI_row, row_s, row_n, row_ss, row_sw, upd_s, upd_n, ad_inj, ad_z, ad_z2, Nat.reduceEqDiff, reduceCtorEq, List.cons_append, List.nil_append, Option.toList_some, Option.toList_none, Int.toNat_natCast, List.length_cons, List.length_nil, Int.cast_ofNat_Int, Nat.reduceAdd, Nat.reduceLeDiff, Nat.reduceLT, Nat.reduceMul, Int.reduceAdd, Int.reduceSub, Int.reduceMul, Int.reduceNeg, Int.reduceLT, Int.reduceLE, Int.reduceEq, Int.reduceToNat, eq_self, true_and, and_true, true_or, or_true, false_or, or_false, if_true, if_false, not_true_eq_false, not_false_eq_true, and_self, ne_eq, b_M_lays_148, hM, c1', fb, ce, ei, z78, rd, c3, en]
            (repeat' (first | apply And.intro | split)) <;> first | omega | exact i1
        · have es : sNV F N h c (clsV U sp) f last r m = 1000000 := by
            unfold sNV
            rw [if_neg c1, if_neg (fun z => c2 ((clsV_i (by omega) (by omega)).1 z.2))]
          have i1 := iold (by rw [es]; omega) (some (AI 0)) (some (AI 0)) (some (AI 1))
          rw [P_M_lays_148, e1, cr'] 
          rw [cr'] at i1
          simp only [m_M_lays, b_M_lays_0, P_M_lays_20, b_M_lays_20, P_M_lays_56, b_M_lays_56, P_M_lays_62, b_M_lays_62, P_M_lays_75, b_M_lays_75, P_M_lays_77, b_M_lays_77, P_M_lays_85, b_M_lays_85, P_M_lays_95, b_M_lays_95, P_M_lays_101, b_M_lays_101, P_M_lays_164, b_M_lays_164, P_M_lays_165, b_M_lays_165, P_M_lays_190, b_M_lays_190, P_M_lays_194, b_M_lays_194, P_M_lays_195, b_M_lays_195, P_M_lays_215, b_M_lays_215, P_M_lays_224, b_M_lays_224, P_M_lays_225, b_M_lays_225, P_M_lays_256, b_M_lays_256, P_M_lays_258, b_M_lays_258, P_M_lays_277, b_M_lays_277, P_M_lays_290, b_M_lays_290, P_M_lays_291, b_M_lays_291, P_M_lays_308, b_M_lays_308, wp_abs, wp_aln0, wp_bipush, wp_copy, wp_cs1, wp_cs2, wp_cs3, wp_cs4, wp_cs5, wp_cs6, wp_cs7, wp_cv1, wp_cv2, wp_cv3, wp_cv4, wp_cv5, wp_cv6, wp_cv7, wp_goto, wp_iadd, wp_iald, wp_iast, wp_iceq, wp_icge, wp_icgt, wp_icne, wp_iconst, wp_il10, wp_il11, wp_il12, wp_il13, wp_il4, wp_il5, wp_il6, wp_il7, wp_il8, wp_il9, wp_iln1, wp_iln2, wp_iln3, wp_inc10, wp_inc5, wp_inc6, wp_iret, wp_is10, wp_is11, wp_is12, wp_is13, wp_is4, wp_is5, wp_is6, wp_is7, wp_is8, wp_is9, wp_isn3, wp_isub, wp_izeq, wp_izlt, wp_izne, wp_ldc, wp_max, wp_min, wp_nop, wp_zret, qmd_kd, qmd_k1, qmd_l1, qmd_gf0, qmd_k2, qmd_l2, qmd_gf1, qmd_k3, qmd_l3, qmd_gf2, qmd_k4, qmd_l4, qmd_gf4, qmd_k5, qmd_l5, qmd_gf6, qmd_k6, qmd_l6, qmd_gf7, qmd_k7, qmd_l7, qmd_gf10, qmd_k8, qmd_l8, qmd_gf11, qmd_k9, qmd_l9, qmd_gf12, qmd_gf3, qmd_pf3, qmd_gf5, qmd_pf5, qmd_gf8, qmd_pf8, qmd_gf9, qmd_pf9, wrI_row, cpI_row, row_s, row_n, row_ss, row_sw, upd_s, upd_n, ad_inj, ad_z, ad_z2, Nat.reduceEqDiff, reduceCtorEq, List.cons_append, List.nil_append, Option.toList_some, Option.toList_none, Int.toNat_natCast, List.length_cons, List.length_nil, Int.cast_ofNat_Int, Nat.reduceAdd, Nat.reduceLeDiff, Nat.reduceLT, Nat.reduceMul, Int.reduceAdd, Int.reduceSub, Int.reduceMul, Int.reduceNeg, Int.reduceLT, Int.reduceLE, Int.reduceEq, Int.reduceToNat, eq_self, true_and, and_true, true_or, or_true, false_or, or_false, if_true, if_false, not_true_eq_false, not_false_eq_true, and_self, ne_eq, b_M_lays_148, hM, c1', fb, en]
          (repeat' (first | apply And.intro | split)) <;> first | omega | exact i1
      · have cr' : ¬ (r : Int) + 1 = (h : Int) := by omega
        have es : sNV F N h c (clsV U sp) f last r m = 1000000 := by
          unfold sNV
          rw [if_neg c1, if_neg (fun z => cr z.1)]
        have i1 := iold (by rw [es]; omega) (some (AI 0)) (some (AI 0)) (some (AI 1))
        rw [P_M_lays_148, e1]
        simp only [m_M_lays, b_M_lays_0, P_M_lays_20, b_M_lays_20, P_M_lays_56, b_M_lays_56, P_M_lays_62, b_M_lays_62, P_M_lays_75, b_M_lays_75, P_M_lays_77, b_M_lays_77, P_M_lays_85, b_M_lays_85, P_M_lays_95, b_M_lays_95, P_M_lays_101, b_M_lays_101, P_M_lays_164, b_M_lays_164, P_M_lays_165, b_M_lays_165, P_M_lays_190, b_M_lays_190, P_M_lays_194, b_M_lays_194, P_M_lays_195, b_M_lays_195, P_M_lays_215, b_M_lays_215, P_M_lays_224, b_M_lays_224, P_M_lays_225, b_M_lays_225, P_M_lays_256, b_M_lays_256, P_M_lays_258, b_M_lays_258, P_M_lays_277, b_M_lays_277, P_M_lays_290, b_M_lays_290, P_M_lays_291, b_M_lays_291, P_M_lays_308, b_M_lays_308, wp_abs, wp_aln0, wp_bipush, wp_copy, wp_cs1, wp_cs2, wp_cs3, wp_cs4, wp_cs5, wp_cs6, wp_cs7, wp_cv1, wp_cv2, wp_cv3, wp_cv4, wp_cv5, wp_cv6, wp_cv7, wp_goto, wp_iadd, wp_iald, wp_iast, wp_iceq, wp_icge, wp_icgt, wp_icne, wp_iconst, wp_il10, wp_il11, wp_il12, wp_il13, wp_il4, wp_il5, wp_il6, wp_il7, wp_il8, wp_il9, wp_iln1, wp_iln2, wp_iln3, wp_inc10, wp_inc5, wp_inc6, wp_iret, wp_is10, wp_is11, wp_is12, wp_is13, wp_is4, wp_is5, wp_is6, wp_is7, wp_is8, wp_is9, wp_isn3, wp_isub, wp_izeq, wp_izlt, wp_izne, wp_ldc, wp_max, wp_min, wp_nop, wp_zret, qmd_kd, qmd_k1, qmd_l1, qmd_gf0, qmd_k2, qmd_l2, qmd_gf1, qmd_k3, qmd_l3, qmd_gf2, qmd_k4, qmd_l4, qmd_gf4, qmd_k5, qmd_l5, qmd_gf6, qmd_k6, qmd_l6, qmd_gf7, qmd_k7, qmd_l7, qmd_gf10, qmd_k8, qmd_l8, qmd_gf11, qmd_k9, qmd_l9, qmd_gf12, qmd_gf3, qmd_pf3, qmd_gf5, qmd_pf5, qmd_gf8, qmd_pf8, qmd_gf9, qmd_pf9, wrI_row, cpI_row, row_s, row_n, row_ss, row_sw, upd_s, upd_n, ad_inj, ad_z, ad_z2, Nat.reduceEqDiff, reduceCtorEq, List.cons_append, List.nil_append, Option.toList_some, Option.toList_none, Int.toNat_natCast, List.length_cons, List.length_nil, Int.cast_ofNat_Int, Nat.reduceAdd, Nat.reduceLeDiff, Nat.reduceLT, Nat.reduceMul, Int.reduceAdd, Int.reduceSub, Int.reduceMul, Int.reduceNeg, Int.reduceLT, Int.reduceLE, Int.reduceEq, Int.reduceToNat, eq_self, true_and, and_true, true_or, or_true, false_or, or_false, if_true, if_false, not_true_eq_false, not_false_eq_true, and_self, ne_eq, b_M_lays_148, hM, c1', cr', en]
        (repeat' (first | apply And.intro | split)) <;> first | omega | exact i1
end MLZ
