/-! THE REFERENCE'S PLANS: behind, findPlan -/
section MPP
variable {F N h : Nat} {c : Nat → Nat → Int} {cl : Nat → Nat → Bool}
/-- what follows costs at least, with d frames behind -/
def bhV (F N h : Nat) (c : Nat → Nat → Int) (cl : Nat → Nat → Bool) (d m r : Nat) : Int := if d = 0 then 0 else if r = h - 1 then min (Rv F N h c cl d m (min (r + 1) (h - 1))) (minB (fun o => !(o == m) && cl m o) (fun o => Rv F N h c cl d o 0) N) else Rv F N h c cl d m (min (r + 1) (h - 1))
theorem Rv_bh {d m r : Nat} : Rv F N h c cl (d + 1) m r = min 1000000 (c (F - (d + 1)) m + bhV F N h c cl d m r) := rfl
theorem bhV_b (hc : ∀ f m, 0 ≤ c f m) (d m r : Nat) : 0 ≤ bhV F N h c cl d m r ∧ bhV F N h c cl d m r ≤ 1000000 := by
  have h2 := fun m r => Rv_b (F := F) (M := N) (h := h) (cl := cl) hc d m r
  have h3 := minB_b (p := fun o => !(o == m) && cl m o) (v := fun o => Rv F N h c cl d o 0) (fun o => (h2 o 0).1) N
  have h4 := h2 m (min (r + 1) (h - 1))
  unfold bhV
  split
  · omega
  · split <;> omega
theorem minB_le {p : Nat → Bool} {v : Nat → Int} : ∀ (n j : Nat), j < n → p j = true → minB p v n ≤ v j
  | 0, j, h, _ => by omega
  | n + 1, j, h, hp => by
    simp only [minB]
    by_cases e : j = n
    · subst e
      rw [if_pos hp]
      omega
    · have h1 := minB_le (p := p) (v := v) n j (by omega) hp
      split <;> omega
theorem minB_at {p : Nat → Bool} {v : Nat → Int} : ∀ n : Nat, minB p v n = 1000000 ∨ ∃ j, j < n ∧ p j = true ∧ minB p v n = v j
  | 0 => Or.inl rfl
  | n + 1 => by
    have h1 := minB_at (p := p) (v := v) n
    simp only [minB]
    split
    next e =>
      by_cases e2 : minB p v n ≤ v n
      · rw [Int.min_eq_left e2]
        rcases h1 with h1 | ⟨j, j1, j2, j3⟩
        · exact Or.inl h1
        · exact Or.inr ⟨j, by omega, j2, j3⟩
      · rw [Int.min_eq_right (by omega)]
        exact Or.inr ⟨n, by omega, e, rfl⟩
    next e =>
      rcases h1 with h1 | ⟨j, j1, j2, j3⟩
      · exact Or.inl h1
      · exact Or.inr ⟨j, by omega, j2, j3⟩
theorem minB_lt {p : Nat → Bool} {v : Nat → Int} : ∀ n : Nat, minB p v n ≤ 1000000
  | 0 => Int.le_refl _
  | n + 1 => by
    have h1 := minB_lt (p := p) (v := v) n
    simp only [minB]
    split <;> omega
/-- the least of s, told by its places -/
theorem minB_char {s : Nat → Int} {n : Nat} {D : Int} (h1 : ∀ j, j < n → D ≤ s j) (h2 : D ≤ 1000000) (h3 : D = 1000000 ∨ ∃ j, j < n ∧ s j = D) : minB (fun _ => true) s n = D := by
  have a1 := minB_at (p := fun _ => true) (v := s) n
  have a2 := minB_lt (p := fun _ => true) (v := s) n
  have hge : D ≤ minB (fun _ => true) s n := by
    rcases a1 with a1 | ⟨j, j1, j2, j3⟩
    · omega
    · have := h1 j j1
      omega
  rcases h3 with h3 | ⟨j, j1, j2⟩
  · omega
  · have := minB_le (p := fun _ => true) (v := s) n j j1 rfl
    omega
theorem nbV_char {s : Nat → Int} {last B : Nat} {D : Int} (hD : D < 1000000) : ∀ n : Nat, B < n → s B = D → (∀ j, j < n → D ≤ s j) → (∀ j, j < B → D < s j) → nbV s last n = B
  | 0, h, _, _, _ => by omega
  | n + 1, h, h1, h2, h3 => by
    simp only [nbV]
    by_cases e : B = n
    · subst e
      have a1 := minB_at (p := fun _ => true) (v := s) B
      rw [if_pos]
      rcases a1 with a1 | ⟨j, j1, j2, j3⟩
      · omega
      · have := h3 j j1
        omega
    · have a2 := minB_le (p := fun _ => true) (v := s) n B (by omega) rfl
      have a3 := h2 n (by omega)
      rw [if_neg (by omega)]
      exact nbV_char hD n (by omega) h1 (fun j hj => h2 j (by omega)) h3
theorem amin_char {s : Nat → Int} {B : Nat} : ∀ n : Nat, B < n → (∀ j, j < n → s B ≤ s j) → (∀ j, j < B → s B < s j) → amin s n = B
  | 0, h, _, _ => by omega
  | n + 1, h, h2, h3 => by
    by_cases e : B = n
    · subst e
      simp only [amin]
      by_cases e0 : B = 0
      · subst e0
        simp [amin]
      · have a1 := amin_lt (f := s) B (by omega)
        rw [if_pos (h3 _ a1)]
    · have ih := amin_char n (by omega) (fun j hj => h2 j (by omega)) h3
      simp only [amin]
      rw [ih]
      have a3 := h2 n (by omega)
      rw [if_neg (by omega)]
/-- what follows costs is the least of what the next mouths cost -/
theorem bhV_min (hc : ∀ f m, 0 ≤ c f m) {f m r : Nat} (hf : f < F) (hf0 : 0 < f) (hm : m < N) : (∀ j, j < N → bhV F N h c cl (F - f) m r ≤ sNV F N h c cl f m r j) ∧ (bhV F N h c cl (F - f) m r = 1000000 ∨ ∃ j, j < N ∧ sNV F N h c cl f m r j = bhV F N h c cl (F - f) m r) := by
  have hb := fun m r => Rv_b (F := F) (M := N) (h := h) (cl := cl) hc (F - f) m r
  have hd : ¬ F - f = 0 := by omega
  unfold bhV
  rw [if_neg hd]
  by_cases cr : r = h - 1
  · rw [if_pos cr]
    have a1 := minB_at (p := fun o => !(o == m) && cl m o) (v := fun o => Rv F N h c cl (F - f) o 0) N
    have a2 := minB_le (p := fun o => !(o == m) && cl m o) (v := fun o => Rv F N h c cl (F - f) o 0) N
    generalize minB (fun o => !(o == m) && cl m o) (fun o => Rv F N h c cl (F - f) o 0) N = mm at *
    have b1 := hb m (min (r + 1) (h - 1))
    refine ⟨fun j hj => ?_, ?_⟩
    · unfold sNV
      by_cases e : j = m
      · rw [if_pos e, e]
        omega
      · rw [if_neg e]
        by_cases e2 : r = h - 1 ∧ cl m j = true
        · rw [if_pos e2]
          have := a2 j hj (by simp [e, e2.2])
          omega
        · rw [if_neg e2]
          omega
    · by_cases e : Rv F N h c cl (F - f) m (min (r + 1) (h - 1)) ≤ mm
      · rw [Int.min_eq_left e]
        refine Or.inr ⟨m, hm, ?_⟩
        unfold sNV
        rw [if_pos rfl]
      · rw [Int.min_eq_right (by omega)]
        rcases a1 with a1 | ⟨j, j1, j2, j3⟩
        · exact Or.inl a1
        · refine Or.inr ⟨j, j1, ?_⟩
          have j4 : j ≠ m ∧ cl m j = true := by
            have := j2
            simp at this
            exact this
          unfold sNV
          rw [if_neg j4.1, if_pos ⟨cr, j4.2⟩]
          exact j3.symm
  · rw [if_neg cr]
    have b1 := hb m (min (r + 1) (h - 1))
    refine ⟨fun j hj => ?_, Or.inr ⟨m, hm, ?_⟩⟩
    · unfold sNV
      by_cases e : j = m
      · rw [if_pos e, e]
        omega
      · rw [if_neg e, if_neg (fun z => cr z.1)]
        omega
    · unfold sNV
      rw [if_pos rfl]
/-- the cost row in frame f as far as the mouth m and its run r -/
def cI (R : Nat → Int) (F N h : Nat) (c : Nat → Nat → Int) (cl : Nat → Nat → Bool) (f m r : Nat) : Prop := rsI R F N h c cl (f + 1) ∧ (∀ m' r', m' < m → r' < h → R ((f * 8 + m') * 3 + r') = Rv F N h c cl (F - f) m' r') ∧ ∀ r', r' < r → R ((f * 8 + m) * 3 + r') = Rv F N h c cl (F - f) m r'
theorem cI_0 {R : Nat → Int} {f : Nat} (hR : rsI R F N h c cl (f + 1)) : cI R F N h c cl f 0 0 := ⟨hR, fun m' r' h1 => by omega, fun r' h1 => by omega⟩
theorem cI_m {R : Nat → Int} {f m : Nat} (hR : cI R F N h c cl f m h) : cI R F N h c cl f (m + 1) 0 := ⟨hR.1, fun m' r' h1 h2 => by
  by_cases e : m' = m
  · subst e
    exact hR.2.2 r' h2
  · exact hR.2.1 m' r' (by omega) h2, fun r' h1 => by omega⟩
theorem cI_f {R : Nat → Int} {f : Nat} (hR : cI R F N h c cl f N 0) : rsI R F N h c cl f := fun f' m r h1 h2 h3 h4 => by
  by_cases e : f' = f
  · subst e
    exact hR.2.1 m r h3 h4
  · exact hR.1 f' m r (by omega) h2 h3 h4
theorem cI_r {R : Nat → Int} {f m r : Nat} (hN : N ≤ 8) (hh : h ≤ 3) (hm : m < N) (hr : r < h) (hR : cI R F N h c cl f m r) {v : Int} (hv : v = Rv F N h c cl (F - f) m r) : cI (upd1 R ((f * 8 + m) * 3 + r) v) F N h c cl f m (r + 1) := by
  refine ⟨fun f' m' r' h1 h2 h3 h4 => ?_, fun m' r' h1 h2 => ?_, fun r' h1 => ?_⟩
  · rw [upd_n (by omega)]
    exact hR.1 f' m' r' h1 h2 h3 h4
  · rw [upd_n (by omega)]
    exact hR.2.1 m' r' h1 h2
  · by_cases e : r' = r
    · subst e
      rw [upd_s, hv]
    · rw [upd_n (by omega)]
      exact hR.2.2 r' (by omega)
end MPP
section MPW
variable {zt : Nat → Nat} {g : Nat → Nat → Int} {ρ : Ri} {a : Nat} {U : Vw} {F N h : Nat} {c : Nat → Nat → Int} {sp : Int}
theorem behind_loop (hM : isMd ρ a) (hR : LR (-1) (vwM (g (ad a 1))) U) (hU : WFV (-1) U) (hN : (N : Int) = U 0 0) (hh : (h : Int) = U 4 1) (hc : ∀ f m, 0 ≤ c f m) (hF : F ≤ 99) {f m : Nat} (hf : f + 1 < F) (hm : m < N) (hsp : 0 ≤ sp ∧ sp ≤ 9) (hI : rsI (g (ad a 7)) F N h c (clsV U sp) (f + 1)) {A : Int} (hA : 0 ≤ A ∧ A ≤ 1000000) {Q : Option AV → Sto → Prop} (hQ : Q (some (AI (min A (minB (fun o => !(o == m) && clsV U sp m o) (fun o => Rv F N h c (clsV U sp) (F - (f + 1)) o 0) N)))) (g, ρ)) :
    ∀ (d k : Nat) (o9 : Option AV), k + d = N → Wp zt 140 (P 140 48) [some (AR a), some (AI f), some (AI m), some (AI h), some (AI F), some (AI sp), some (AI h), some (AI (min A (minB (fun o => !(o == m) && clsV U sp m o) (fun o => Rv F N h c (clsV U sp) (F - (f + 1)) o 0) k))), some (AI k), o9] [] (g, ρ) Q := by
  have b0 := hU.1
  have e0 := m_0 hR
  rw [← hN] at e0
  have hb := fun o => Rv_b (F := F) (M := N) (h := h) (cl := clsV U sp) hc (F - (f + 1)) o 0
  intro d
  induction d with
  | zero =>
    intro k o9 hk
    have e : k = N := by omega
    subst e
    have mb := minB_b (p := fun o => !(o == m) && clsV U sp m o) (v := fun o => Rv F k h c (clsV U sp) (F - (f + 1)) o 0) (fun o => (hb o).1) k
    rw [P_M_behind_48]
    simp only [m_M_behind, b_M_behind_0, P_M_behind_10, b_M_behind_10, P_M_behind_37, b_M_behind_37, P_M_behind_39, b_M_behind_39, P_M_behind_100, b_M_behind_100, P_M_behind_102, b_M_behind_102, P_M_behind_116, b_M_behind_116, P_M_behind_118, b_M_behind_118, P_M_behind_126, b_M_behind_126, wp_abs, wp_aln0, wp_copy, wp_cs1, wp_cs2, wp_cs3, wp_cs4, wp_cs5, wp_cs6, wp_cs7, wp_cv1, wp_cv2, wp_cv3, wp_cv4, wp_cv5, wp_cv6, wp_cv7, wp_goto, wp_iadd, wp_iald, wp_iceq, wp_icge, wp_icgt, wp_icne, wp_iconst, wp_il4, wp_il5, wp_il6, wp_il7, wp_il8, wp_il9, wp_iln1, wp_iln2, wp_iln3, wp_inc8, wp_iret, wp_is6, wp_is7, wp_is8, wp_is9, wp_isub, wp_ldc, wp_max, wp_min, wp_nop, wp_zret, qmd_kd, qmd_k1, qmd_l1, qmd_gf0, qmd_k2, qmd_l2, qmd_gf1, qmd_k3, qmd_l3, qmd_gf2, qmd_k4, qmd_l4, qmd_gf4, qmd_k5, qmd_l5, qmd_gf6, qmd_k6, qmd_l6, qmd_gf7, qmd_k7, qmd_l7, qmd_gf10, qmd_k8, qmd_l8, qmd_gf11, qmd_k9, qmd_l9, qmd_gf12, qmd_gf3, qmd_pf3, qmd_gf5, qmd_pf5, qmd_gf8, qmd_pf8, qmd_gf9, qmd_pf9, wrI_row, cpI_row, row_s, row_n, row_ss, row_sw, upd_s, upd_n, ad_inj, ad_z, ad_z2, Nat.reduceEqDiff, reduceCtorEq, List.cons_append, List.nil_append, Option.toList_some, Option.toList_none, Int.toNat_natCast, List.length_cons, List.length_nil, Int.cast_ofNat_Int, Nat.reduceAdd, Nat.reduceLeDiff, Nat.reduceLT, Nat.reduceMul, Int.reduceAdd, Int.reduceSub, Int.reduceMul, Int.reduceNeg, Int.reduceLT, Int.reduceLE, Int.reduceEq, Int.reduceToNat, eq_self, true_and, and_true, true_or, or_true, false_or, or_false, if_true, if_false, not_true_eq_false, not_false_eq_true, and_self, ne_eq, b_M_behind_48, hM, e0]
    (repeat' (first | apply And.intro | split)) <;> first | omega | exact hQ
  | succ d ih =>
    intro k o9 hk
    have hkN : k < N := by omega
    have hl : ¬ (N : Int) ≤ (k : Int) := by omega
    have b4 := hU.2.2.2.1
    have mb := minB_b (p := fun o => !(o == m) && clsV U sp m o) (v := fun o => Rv F N h c (clsV U sp) (F - (f + 1)) o 0) (fun o => (hb o).1) k
    have i1 := fun o9 => ih (k + 1) o9 (by omega)
    simp only [minB] at i1
    by_cases c1 : k = m
    · have hp : ¬ (!(k == m) && clsV U sp m k) = true := by simp [c1]
      rw [if_neg hp] at i1
      have i2 := i1 (some (AI 1000000))
      generalize minB (fun o => !(o == m) && clsV U sp m o) (fun o => Rv F N h c (clsV U sp) (F - (f + 1)) o 0) k = mm at *
      have hlt : min A mm ≤ 1000000 := by omega
      have c1' : (k : Int) = (m : Int) := by omega
      rw [P_M_behind_48]
      simp only [m_M_behind, b_M_behind_0, P_M_behind_10, b_M_behind_10, P_M_behind_37, b_M_behind_37, P_M_behind_39, b_M_behind_39, P_M_behind_100, b_M_behind_100, P_M_behind_102, b_M_behind_102, P_M_behind_116, b_M_behind_116, P_M_behind_118, b_M_behind_118, P_M_behind_126, b_M_behind_126, wp_abs, wp_aln0, wp_copy, wp_cs1, wp_cs2, wp_cs3, wp_cs4, wp_cs5, wp_cs6, wp_cs7, wp_cv1, wp_cv2, wp_cv3, wp_cv4, wp_cv5, wp_cv6, wp_cv7, wp_goto, wp_iadd, wp_iald, wp_iceq, wp_icge, wp_icgt, wp_icne, wp_iconst, wp_il4, wp_il5, wp_il6, wp_il7, wp_il8, wp_il9, wp_iln1, wp_iln2, wp_iln3, wp_inc8, wp_iret, wp_is6, wp_is7, wp_is8, wp_is9, wp_isub, wp_ldc, wp_max, wp_min, wp_nop, wp_zret, qmd_kd, qmd_k1, qmd_l1, qmd_gf0, qmd_k2, qmd_l2, qmd_gf1, qmd_k3, qmd_l3, qmd_gf2, qmd_k4, qmd_l4, qmd_gf4, qmd_k5, qmd_l5, qmd_gf6, qmd_k6, qmd_l6, qmd_gf7, qmd_k7, qmd_l7, qmd_gf10, qmd_k8, qmd_l8, qmd_gf11, qmd_k9, qmd_l9, qmd_gf12, qmd_gf3, qmd_pf3, qmd_gf5, qmd_pf5, qmd_gf8, qmd_pf8, qmd_gf9, qmd_pf9, wrI_row, cpI_row, row_s, row_n, row_ss, row_sw, upd_s, upd_n, ad_inj, ad_z, ad_z2, Nat.reduceEqDiff, reduceCtorEq, List.cons_append, List.nil_append, Option.toList_some, Option.toList_none, Int.toNat_natCast, List.length_cons, List.length_nil, Int.cast_ofNat_Int, Nat.reduceAdd, Nat.reduceLeDiff, Nat.reduceLT, Nat.reduceMul, Int.reduceAdd, Int.reduceSub, Int.reduceMul, Int.reduceNeg, Int.reduceLT, Int.reduceLE, Int.reduceEq, Int.reduceToNat, eq_self, true_and, and_true, true_or, or_true, false_or, or_false, if_true, if_false, not_true_eq_false, not_false_eq_true, and_self, ne_eq, b_M_behind_48, hM, e0, hl, c1', hlt]
      rw [show ((k + 1 : Nat) : Int) = (m : Int) + 1 by omega] at i2
      (repeat' (first | apply And.intro | split)) <;> first | omega | exact i2
    · have c1' : ¬ (k : Int) = (m : Int) := by omega
      have fb := farBetween_ok (zt := zt) hM hR hU (x := (m : Int)) (y := (k : Int)) (by omega) (by omega) (by omega) (by omega)
      rw [Int.toNat_natCast, Int.toNat_natCast] at fb
      have jb := jmpV_b hU (x := m) (y := k) (by omega) (by omega)
      by_cases c2 : jmpV U m k ≤ sp
      · have hp : (!(k == m) && clsV U sp m k) = true := by
          rw [(clsV_i (by omega) (by omega)).2 c2]
          simp [c1]
        rw [if_pos hp] at i1
        have rd := hI (f + 1) k 0 (Nat.le_refl _) hf hkN (by omega)
        have ce := fun Q => cellOf_ok (zt := zt) (g := g) (ρ := ρ) (f := (f : Int) + 1) (m := (k : Int)) (h := 1) Q
        have ei : (24 * ((f : Int) + 1) + 3 * (k : Int) + 1 - 1).toNat = ((f + 1) * 8 + k) * 3 + 0 := by omega
        have hk0 := hb k
        have i2 := i1 (some (AI (Rv F N h c (clsV U sp) (F - (f + 1)) k 0)))
        generalize Rv F N h c (clsV U sp) (F - (f + 1)) k 0 = vk at *
        generalize minB (fun o => !(o == m) && clsV U sp m o) (fun o => Rv F N h c (clsV U sp) (F - (f + 1)) o 0) k = mm at *
        by_cases c3 : min A mm ≤ vk
        · rw [show min A (min mm vk) = min A mm by omega] at i2
          rw [P_M_behind_48]
          simp only [m_M_behind, b_M_behind_0, P_M_behind_10, b_M_behind_10, P_M_behind_37, b_M_behind_37, P_M_behind_39, b_M_behind_39, P_M_behind_100, b_M_behind_100, P_M_behind_102, b_M_behind_102, P_M_behind_116, b_M_behind_116, P_M_behind_118, b_M_behind_118, P_M_behind_126, b_M_behind_126, wp_abs, wp_aln0, wp_copy, wp_cs1, wp_cs2, wp_cs3, wp_cs4, wp_cs5, wp_cs6, wp_cs7, wp_cv1, wp_cv2, wp_cv3, wp_cv4, wp_cv5, wp_cv6, wp_cv7, wp_goto, wp_iadd, wp_iald, wp_iceq, wp_icge, wp_icgt, wp_icne, wp_iconst, wp_il4, wp_il5, wp_il6, wp_il7, wp_il8, wp_il9, wp_iln1, wp_iln2, wp_iln3, wp_inc8, wp_iret, wp_is6, wp_is7, wp_is8, wp_is9, wp_isub, wp_ldc, wp_max, wp_min, wp_nop, wp_zret, qmd_kd, qmd_k1, qmd_l1, qmd_gf0, qmd_k2, qmd_l2, qmd_gf1, qmd_k3, qmd_l3, qmd_gf2, qmd_k4, qmd_l4, qmd_gf4, qmd_k5, qmd_l5, qmd_gf6, qmd_k6, qmd_l6, qmd_gf7, qmd_k7, qmd_l7, qmd_gf10, qmd_k8, qmd_l8, qmd_gf11, qmd_k9, qmd_l9, qmd_gf12, qmd_gf3, qmd_pf3, qmd_gf5, qmd_pf5, qmd_gf8, qmd_pf8, qmd_gf9, qmd_pf9, wrI_row, cpI_row, row_s, row_n, row_ss, row_sw, upd_s, upd_n, ad_inj, ad_z, ad_z2, Nat.reduceEqDiff, reduceCtorEq, List.cons_append, List.nil_append, Option.toList_some, Option.toList_none, Int.toNat_natCast, List.length_cons, List.length_nil, Int.cast_ofNat_Int, Nat.reduceAdd, Nat.reduceLeDiff, Nat.reduceLT, Nat.reduceMul, Int.reduceAdd, Int.reduceSub, Int.reduceMul, Int.reduceNeg, Int.reduceLT, Int.reduceLE, Int.reduceEq, Int.reduceToNat, eq_self, true_and, and_true, true_or, or_true, false_or, or_false, if_true, if_false, not_true_eq_false, not_false_eq_true, and_self, ne_eq, b_M_behind_48, hM, e0, hl, c1', fb, ce, ei, rd, c3]
          (repeat' (first | apply And.intro | split)) <;> first | omega | exact i2
        · rw [show min A (min mm vk) = vk by omega] at i2
          rw [P_M_behind_48]
          simp only [m_M_behind, b_M_behind_0, P_M_behind_10, b_M_behind_10, P_M_behind_37, b_M_behind_37, P_M_behind_39, b_M_behind_39, P_M_behind_100, b_M_behind_100, P_M_behind_102, b_M_behind_102, P_M_behind_116, b_M_behind_116, P_M_behind_118, b_M_behind_118, P_M_behind_126, b_M_behind_126, wp_abs, wp_aln0, wp_copy, wp_cs1, wp_cs2, wp_cs3, wp_cs4, wp_cs5, wp_cs6, wp_cs7, wp_cv1, wp_cv2, wp_cv3, wp_cv4, wp_cv5, wp_cv6, wp_cv7, wp_goto, wp_iadd, wp_iald, wp_iceq, wp_icge, wp_icgt, wp_icne, wp_iconst, wp_il4, wp_il5, wp_il6, wp_il7, wp_il8, wp_il9, wp_iln1, wp_iln2, wp_iln3, wp_inc8, wp_iret, wp_is6, wp_is7, wp_is8, wp_is9, wp_isub, wp_ldc, wp_max, wp_min, wp_nop, wp_zret, qmd_kd, qmd_k1, qmd_l1, qmd_gf0, qmd_k2, qmd_l2, qmd_gf1, qmd_k3, qmd_l3, qmd_gf2, qmd_k4, qmd_l4, qmd_gf4, qmd_k5, qmd_l5, qmd_gf6, qmd_k6, qmd_l6, qmd_gf7, qmd_k7, qmd_l7, qmd_gf10, qmd_k8, qmd_l8, qmd_gf11, qmd_k9, qmd_l9, qmd_gf12, qmd_gf3, qmd_pf3, qmd_gf5, qmd_pf5, qmd_gf8, qmd_pf8, qmd_gf9, qmd_pf9, wrI_row, cpI_row, row_s, row_n, row_ss, row_sw, upd_s, upd_n, ad_inj, ad_z, ad_z2, Nat.reduceEqDiff, reduceCtorEq, List.cons_append, List.nil_append, Option.toList_some, Option.toList_none, Int.toNat_natCast, List.length_cons, List.length_nil, Int.cast_ofNat_Int, Nat.reduceAdd, Nat.reduceLeDiff, Nat.reduceLT, Nat.reduceMul, Int.reduceAdd, Int.reduceSub, Int.reduceMul, Int.reduceNeg, Int.reduceLT, Int.reduceLE, Int.reduceEq, Int.reduceToNat, eq_self, true_and, and_true, true_or, or_true, false_or, or_false, if_true, if_false, not_true_eq_false, not_false_eq_true, and_self, ne_eq, b_M_behind_48, hM, e0, hl, c1', fb, ce, ei, rd, c3]
          (repeat' (first | apply And.intro | split)) <;> first | omega | exact i2
      · have hp : ¬ (!(k == m) && clsV U sp m k) = true := by
          intro z
          have z2 : clsV U sp m k = true := by
            have := z
            simp at this
            exact this.2
          exact c2 ((clsV_i (by omega) (by omega)).1 z2)
        rw [if_neg hp] at i1
        have i2 := i1 (some (AI 1000000))
        generalize minB (fun o => !(o == m) && clsV U sp m o) (fun o => Rv F N h c (clsV U sp) (F - (f + 1)) o 0) k = mm at *
        have hlt : min A mm ≤ 1000000 := by omega
        rw [P_M_behind_48]
        simp only [m_M_behind, b_M_behind_0, P_M_behind_10, b_M_behind_10, P_M_behind_37, b_M_behind_37, P_M_behind_39, b_M_behind_39, P_M_behind_100, b_M_behind_100, P_M_behind_102, b_M_behind_102, P_M_behind_116, b_M_behind_116, P_M_behind_118, b_M_behind_118, P_M_behind_126, b_M_behind_126, wp_abs, wp_aln0, wp_copy, wp_cs1, wp_cs2, wp_cs3, wp_cs4, wp_cs5, wp_cs6, wp_cs7, wp_cv1, wp_cv2, wp_cv3, wp_cv4, wp_cv5, wp_cv6, wp_cv7, wp_goto, wp_iadd, wp_iald, wp_iceq, wp_icge, wp_icgt, wp_icne, wp_iconst, wp_il4, wp_il5, wp_il6, wp_il7, wp_il8, wp_il9, wp_iln1, wp_iln2, wp_iln3, wp_inc8, wp_iret, wp_is6, wp_is7, wp_is8, wp_is9, wp_isub, wp_ldc, wp_max, wp_min, wp_nop, wp_zret, qmd_kd, qmd_k1, qmd_l1, qmd_gf0, qmd_k2, qmd_l2, qmd_gf1, qmd_k3, qmd_l3, qmd_gf2, qmd_k4, qmd_l4, qmd_gf4, qmd_k5, qmd_l5, qmd_gf6, qmd_k6, qmd_l6, qmd_gf7, qmd_k7, qmd_l7, qmd_gf10, qmd_k8, qmd_l8, qmd_gf11, qmd_k9, qmd_l9, qmd_gf12, qmd_gf3, qmd_pf3, qmd_gf5, qmd_pf5, qmd_gf8, qmd_pf8, qmd_gf9, qmd_pf9, wrI_row, cpI_row, row_s, row_n, row_ss, row_sw, upd_s, upd_n, ad_inj, ad_z, ad_z2, Nat.reduceEqDiff, reduceCtorEq, List.cons_append, List.nil_append, Option.toList_some, Option.toList_none, Int.toNat_natCast, List.length_cons, List.length_nil, Int.cast_ofNat_Int, Nat.reduceAdd, Nat.reduceLeDiff, Nat.reduceLT, Nat.reduceMul, Int.reduceAdd, Int.reduceSub, Int.reduceMul, Int.reduceNeg, Int.reduceLT, Int.reduceLE, Int.reduceEq, Int.reduceToNat, eq_self, true_and, and_true, true_or, or_true, false_or, or_false, if_true, if_false, not_true_eq_false, not_false_eq_true, and_self, ne_eq, b_M_behind_48, hM, e0, hl, c1', fb, hlt]
        (repeat' (first | apply And.intro | split)) <;> first | omega | exact i2
theorem behind_ok (hM : isMd ρ a) (hR : LR (-1) (vwM (g (ad a 1))) U) (hU : WFV (-1) U) (hN : (N : Int) = U 0 0) (hh : (h : Int) = U 4 1) (hc : ∀ f m, 0 ≤ c f m) (hF : F ≤ 99) {f m r : Nat} (hf : f < F) (hm : m < N) (hr : r < h) (hsp : 0 ≤ sp ∧ sp ≤ 9) (hI : rsI (g (ad a 7)) F N h c (clsV U sp) (f + 1)) {f' r' : Int} (ef : f' = f) (er : r' = (r : Int) + 1) (Q : Option AV → Sto → Prop) : WpM zt 140 [AR a, AI f', AI m, AI r', AI F, AI sp] (g, ρ) Q ↔ Q (some (AI (bhV F N h c (clsV U sp) (F - (f + 1)) m r))) (g, ρ) := by
  refine wpm_iff (fun Q hQ => ?_) Q
  subst ef er
  have b0 := hU.1
  have b4 := hU.2.2.2.1
  have e0 := m_0 hR
  rw [← hN] at e0
  have s1 := setting_ok (zt := zt) hM hR (w := 1) (by omega) (by omega)
  have es1 : U 4 (1 : Int).toNat = (h : Int) := by rw [hh]; rfl
  rw [es1] at s1
  unfold bhV at hQ
  by_cases cF : f + 1 = F
  · rw [if_pos (by omega)] at hQ
    have cF' : (f : Int) = (F : Int) - 1 := by omega
    simp only [m_M_behind, b_M_behind_0, P_M_behind_37, b_M_behind_37, P_M_behind_39, b_M_behind_39, P_M_behind_100, b_M_behind_100, P_M_behind_102, b_M_behind_102, P_M_behind_116, b_M_behind_116, P_M_behind_118, b_M_behind_118, P_M_behind_126, b_M_behind_126, wp_abs, wp_aln0, wp_copy, wp_cs1, wp_cs2, wp_cs3, wp_cs4, wp_cs5, wp_cs6, wp_cs7, wp_cv1, wp_cv2, wp_cv3, wp_cv4, wp_cv5, wp_cv6, wp_cv7, wp_goto, wp_iadd, wp_iald, wp_iceq, wp_icge, wp_icgt, wp_icne, wp_iconst, wp_il4, wp_il5, wp_il6, wp_il7, wp_il8, wp_il9, wp_iln1, wp_iln2, wp_iln3, wp_inc8, wp_iret, wp_is6, wp_is7, wp_is8, wp_is9, wp_isub, wp_ldc, wp_max, wp_min, wp_nop, wp_zret, qmd_kd, qmd_k1, qmd_l1, qmd_gf0, qmd_k2, qmd_l2, qmd_gf1, qmd_k3, qmd_l3, qmd_gf2, qmd_k4, qmd_l4, qmd_gf4, qmd_k5, qmd_l5, qmd_gf6, qmd_k6, qmd_l6, qmd_gf7, qmd_k7, qmd_l7, qmd_gf10, qmd_k8, qmd_l8, qmd_gf11, qmd_k9, qmd_l9, qmd_gf12, qmd_gf3, qmd_pf3, qmd_gf5, qmd_pf5, qmd_gf8, qmd_pf8, qmd_gf9, qmd_pf9, wrI_row, cpI_row, row_s, row_n, row_ss, row_sw, upd_s, upd_n, ad_inj, ad_z, ad_z2, Nat.reduceEqDiff, reduceCtorEq, List.cons_append, List.nil_append, Option.toList_some, Option.toList_none, Int.toNat_natCast, List.length_cons, List.length_nil, Int.cast_ofNat_Int, Nat.reduceAdd, Nat.reduceLeDiff, Nat.reduceLT, Nat.reduceMul, Int.reduceAdd, Int.reduceSub, Int.reduceMul, Int.reduceNeg, Int.reduceLT, Int.reduceLE, Int.reduceEq, Int.reduceToNat, eq_self, true_and, and_true, true_or, or_true, false_or, or_false, if_true, if_false, not_true_eq_false, not_false_eq_true, and_self, ne_eq, hM]
    (repeat' (first | apply And.intro | split)) <;> first | omega | exact hQ
  · rw [if_neg (by omega)] at hQ
    have cF' : ¬ (f : Int) = (F : Int) - 1 := by omega
    have k10 : Wp zt 140 (P 140 10) [some (AR a), some (AI f), some (AI m), some (AI ((r : Int) + 1)), some (AI F), some (AI sp), none, none, none, none] [] (g, ρ) Q := by
      have rb := Rv_b (F := F) (M := N) (h := h) (cl := clsV U sp) hc (F - (f + 1)) m (min (r + 1) (h - 1))
      have rd := hI (f + 1) m (min (r + 1) (h - 1)) (Nat.le_refl _) (by omega) hm (by omega)
      by_cases cr : r = h - 1
      · rw [if_pos cr] at hQ
        have lp := behind_loop (zt := zt) hM hR hU hN hh hc hF (f := f) (m := m) (by omega) hm hsp hI rb hQ N 0 none (by omega)
        have ce := fun Q => cellOf_ok (zt := zt) (g := g) (ρ := ρ) (f := (f : Int) + 1) (m := (m : Int)) (h := (h : Int)) Q
        have ei : (24 * ((f : Int) + 1) + 3 * (m : Int) + (h : Int) - 1).toNat = ((f + 1) * 8 + m) * 3 + min (r + 1) (h - 1) := by omega
        have hge : ¬ (r : Int) + 1 < (h : Int) := by omega
        have hge2 : (h : Int) ≤ (r : Int) + 1 := by omega
        have er1 : (r : Int) + 1 = (h : Int) := by omega
        simp only [minB] at lp
        rw [Int.min_eq_left rb.2] at lp
        rw [er1] at hge2 ⊢
        rw [P_M_behind_10]
        simp only [m_M_behind, b_M_behind_0, P_M_behind_37, b_M_behind_37, P_M_behind_39, b_M_behind_39, P_M_behind_100, b_M_behind_100, P_M_behind_102, b_M_behind_102, P_M_behind_116, b_M_behind_116, P_M_behind_118, b_M_behind_118, P_M_behind_126, b_M_behind_126, wp_abs, wp_aln0, wp_copy, wp_cs1, wp_cs2, wp_cs3, wp_cs4, wp_cs5, wp_cs6, wp_cs7, wp_cv1, wp_cv2, wp_cv3, wp_cv4, wp_cv5, wp_cv6, wp_cv7, wp_goto, wp_iadd, wp_iald, wp_iceq, wp_icge, wp_icgt, wp_icne, wp_iconst, wp_il4, wp_il5, wp_il6, wp_il7, wp_il8, wp_il9, wp_iln1, wp_iln2, wp_iln3, wp_inc8, wp_iret, wp_is6, wp_is7, wp_is8, wp_is9, wp_isub, wp_ldc, wp_max, wp_min, wp_nop, wp_zret, qmd_kd, qmd_k1, qmd_l1, qmd_gf0, qmd_k2, qmd_l2, qmd_gf1, qmd_k3, qmd_l3, qmd_gf2, qmd_k4, qmd_l4, qmd_gf4, qmd_k5, qmd_l5, qmd_gf6, qmd_k6, qmd_l6, qmd_gf7, qmd_k7, qmd_l7, qmd_gf10, qmd_k8, qmd_l8, qmd_gf11, qmd_k9, qmd_l9, qmd_gf12, qmd_gf3, qmd_pf3, qmd_gf5, qmd_pf5, qmd_gf8, qmd_pf8, qmd_gf9, qmd_pf9, wrI_row, cpI_row, row_s, row_n, row_ss, row_sw, upd_s, upd_n, ad_inj, ad_z, ad_z2, Nat.reduceEqDiff, reduceCtorEq, List.cons_append, List.nil_append, Option.toList_some, Option.toList_none, Int.toNat_natCast, List.length_cons, List.length_nil, Int.cast_ofNat_Int, Nat.reduceAdd, Nat.reduceLeDiff, Nat.reduceLT, Nat.reduceMul, Int.reduceAdd, Int.reduceSub, Int.reduceMul, Int.reduceNeg, Int.reduceLT, Int.reduceLE, Int.reduceEq, Int.reduceToNat, eq_self, true_and, and_true, true_or, or_true, false_or, or_false, if_true, if_false, not_true_eq_false, not_false_eq_true, and_self, ne_eq, b_M_behind_10, hM, s1, hge2, ce, ei, rd]
        (repeat' (first | apply And.intro | split)) <;> first | omega | exact lp
      · rw [if_neg cr] at hQ
        have ce := fun Q => cellOf_ok (zt := zt) (g := g) (ρ := ρ) (f := (f : Int) + 1) (m := (m : Int)) (h := (r : Int) + 1 + 1) Q
        have ei : (24 * ((f : Int) + 1) + 3 * (m : Int) + ((r : Int) + 1 + 1) - 1).toNat = ((f + 1) * 8 + m) * 3 + min (r + 1) (h - 1) := by omega
        have hlt : ¬ (h : Int) ≤ (r : Int) + 1 := by omega
        have hne : ¬ (r : Int) + 1 = (h : Int) := by omega
        have k48 : Wp zt 140 (P 140 48) [some (AR a), some (AI f), some (AI m), some (AI ((r : Int) + 1)), some (AI F), some (AI sp), some (AI h), some (AI (Rv F N h c (clsV U sp) (F - (f + 1)) m (min (r + 1) (h - 1)))), some (AI 0), none] [] (g, ρ) Q := by
          rw [P_M_behind_48]
          simp only [m_M_behind, b_M_behind_0, P_M_behind_37, b_M_behind_37, P_M_behind_39, b_M_behind_39, P_M_behind_100, b_M_behind_100, P_M_behind_102, b_M_behind_102, P_M_behind_116, b_M_behind_116, P_M_behind_118, b_M_behind_118, P_M_behind_126, b_M_behind_126, wp_abs, wp_aln0, wp_copy, wp_cs1, wp_cs2, wp_cs3, wp_cs4, wp_cs5, wp_cs6, wp_cs7, wp_cv1, wp_cv2, wp_cv3, wp_cv4, wp_cv5, wp_cv6, wp_cv7, wp_goto, wp_iadd, wp_iald, wp_iceq, wp_icge, wp_icgt, wp_icne, wp_iconst, wp_il4, wp_il5, wp_il6, wp_il7, wp_il8, wp_il9, wp_iln1, wp_iln2, wp_iln3, wp_inc8, wp_iret, wp_is6, wp_is7, wp_is8, wp_is9, wp_isub, wp_ldc, wp_max, wp_min, wp_nop, wp_zret, qmd_kd, qmd_k1, qmd_l1, qmd_gf0, qmd_k2, qmd_l2, qmd_gf1, qmd_k3, qmd_l3, qmd_gf2, qmd_k4, qmd_l4, qmd_gf4, qmd_k5, qmd_l5, qmd_gf6, qmd_k6, qmd_l6, qmd_gf7, qmd_k7, qmd_l7, qmd_gf10, qmd_k8, qmd_l8, qmd_gf11, qmd_k9, qmd_l9, qmd_gf12, qmd_gf3, qmd_pf3, qmd_gf5, qmd_pf5, qmd_gf8, qmd_pf8, qmd_gf9, qmd_pf9, wrI_row, cpI_row, row_s, row_n, row_ss, row_sw, upd_s, upd_n, ad_inj, ad_z, ad_z2, Nat.reduceEqDiff, reduceCtorEq, List.cons_append, List.nil_append, Option.toList_some, Option.toList_none, Int.toNat_natCast, List.length_cons, List.length_nil, Int.cast_ofNat_Int, Nat.reduceAdd, Nat.reduceLeDiff, Nat.reduceLT, Nat.reduceMul, Int.reduceAdd, Int.reduceSub, Int.reduceMul, Int.reduceNeg, Int.reduceLT, Int.reduceLE, Int.reduceEq, Int.reduceToNat, eq_self, true_and, and_true, true_or, or_true, false_or, or_false, if_true, if_false, not_true_eq_false, not_false_eq_true, and_self, ne_eq, b_M_behind_48, hM, e0, hne]
          (repeat' (first | apply And.intro | split)) <;> first | omega | exact hQ
        rw [P_M_behind_10]
        simp only [m_M_behind, b_M_behind_0, P_M_behind_37, b_M_behind_37, P_M_behind_39, b_M_behind_39, P_M_behind_100, b_M_behind_100, P_M_behind_102, b_M_behind_102, P_M_behind_116, b_M_behind_116, P_M_behind_118, b_M_behind_118, P_M_behind_126, b_M_behind_126, wp_abs, wp_aln0, wp_copy, wp_cs1, wp_cs2, wp_cs3, wp_cs4, wp_cs5, wp_cs6, wp_cs7, wp_cv1, wp_cv2, wp_cv3, wp_cv4, wp_cv5, wp_cv6, wp_cv7, wp_goto, wp_iadd, wp_iald, wp_iceq, wp_icge, wp_icgt, wp_icne, wp_iconst, wp_il4, wp_il5, wp_il6, wp_il7, wp_il8, wp_il9, wp_iln1, wp_iln2, wp_iln3, wp_inc8, wp_iret, wp_is6, wp_is7, wp_is8, wp_is9, wp_isub, wp_ldc, wp_max, wp_min, wp_nop, wp_zret, qmd_kd, qmd_k1, qmd_l1, qmd_gf0, qmd_k2, qmd_l2, qmd_gf1, qmd_k3, qmd_l3, qmd_gf2, qmd_k4, qmd_l4, qmd_gf4, qmd_k5, qmd_l5, qmd_gf6, qmd_k6, qmd_l6, qmd_gf7, qmd_k7, qmd_l7, qmd_gf10, qmd_k8, qmd_l8, qmd_gf11, qmd_k9, qmd_l9, qmd_gf12, qmd_gf3, qmd_pf3, qmd_gf5, qmd_pf5, qmd_gf8, qmd_pf8, qmd_gf9, qmd_pf9, wrI_row, cpI_row, row_s, row_n, row_ss, row_sw, upd_s, upd_n, ad_inj, ad_z, ad_z2, Nat.reduceEqDiff, reduceCtorEq, List.cons_append, List.nil_append, Option.toList_some, Option.toList_none, Int.toNat_natCast, List.length_cons, List.length_nil, Int.cast_ofNat_Int, Nat.reduceAdd, Nat.reduceLeDiff, Nat.reduceLT, Nat.reduceMul, Int.reduceAdd, Int.reduceSub, Int.reduceMul, Int.reduceNeg, Int.reduceLT, Int.reduceLE, Int.reduceEq, Int.reduceToNat, eq_self, true_and, and_true, true_or, or_true, false_or, or_false, if_true, if_false, not_true_eq_false, not_false_eq_true, and_self, ne_eq, b_M_behind_10, hM, s1, hlt, ce, ei, rd]
        (repeat' (first | apply And.intro | split)) <;> first | omega | exact k48
    simp only [m_M_behind, b_M_behind_0, P_M_behind_37, b_M_behind_37, P_M_behind_39, b_M_behind_39, P_M_behind_100, b_M_behind_100, P_M_behind_102, b_M_behind_102, P_M_behind_116, b_M_behind_116, P_M_behind_118, b_M_behind_118, P_M_behind_126, b_M_behind_126, wp_abs, wp_aln0, wp_copy, wp_cs1, wp_cs2, wp_cs3, wp_cs4, wp_cs5, wp_cs6, wp_cs7, wp_cv1, wp_cv2, wp_cv3, wp_cv4, wp_cv5, wp_cv6, wp_cv7, wp_goto, wp_iadd, wp_iald, wp_iceq, wp_icge, wp_icgt, wp_icne, wp_iconst, wp_il4, wp_il5, wp_il6, wp_il7, wp_il8, wp_il9, wp_iln1, wp_iln2, wp_iln3, wp_inc8, wp_iret, wp_is6, wp_is7, wp_is8, wp_is9, wp_isub, wp_ldc, wp_max, wp_min, wp_nop, wp_zret, qmd_kd, qmd_k1, qmd_l1, qmd_gf0, qmd_k2, qmd_l2, qmd_gf1, qmd_k3, qmd_l3, qmd_gf2, qmd_k4, qmd_l4, qmd_gf4, qmd_k5, qmd_l5, qmd_gf6, qmd_k6, qmd_l6, qmd_gf7, qmd_k7, qmd_l7, qmd_gf10, qmd_k8, qmd_l8, qmd_gf11, qmd_k9, qmd_l9, qmd_gf12, qmd_gf3, qmd_pf3, qmd_gf5, qmd_pf5, qmd_gf8, qmd_pf8, qmd_gf9, qmd_pf9, wrI_row, cpI_row, row_s, row_n, row_ss, row_sw, upd_s, upd_n, ad_inj, ad_z, ad_z2, Nat.reduceEqDiff, reduceCtorEq, List.cons_append, List.nil_append, Option.toList_some, Option.toList_none, Int.toNat_natCast, List.length_cons, List.length_nil, Int.cast_ofNat_Int, Nat.reduceAdd, Nat.reduceLeDiff, Nat.reduceLT, Nat.reduceMul, Int.reduceAdd, Int.reduceSub, Int.reduceMul, Int.reduceNeg, Int.reduceLT, Int.reduceLE, Int.reduceEq, Int.reduceToNat, eq_self, true_and, and_true, true_or, or_true, false_or, or_false, if_true, if_false, not_true_eq_false, not_false_eq_true, and_self, ne_eq, hM]
    (repeat' (first | apply And.intro | split)) <;> first | omega | exact k10
end MPW
