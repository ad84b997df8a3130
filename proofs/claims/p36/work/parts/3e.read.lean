/-! READING, the specification: T the text, L its length -/
def skF (T : Nat → Int) (L : Nat) : Nat → Nat → Nat
  | 0, p => p
  | d + 1, p => if p < L ∧ T p = 32 then skF T L d (p + 1) else p
def skp (T : Nat → Int) (L p : Nat) : Nat := skF T L (L - p) p
def dgt (c : Int) : Bool := decide (48 ≤ c ∧ c ≤ 57)
theorem dgt_i {c : Int} : dgt c = true ↔ 48 ≤ c ∧ c ≤ 57 := decide_eq_true_iff
def nuF (T : Nat → Int) (L : Nat) : Nat → Nat → Int → Nat × Int
  | 0, p, v => (p, v)
  | d + 1, p, v => if p < L ∧ dgt (T p) = true then nuF T L d (p + 1) (min 1000 (v * 10 + T p - 48)) else (p, v)
def num (T : Nat → Int) (L p : Nat) : Nat × Int := nuF T L (L - p) p 0
/-- a number read from st on is no number of the range -/
def bad (T : Nat → Int) (L : Nat) (lo hi : Int) (st : Nat) : Bool := decide ((num T L st).1 = st ∨ (st + 1 < (num T L st).1 ∧ T st = 48) ∨ (num T L st).2 < lo ∨ hi < (num T L st).2)
theorem bad_i {T : Nat → Int} {L : Nat} {lo hi : Int} {st : Nat} : bad T L lo hi st = true ↔ (num T L st).1 = st ∨ (st + 1 < (num T L st).1 ∧ T st = 48) ∨ (num T L st).2 < lo ∨ hi < (num T L st).2 := decide_eq_true_iff
def kndC (c : Int) : Int := if c = 46 then 9 else if 97 ≤ c ∧ c ≤ 105 then c - 97 else -1
theorem skp_y {T : Nat → Int} {L p : Nat} (h : p < L) (h2 : T p = 32) : skp T L p = skp T L (p + 1) := by
  unfold skp
  rw [show L - p = (L - (p + 1)) + 1 by omega]
  simp only [skF]
  rw [if_pos ⟨h, h2⟩]
theorem skp_n {T : Nat → Int} {L p : Nat} (h : ¬ (p < L ∧ T p = 32)) : skp T L p = p := by
  unfold skp
  by_cases e : p < L
  · rw [show L - p = (L - (p + 1)) + 1 by omega]
    simp only [skF]
    rw [if_neg h]
  · rw [show L - p = 0 by omega]
    rfl
theorem nuF_y {T : Nat → Int} {L p : Nat} {v : Int} (h : p < L) (h2 : dgt (T p) = true) : nuF T L (L - p) p v = nuF T L (L - (p + 1)) (p + 1) (min 1000 (v * 10 + T p - 48)) := by
  rw [show L - p = (L - (p + 1)) + 1 by omega]
  simp only [nuF]
  rw [if_pos ⟨h, h2⟩]
theorem nuF_n {T : Nat → Int} {L p : Nat} {v : Int} (h : ¬ (p < L ∧ dgt (T p) = true)) : nuF T L (L - p) p v = (p, v) := by
  by_cases e : p < L
  · rw [show L - p = (L - (p + 1)) + 1 by omega]
    simp only [nuF]
    rw [if_neg h]
  · rw [show L - p = 0 by omega]
    rfl
theorem skF_b {T : Nat → Int} {L : Nat} : ∀ d p : Nat, p ≤ skF T L d p ∧ (p ≤ L → skF T L d p ≤ L)
  | 0, p => ⟨Nat.le_refl _, fun h => h⟩
  | d + 1, p => by
    have h1 := skF_b (T := T) (L := L) d (p + 1)
    simp only [skF]
    split <;> omega
theorem nuF_b {T : Nat → Int} {L : Nat} : ∀ (d p : Nat) (v : Int), (0 ≤ v ∧ v ≤ 1000) → (p ≤ (nuF T L d p v).1 ∧ (p ≤ L → (nuF T L d p v).1 ≤ L)) ∧ 0 ≤ (nuF T L d p v).2 ∧ (nuF T L d p v).2 ≤ 1000
  | 0, p, v, hv => ⟨⟨Nat.le_refl _, fun h => h⟩, hv⟩
  | d + 1, p, v, hv => by
    have h1 := nuF_b (T := T) (L := L) d (p + 1) (min 1000 (v * 10 + T p - 48))
    simp only [nuF]
    split
    next h =>
      have h2 := h.2
      rw [dgt_i] at h2
      have := h1 (by omega)
      omega
    next h => exact ⟨⟨Nat.le_refl _, fun h => h⟩, hv⟩
theorem num_b {T : Nat → Int} {L p : Nat} (h : p ≤ L) : (p ≤ (num T L p).1 ∧ (num T L p).1 ≤ L) ∧ 0 ≤ (num T L p).2 ∧ (num T L p).2 ≤ 1000 := by
  have := nuF_b (T := T) (L := L) (L - p) p 0 (by omega)
  unfold num
  omega
theorem upd_u {R : Nat → Int} {k : Nat} {v v' : Int} : upd1 (upd1 R k v) k v' = upd1 R k v' := by
  funext y
  unfold upd1
  split <;> rfl
section RDR
variable {zt : Nat → Nat} {g : Nat → Nat → Int} {ρ : Ri} {r tx L : Nat}
theorem isDigit_ok {c : Int} (hc : -2147483648 ≤ c ∧ c < 2147483648) (Q : Option AV → Sto → Prop) : WpM zt 23 [AI c] (g, ρ) Q ↔ Q (some (AI (b2 (48 ≤ c ∧ c ≤ 57)))) (g, ρ) := by
  refine wpm_iff (fun Q hQ => ?_) Q
  simp only [m_R_isDigit, b_R_isDigit_0, P_R_isDigit_16, b_R_isDigit_16, P_R_isDigit_17, b_R_isDigit_17, wp_bipush, wp_goto, wp_icgt, wp_iclt, wp_iconst, wp_iln0, wp_iret, wp_nop, wp_zret, wrI_row, cpI_row, row_s, row_n, row_ss, row_sw, upd_s, upd_n, ad_inj, ad_z, ad_z2, Nat.reduceEqDiff, reduceCtorEq, List.cons_append, List.nil_append, Option.toList_some, Option.toList_none, Int.toNat_natCast, List.length_cons, List.length_nil, Int.cast_ofNat_Int, Nat.reduceAdd, Nat.reduceLeDiff, Nat.reduceLT, Nat.reduceMul, Int.reduceAdd, Int.reduceSub, Int.reduceMul, Int.reduceNeg, Int.reduceLT, Int.reduceLE, Int.reduceEq, Int.reduceToNat, eq_self, true_and, and_true, true_or, or_true, false_or, or_false, if_true, if_false, not_true_eq_false, not_false_eq_true, and_self, ne_eq]
  (repeat' (first | apply And.intro | split)) <;> first | omega | exact hQ | (rw [b2_t (by omega)] at hQ; exact hQ) | (rw [b2_f (by omega)] at hQ; exact hQ)
theorem kindOf_ok {c : Int} (hc : -1000 ≤ c ∧ c ≤ 1000) (Q : Option AV → Sto → Prop) : WpM zt 24 [AI c] (g, ρ) Q ↔ Q (some (AI (kndC c))) (g, ρ) := by
  refine wpm_iff (fun Q hQ => ?_) Q
  unfold kndC at hQ
  by_cases e : c = 46
  · rw [if_pos e] at hQ
    subst e
    simp only [m_R_kindOf, b_R_kindOf_0, P_R_kindOf_9, b_R_kindOf_9, P_R_kindOf_28, b_R_kindOf_28, P_R_kindOf_29, b_R_kindOf_29, wp_bipush, wp_goto, wp_icgt, wp_iclt, wp_icne, wp_iconst, wp_iln0, wp_iret, wp_isub, wp_nop, wp_zret, wrI_row, cpI_row, row_s, row_n, row_ss, row_sw, upd_s, upd_n, ad_inj, ad_z, ad_z2, Nat.reduceEqDiff, reduceCtorEq, List.cons_append, List.nil_append, Option.toList_some, Option.toList_none, Int.toNat_natCast, List.length_cons, List.length_nil, Int.cast_ofNat_Int, Nat.reduceAdd, Nat.reduceLeDiff, Nat.reduceLT, Nat.reduceMul, Int.reduceAdd, Int.reduceSub, Int.reduceMul, Int.reduceNeg, Int.reduceLT, Int.reduceLE, Int.reduceEq, Int.reduceToNat, eq_self, true_and, and_true, true_or, or_true, false_or, or_false, if_true, if_false, not_true_eq_false, not_false_eq_true, and_self, ne_eq]
    (repeat' (first | apply And.intro | split)) <;> first | omega | exact hQ | (rw [b2_t (by omega)] at hQ; exact hQ) | (rw [b2_f (by omega)] at hQ; exact hQ)
  · rw [if_neg e] at hQ
    by_cases e2 : 97 ≤ c ∧ c ≤ 105
    · rw [if_pos e2] at hQ
      simp only [m_R_kindOf, b_R_kindOf_0, P_R_kindOf_9, b_R_kindOf_9, P_R_kindOf_28, b_R_kindOf_28, P_R_kindOf_29, b_R_kindOf_29, wp_bipush, wp_goto, wp_icgt, wp_iclt, wp_icne, wp_iconst, wp_iln0, wp_iret, wp_isub, wp_nop, wp_zret, wrI_row, cpI_row, row_s, row_n, row_ss, row_sw, upd_s, upd_n, ad_inj, ad_z, ad_z2, Nat.reduceEqDiff, reduceCtorEq, List.cons_append, List.nil_append, Option.toList_some, Option.toList_none, Int.toNat_natCast, List.length_cons, List.length_nil, Int.cast_ofNat_Int, Nat.reduceAdd, Nat.reduceLeDiff, Nat.reduceLT, Nat.reduceMul, Int.reduceAdd, Int.reduceSub, Int.reduceMul, Int.reduceNeg, Int.reduceLT, Int.reduceLE, Int.reduceEq, Int.reduceToNat, eq_self, true_and, and_true, true_or, or_true, false_or, or_false, if_true, if_false, not_true_eq_false, not_false_eq_true, and_self, ne_eq, e]
      (repeat' (first | apply And.intro | split)) <;> first | omega | exact hQ
    · rw [if_neg e2] at hQ
      simp only [m_R_kindOf, b_R_kindOf_0, P_R_kindOf_9, b_R_kindOf_9, P_R_kindOf_28, b_R_kindOf_28, P_R_kindOf_29, b_R_kindOf_29, wp_bipush, wp_goto, wp_icgt, wp_iclt, wp_icne, wp_iconst, wp_iln0, wp_iret, wp_isub, wp_nop, wp_zret, wrI_row, cpI_row, row_s, row_n, row_ss, row_sw, upd_s, upd_n, ad_inj, ad_z, ad_z2, Nat.reduceEqDiff, reduceCtorEq, List.cons_append, List.nil_append, Option.toList_some, Option.toList_none, Int.toNat_natCast, List.length_cons, List.length_nil, Int.cast_ofNat_Int, Nat.reduceAdd, Nat.reduceLeDiff, Nat.reduceLT, Nat.reduceMul, Int.reduceAdd, Int.reduceSub, Int.reduceMul, Int.reduceNeg, Int.reduceLT, Int.reduceLE, Int.reduceEq, Int.reduceToNat, eq_self, true_and, and_true, true_or, or_true, false_or, or_false, if_true, if_false, not_true_eq_false, not_false_eq_true, and_self, ne_eq, e]
      (repeat' (first | apply And.intro | split)) <;> first | omega | exact hQ
theorem skip_loop (hA : isRd ρ r) (hx : ρ.1 r 1 = some tx) (hk : kdI ρ tx 0) (hl : lnA ρ tx = 120) (hne : ¬ tx = r) (hL : L ≤ 120) (hT : ∀ j, j < L → 0 ≤ g tx j ∧ g tx j ≤ 255) (h2 : g r 2 = L) {Q : Option AV → Sto → Prop} :
    ∀ (d p : Nat), L - p = d → p ≤ L → Q none (setRow g r (upd1 (g r) 3 (skp (g tx) L p : Nat)), ρ) → Wp zt 22 (P 22 0) [some (AR r)] [] (setRow g r (upd1 (g r) 3 p), ρ) Q := by
  have hne2 : (tx = r) ↔ False := iff_false_intro hne
  have h2' : ∀ v : Int, upd1 (g r) 3 v 2 = L := fun v => by rw [upd_n (by omega)]; exact h2
  intro d
  induction d with
  | zero =>
    intro p hd hp hQ
    rw [skp_n (by omega)] at hQ
    rw [P_R_skipSpaces_0]
    simp only [m_R_skipSpaces, b_R_skipSpaces_0, P_R_skipSpaces_38, b_R_skipSpaces_38, wp_aln0, wp_bipush, wp_dup, wp_goto, wp_iadd, wp_iald, wp_icge, wp_icne, wp_iconst, wp_ret, qrd_kd, qrd_gf0, qrd_pf0, qrd_gf2, qrd_pf2, qrd_gf3, qrd_pf3, wrI_row, cpI_row, row_s, row_n, row_ss, row_sw, upd_s, upd_n, ad_inj, ad_z, ad_z2, Nat.reduceEqDiff, reduceCtorEq, List.cons_append, List.nil_append, Option.toList_some, Option.toList_none, Int.toNat_natCast, List.length_cons, List.length_nil, Int.cast_ofNat_Int, Nat.reduceAdd, Nat.reduceLeDiff, Nat.reduceLT, Nat.reduceMul, Int.reduceAdd, Int.reduceSub, Int.reduceMul, Int.reduceNeg, Int.reduceLT, Int.reduceLE, Int.reduceEq, Int.reduceToNat, eq_self, true_and, and_true, true_or, or_true, false_or, or_false, if_true, if_false, not_true_eq_false, not_false_eq_true, and_self, ne_eq, hA, gf_2_1 (qrd_kd hA) hx, hk, hl, hne2, h2']
    (repeat' (first | apply And.intro | split)) <;> first | omega | exact hQ
  | succ d ih =>
    intro p hd hp hQ
    have b := hT p (by omega)
    by_cases e : g tx p = 32
    · rw [skp_y (by omega) e] at hQ
      have i1 := ih (p + 1) (by omega) (by omega) hQ
      rw [P_R_skipSpaces_0]
      simp only [m_R_skipSpaces, b_R_skipSpaces_0, P_R_skipSpaces_38, b_R_skipSpaces_38, wp_aln0, wp_bipush, wp_dup, wp_goto, wp_iadd, wp_iald, wp_icge, wp_icne, wp_iconst, wp_ret, qrd_kd, qrd_gf0, qrd_pf0, qrd_gf2, qrd_pf2, qrd_gf3, qrd_pf3, wrI_row, cpI_row, row_s, row_n, row_ss, row_sw, upd_s, upd_n, ad_inj, ad_z, ad_z2, Nat.reduceEqDiff, reduceCtorEq, List.cons_append, List.nil_append, Option.toList_some, Option.toList_none, Int.toNat_natCast, List.length_cons, List.length_nil, Int.cast_ofNat_Int, Nat.reduceAdd, Nat.reduceLeDiff, Nat.reduceLT, Nat.reduceMul, Int.reduceAdd, Int.reduceSub, Int.reduceMul, Int.reduceNeg, Int.reduceLT, Int.reduceLE, Int.reduceEq, Int.reduceToNat, eq_self, true_and, and_true, true_or, or_true, false_or, or_false, if_true, if_false, not_true_eq_false, not_false_eq_true, and_self, ne_eq, hA, gf_2_1 (qrd_kd hA) hx, hk, hl, hne2, h2, e, upd_u]
      (repeat' (first | apply And.intro | split)) <;> first | omega | exact i1
    · rw [skp_n (fun q => e q.2)] at hQ
      rw [P_R_skipSpaces_0]
      simp only [m_R_skipSpaces, b_R_skipSpaces_0, P_R_skipSpaces_38, b_R_skipSpaces_38, wp_aln0, wp_bipush, wp_dup, wp_goto, wp_iadd, wp_iald, wp_icge, wp_icne, wp_iconst, wp_ret, qrd_kd, qrd_gf0, qrd_pf0, qrd_gf2, qrd_pf2, qrd_gf3, qrd_pf3, wrI_row, cpI_row, row_s, row_n, row_ss, row_sw, upd_s, upd_n, ad_inj, ad_z, ad_z2, Nat.reduceEqDiff, reduceCtorEq, List.cons_append, List.nil_append, Option.toList_some, Option.toList_none, Int.toNat_natCast, List.length_cons, List.length_nil, Int.cast_ofNat_Int, Nat.reduceAdd, Nat.reduceLeDiff, Nat.reduceLT, Nat.reduceMul, Int.reduceAdd, Int.reduceSub, Int.reduceMul, Int.reduceNeg, Int.reduceLT, Int.reduceLE, Int.reduceEq, Int.reduceToNat, eq_self, true_and, and_true, true_or, or_true, false_or, or_false, if_true, if_false, not_true_eq_false, not_false_eq_true, and_self, ne_eq, hA, gf_2_1 (qrd_kd hA) hx, hk, hl, hne2, h2, e, upd_u]
      (repeat' (first | apply And.intro | split)) <;> first | omega | exact hQ
theorem skipSpaces_ok (hA : isRd ρ r) (hx : ρ.1 r 1 = some tx) (hk : kdI ρ tx 0) (hl : lnA ρ tx = 120) (hne : ¬ tx = r) (hL : L ≤ 120) (hT : ∀ j, j < L → 0 ≤ g tx j ∧ g tx j ≤ 255) (h2 : g r 2 = L) {p : Nat} (hp : p ≤ L) (h3 : g r 3 = p) (Q : Option AV → Sto → Prop) : WpM zt 22 [AR r] (g, ρ) Q ↔ Q none (setRow g r (upd1 (g r) 3 (skp (g tx) L p : Nat)), ρ) := by
  refine wpm_iff (fun Q hQ => ?_) Q
  have k1 := skip_loop (zt := zt) hA hx hk hl hne hL hT h2 (L - p) p rfl hp hQ
  have e : upd1 (g r) 3 (p : Int) = g r := by
    funext y
    unfold upd1
    split
    next h => rw [h, h3]
    next h => rfl
  rw [e, row_id, P_R_skipSpaces_0] at k1
  exact k1
theorem number_end (hA : isRd ρ r) (hx : ρ.1 r 1 = some tx) (hk : kdI ρ tx 0) (hl : lnA ρ tx = 120) (hne : ¬ tx = r) (hL : L ≤ 120) (hT : ∀ j, j < L → 0 ≤ g tx j ∧ g tx j ≤ 255) {lo hi : Int} (hlo : -1000 ≤ lo ∧ lo ≤ 1000) (hhi : -1000 ≤ hi ∧ hi ≤ 1000) {st : Nat} (hst : st ≤ L) {e : Nat} (he : (num (g tx) L st).1 = e) {v : Int} (hv : (num (g tx) L st).2 = v) (h3 : g r 3 = e) {Q : Option AV → Sto → Prop} (hQ : Q (some (AI v)) (if bad (g tx) L lo hi st = true then setRow g r (upd1 (g r) 0 st) else g, ρ)) : Wp zt 21 (P 21 77) [some (AR r), some (AI lo), some (AI hi), some (AI st), some (AI v), none] [] (g, ρ) Q := by
  have hb := num_b (T := g tx) (L := L) (p := st) hst
  rw [he, hv] at hb
  have hbi := bad_i (T := g tx) (L := L) (lo := lo) (hi := hi) (st := st)
  rw [he, hv] at hbi
  rw [P_R_readNumber_77]
  by_cases q0 : e = st
  · rw [if_pos (hbi.2 (Or.inl q0))] at hQ
    subst q0
    simp only [m_R_readNumber, b_R_readNumber_0, P_R_readNumber_102, b_R_readNumber_102, P_R_readNumber_103, b_R_readNumber_103, P_R_readNumber_130, b_R_readNumber_130, P_R_readNumber_135, b_R_readNumber_135, wp_abs, wp_aln0, wp_bipush, wp_copy, wp_cs1, wp_cs2, wp_cs3, wp_cs4, wp_cs5, wp_cs6, wp_cs7, wp_cv1, wp_cv2, wp_cv3, wp_cv4, wp_cv5, wp_cv6, wp_cv7, wp_dup, wp_goto, wp_iadd, wp_iald, wp_iceq, wp_icge, wp_icle, wp_iclt, wp_icne, wp_iconst, wp_il4, wp_il5, wp_iln1, wp_iln2, wp_iln3, wp_imul, wp_iret, wp_is4, wp_is5, wp_isn3, wp_isub, wp_izeq, wp_izne, wp_max, wp_min, wp_nop, wp_sipush, wp_zret, qrd_kd, qrd_gf0, qrd_pf0, qrd_gf2, qrd_pf2, qrd_gf3, qrd_pf3, wrI_row, cpI_row, row_s, row_n, row_ss, row_sw, upd_s, upd_n, ad_inj, ad_z, ad_z2, Nat.reduceEqDiff, reduceCtorEq, List.cons_append, List.nil_append, Option.toList_some, Option.toList_none, Int.toNat_natCast, List.length_cons, List.length_nil, Int.cast_ofNat_Int, Nat.reduceAdd, Nat.reduceLeDiff, Nat.reduceLT, Nat.reduceMul, Int.reduceAdd, Int.reduceSub, Int.reduceMul, Int.reduceNeg, Int.reduceLT, Int.reduceLE, Int.reduceEq, Int.reduceToNat, eq_self, true_and, and_true, true_or, or_true, false_or, or_false, if_true, if_false, not_true_eq_false, not_false_eq_true, and_self, ne_eq, b_R_readNumber_77, hA, gf_2_1 (qrd_kd hA) hx, hk, hl, h3]
    (repeat' (first | apply And.intro | split)) <;> first | omega | exact hQ
  · have b := hT st (by omega)
    by_cases q1 : st + 1 < e ∧ g tx st = 48
    · rw [if_pos (hbi.2 (Or.inr (Or.inl q1)))] at hQ
      obtain ⟨q2, q3⟩ := q1
      simp only [m_R_readNumber, b_R_readNumber_0, P_R_readNumber_102, b_R_readNumber_102, P_R_readNumber_103, b_R_readNumber_103, P_R_readNumber_130, b_R_readNumber_130, P_R_readNumber_135, b_R_readNumber_135, wp_abs, wp_aln0, wp_bipush, wp_copy, wp_cs1, wp_cs2, wp_cs3, wp_cs4, wp_cs5, wp_cs6, wp_cs7, wp_cv1, wp_cv2, wp_cv3, wp_cv4, wp_cv5, wp_cv6, wp_cv7, wp_dup, wp_goto, wp_iadd, wp_iald, wp_iceq, wp_icge, wp_icle, wp_iclt, wp_icne, wp_iconst, wp_il4, wp_il5, wp_iln1, wp_iln2, wp_iln3, wp_imul, wp_iret, wp_is4, wp_is5, wp_isn3, wp_isub, wp_izeq, wp_izne, wp_max, wp_min, wp_nop, wp_sipush, wp_zret, qrd_kd, qrd_gf0, qrd_pf0, qrd_gf2, qrd_pf2, qrd_gf3, qrd_pf3, wrI_row, cpI_row, row_s, row_n, row_ss, row_sw, upd_s, upd_n, ad_inj, ad_z, ad_z2, Nat.reduceEqDiff, reduceCtorEq, List.cons_append, List.nil_append, Option.toList_some, Option.toList_none, Int.toNat_natCast, List.length_cons, List.length_nil, Int.cast_ofNat_Int, Nat.reduceAdd, Nat.reduceLeDiff, Nat.reduceLT, Nat.reduceMul, Int.reduceAdd, Int.reduceSub, Int.reduceMul, Int.reduceNeg, Int.reduceLT, Int.reduceLE, Int.reduceEq, Int.reduceToNat, eq_self, true_and, and_true, true_or, or_true, false_or, or_false, if_true, if_false, not_true_eq_false, not_false_eq_true, and_self, ne_eq, b_R_readNumber_77, hA, gf_2_1 (qrd_kd hA) hx, hk, hl, h3, q3]
      (repeat' (first | apply And.intro | split)) <;> first | omega | exact hQ
    · by_cases q2 : v < lo ∨ hi < v
      · rw [if_pos (hbi.2 (Or.inr (Or.inr q2)))] at hQ
        simp only [m_R_readNumber, b_R_readNumber_0, P_R_readNumber_102, b_R_readNumber_102, P_R_readNumber_103, b_R_readNumber_103, P_R_readNumber_130, b_R_readNumber_130, P_R_readNumber_135, b_R_readNumber_135, wp_abs, wp_aln0, wp_bipush, wp_copy, wp_cs1, wp_cs2, wp_cs3, wp_cs4, wp_cs5, wp_cs6, wp_cs7, wp_cv1, wp_cv2, wp_cv3, wp_cv4, wp_cv5, wp_cv6, wp_cv7, wp_dup, wp_goto, wp_iadd, wp_iald, wp_iceq, wp_icge, wp_icle, wp_iclt, wp_icne, wp_iconst, wp_il4, wp_il5, wp_iln1, wp_iln2, wp_iln3, wp_imul, wp_iret, wp_is4, wp_is5, wp_isn3, wp_isub, wp_izeq, wp_izne, wp_max, wp_min, wp_nop, wp_sipush, wp_zret, qrd_kd, qrd_gf0, qrd_pf0, qrd_gf2, qrd_pf2, qrd_gf3, qrd_pf3, wrI_row, cpI_row, row_s, row_n, row_ss, row_sw, upd_s, upd_n, ad_inj, ad_z, ad_z2, Nat.reduceEqDiff, reduceCtorEq, List.cons_append, List.nil_append, Option.toList_some, Option.toList_none, Int.toNat_natCast, List.length_cons, List.length_nil, Int.cast_ofNat_Int, Nat.reduceAdd, Nat.reduceLeDiff, Nat.reduceLT, Nat.reduceMul, Int.reduceAdd, Int.reduceSub, Int.reduceMul, Int.reduceNeg, Int.reduceLT, Int.reduceLE, Int.reduceEq, Int.reduceToNat, eq_self, true_and, and_true, true_or, or_true, false_or, or_false, if_true, if_false, not_true_eq_false, not_false_eq_true, and_self, ne_eq, b_R_readNumber_77, hA, gf_2_1 (qrd_kd hA) hx, hk, hl, h3]
        (repeat' (first | apply And.intro | split)) <;> first | omega | exact hQ
      · rw [if_neg (fun z => (hbi.1 z).elim q0 (fun z => z.elim q1 q2))] at hQ
        simp only [m_R_readNumber, b_R_readNumber_0, P_R_readNumber_102, b_R_readNumber_102, P_R_readNumber_103, b_R_readNumber_103, P_R_readNumber_130, b_R_readNumber_130, P_R_readNumber_135, b_R_readNumber_135, wp_abs, wp_aln0, wp_bipush, wp_copy, wp_cs1, wp_cs2, wp_cs3, wp_cs4, wp_cs5, wp_cs6, wp_cs7, wp_cv1, wp_cv2, wp_cv3, wp_cv4, wp_cv5, wp_cv6, wp_cv7, wp_dup, wp_goto, wp_iadd, wp_iald, wp_iceq, wp_icge, wp_icle, wp_iclt, wp_icne, wp_iconst, wp_il4, wp_il5, wp_iln1, wp_iln2, wp_iln3, wp_imul, wp_iret, wp_is4, wp_is5, wp_isn3, wp_isub, wp_izeq, wp_izne, wp_max, wp_min, wp_nop, wp_sipush, wp_zret, qrd_kd, qrd_gf0, qrd_pf0, qrd_gf2, qrd_pf2, qrd_gf3, qrd_pf3, wrI_row, cpI_row, row_s, row_n, row_ss, row_sw, upd_s, upd_n, ad_inj, ad_z, ad_z2, Nat.reduceEqDiff, reduceCtorEq, List.cons_append, List.nil_append, Option.toList_some, Option.toList_none, Int.toNat_natCast, List.length_cons, List.length_nil, Int.cast_ofNat_Int, Nat.reduceAdd, Nat.reduceLeDiff, Nat.reduceLT, Nat.reduceMul, Int.reduceAdd, Int.reduceSub, Int.reduceMul, Int.reduceNeg, Int.reduceLT, Int.reduceLE, Int.reduceEq, Int.reduceToNat, eq_self, true_and, and_true, true_or, or_true, false_or, or_false, if_true, if_false, not_true_eq_false, not_false_eq_true, and_self, ne_eq, b_R_readNumber_77, hA, gf_2_1 (qrd_kd hA) hx, hk, hl, h3]
        (repeat' (first | apply And.intro | split)) <;> first | omega | exact hQ
theorem number_loop (hA : isRd ρ r) (hx : ρ.1 r 1 = some tx) (hk : kdI ρ tx 0) (hl : lnA ρ tx = 120) (hne : ¬ tx = r) (hL : L ≤ 120) (hT : ∀ j, j < L → 0 ≤ g tx j ∧ g tx j ≤ 255) (h2 : g r 2 = L) {lo hi : Int} (hlo : -1000 ≤ lo ∧ lo ≤ 1000) (hhi : -1000 ≤ hi ∧ hi ≤ 1000) {st : Nat} (hst : st ≤ L) {Q : Option AV → Sto → Prop} (hQ : Q (some (AI (num (g tx) L st).2)) (if bad (g tx) L lo hi st = true then setRow g r (upd1 (upd1 (g r) 3 (num (g tx) L st).1) 0 st) else setRow g r (upd1 (g r) 3 (num (g tx) L st).1), ρ)) :
    ∀ (d p : Nat) (v : Int), L - p = d → p ≤ L → 0 ≤ v ∧ v ≤ 1000 → nuF (g tx) L (L - p) p v = num (g tx) L st → Wp zt 21 (P 21 12) [some (AR r), some (AI lo), some (AI hi), some (AI st), some (AI v), none] [] (setRow g r (upd1 (g r) 3 p), ρ) Q := by
  have hne2 : (tx = r) ↔ False := iff_false_intro hne
  have fin1 : ∀ (p : Nat) (v : Int), (p, v) = num (g tx) L st → Wp zt 21 (P 21 77) [some (AR r), some (AI lo), some (AI hi), some (AI st), some (AI v), none] [] (setRow g r (upd1 (g r) 3 p), ρ) Q := by
    intro p v hpv
    have etx : setRow g r (upd1 (g r) 3 p) tx = g tx := row_n hne
    refine number_end hA hx hk hl hne hL (by rw [etx]; exact hT) hlo hhi hst (e := p) (by rw [etx, ← hpv]) (by rw [etx, ← hpv]) (by rw [row_s, upd_s]) ?_
    rw [etx, row_s, row_ss]
    rw [← hpv] at hQ
    exact hQ
  intro d
  induction d with
  | zero =>
    intro p v hd hp hv hn
    rw [nuF_n (by omega)] at hn
    have k1 := fin1 p v hn
    rw [P_R_readNumber_12]
    simp only [m_R_readNumber, b_R_readNumber_0, P_R_readNumber_102, b_R_readNumber_102, P_R_readNumber_103, b_R_readNumber_103, P_R_readNumber_130, b_R_readNumber_130, P_R_readNumber_135, b_R_readNumber_135, wp_abs, wp_aln0, wp_bipush, wp_copy, wp_cs1, wp_cs2, wp_cs3, wp_cs4, wp_cs5, wp_cs6, wp_cs7, wp_cv1, wp_cv2, wp_cv3, wp_cv4, wp_cv5, wp_cv6, wp_cv7, wp_dup, wp_goto, wp_iadd, wp_iald, wp_iceq, wp_icge, wp_icle, wp_iclt, wp_icne, wp_iconst, wp_il4, wp_il5, wp_iln1, wp_iln2, wp_iln3, wp_imul, wp_iret, wp_is4, wp_is5, wp_isn3, wp_isub, wp_izeq, wp_izne, wp_max, wp_min, wp_nop, wp_sipush, wp_zret, qrd_kd, qrd_gf0, qrd_pf0, qrd_gf2, qrd_pf2, qrd_gf3, qrd_pf3, wrI_row, cpI_row, row_s, row_n, row_ss, row_sw, upd_s, upd_n, ad_inj, ad_z, ad_z2, Nat.reduceEqDiff, reduceCtorEq, List.cons_append, List.nil_append, Option.toList_some, Option.toList_none, Int.toNat_natCast, List.length_cons, List.length_nil, Int.cast_ofNat_Int, Nat.reduceAdd, Nat.reduceLeDiff, Nat.reduceLT, Nat.reduceMul, Int.reduceAdd, Int.reduceSub, Int.reduceMul, Int.reduceNeg, Int.reduceLT, Int.reduceLE, Int.reduceEq, Int.reduceToNat, eq_self, true_and, and_true, true_or, or_true, false_or, or_false, if_true, if_false, not_true_eq_false, not_false_eq_true, and_self, ne_eq, b_R_readNumber_12, hA, gf_2_1 (qrd_kd hA) hx, hk, hl, hne2, h2]
    (repeat' (first | apply And.intro | split)) <;> first | omega | exact k1
  | succ d ih =>
    intro p v hd hp hv hn
    have b := hT p (by omega)
    have hdg := isDigit_ok (zt := zt) (g := setRow g r (upd1 (g r) 3 p)) (ρ := ρ) (c := g tx p) (by omega)
    by_cases e : 48 ≤ g tx p ∧ g tx p ≤ 57
    · rw [b2_t e] at hdg
      rw [nuF_y (by omega) (dgt_i.2 e)] at hn
      have i1 := ih (p + 1) _ (by omega) (by omega) (by omega) hn
      rw [P_R_readNumber_12]
      simp only [m_R_readNumber, b_R_readNumber_0, P_R_readNumber_102, b_R_readNumber_102, P_R_readNumber_103, b_R_readNumber_103, P_R_readNumber_130, b_R_readNumber_130, P_R_readNumber_135, b_R_readNumber_135, wp_abs, wp_aln0, wp_bipush, wp_copy, wp_cs1, wp_cs2, wp_cs3, wp_cs4, wp_cs5, wp_cs6, wp_cs7, wp_cv1, wp_cv2, wp_cv3, wp_cv4, wp_cv5, wp_cv6, wp_cv7, wp_dup, wp_goto, wp_iadd, wp_iald, wp_iceq, wp_icge, wp_icle, wp_iclt, wp_icne, wp_iconst, wp_il4, wp_il5, wp_iln1, wp_iln2, wp_iln3, wp_imul, wp_iret, wp_is4, wp_is5, wp_isn3, wp_isub, wp_izeq, wp_izne, wp_max, wp_min, wp_nop, wp_sipush, wp_zret, qrd_kd, qrd_gf0, qrd_pf0, qrd_gf2, qrd_pf2, qrd_gf3, qrd_pf3, wrI_row, cpI_row, row_s, row_n, row_ss, row_sw, upd_s, upd_n, ad_inj, ad_z, ad_z2, Nat.reduceEqDiff, reduceCtorEq, List.cons_append, List.nil_append, Option.toList_some, Option.toList_none, Int.toNat_natCast, List.length_cons, List.length_nil, Int.cast_ofNat_Int, Nat.reduceAdd, Nat.reduceLeDiff, Nat.reduceLT, Nat.reduceMul, Int.reduceAdd, Int.reduceSub, Int.reduceMul, Int.reduceNeg, Int.reduceLT, Int.reduceLE, Int.reduceEq, Int.reduceToNat, eq_self, true_and, and_true, true_or, or_true, false_or, or_false, if_true, if_false, not_true_eq_false, not_false_eq_true, and_self, ne_eq, b_R_readNumber_12, hA, gf_2_1 (qrd_kd hA) hx, hk, hl, hne2, h2, hdg, upd_u]
      (repeat' (first | apply And.intro | split)) <;> first | omega | exact i1
    · rw [b2_f e] at hdg
      rw [nuF_n (fun q => e (dgt_i.1 q.2))] at hn
      have k1 := fin1 p v hn
      rw [P_R_readNumber_12]
      simp only [m_R_readNumber, b_R_readNumber_0, P_R_readNumber_102, b_R_readNumber_102, P_R_readNumber_103, b_R_readNumber_103, P_R_readNumber_130, b_R_readNumber_130, P_R_readNumber_135, b_R_readNumber_135, wp_abs, wp_aln0, wp_bipush, wp_copy, wp_cs1, wp_cs2, wp_cs3, wp_cs4, wp_cs5, wp_cs6, wp_cs7, wp_cv1, wp_cv2, wp_cv3, wp_cv4, wp_cv5, wp_cv6, wp_cv7, wp_dup, wp_goto, wp_iadd, wp_iald, wp_iceq, wp_icge, wp_icle, wp_iclt, wp_icne, wp_iconst, wp_il4, wp_il5, wp_iln1, wp_iln2, wp_iln3, wp_imul, wp_iret, wp_is4, wp_is5, wp_isn3, wp_isub, wp_izeq, wp_izne, wp_max, wp_min, wp_nop, wp_sipush, wp_zret, qrd_kd, qrd_gf0, qrd_pf0, qrd_gf2, qrd_pf2, qrd_gf3, qrd_pf3, wrI_row, cpI_row, row_s, row_n, row_ss, row_sw, upd_s, upd_n, ad_inj, ad_z, ad_z2, Nat.reduceEqDiff, reduceCtorEq, List.cons_append, List.nil_append, Option.toList_some, Option.toList_none, Int.toNat_natCast, List.length_cons, List.length_nil, Int.cast_ofNat_Int, Nat.reduceAdd, Nat.reduceLeDiff, Nat.reduceLT, Nat.reduceMul, Int.reduceAdd, Int.reduceSub, Int.reduceMul, Int.reduceNeg, Int.reduceLT, Int.reduceLE, Int.reduceEq, Int.reduceToNat, eq_self, true_and, and_true, true_or, or_true, false_or, or_false, if_true, if_false, not_true_eq_false, not_false_eq_true, and_self, ne_eq, b_R_readNumber_12, hA, gf_2_1 (qrd_kd hA) hx, hk, hl, hne2, h2, hdg, upd_u]
      (repeat' (first | apply And.intro | split)) <;> first | omega | exact k1
theorem readNumber_ok (hA : isRd ρ r) (hx : ρ.1 r 1 = some tx) (hk : kdI ρ tx 0) (hl : lnA ρ tx = 120) (hne : ¬ tx = r) (hL : L ≤ 120) (hT : ∀ j, j < L → 0 ≤ g tx j ∧ g tx j ≤ 255) (h2 : g r 2 = L) {lo hi : Int} (hlo : -1000 ≤ lo ∧ lo ≤ 1000) (hhi : -1000 ≤ hi ∧ hi ≤ 1000) {p : Nat} (hp : p ≤ L) (h3 : g r 3 = p) {st : Nat} (hst : skp (g tx) L p = st) (Q : Option AV → Sto → Prop) : WpM zt 21 [AR r, AI lo, AI hi] (g, ρ) Q ↔ Q (some (AI (num (g tx) L st).2)) (if bad (g tx) L lo hi st = true then setRow g r (upd1 (upd1 (g r) 3 (num (g tx) L st).1) 0 st) else setRow g r (upd1 (g r) 3 (num (g tx) L st).1), ρ) := by
  refine wpm_iff (fun Q hQ => ?_) Q
  have hb := skF_b (T := g tx) (L := L) (L - p) p
  have hst2 : skF (g tx) L (L - p) p = st := hst
  rw [hst2] at hb
  have hsk := skipSpaces_ok (zt := zt) hA hx hk hl hne hL hT h2 hp h3
  rw [hst] at hsk
  have k1 := number_loop (zt := zt) hA hx hk hl hne hL hT h2 hlo hhi (st := st) (by omega) hQ (L - st) st 0 rfl (by omega) (by omega) rfl
  simp only [m_R_readNumber, b_R_readNumber_0, P_R_readNumber_102, b_R_readNumber_102, P_R_readNumber_103, b_R_readNumber_103, P_R_readNumber_130, b_R_readNumber_130, P_R_readNumber_135, b_R_readNumber_135, wp_abs, wp_aln0, wp_bipush, wp_copy, wp_cs1, wp_cs2, wp_cs3, wp_cs4, wp_cs5, wp_cs6, wp_cs7, wp_cv1, wp_cv2, wp_cv3, wp_cv4, wp_cv5, wp_cv6, wp_cv7, wp_dup, wp_goto, wp_iadd, wp_iald, wp_iceq, wp_icge, wp_icle, wp_iclt, wp_icne, wp_iconst, wp_il4, wp_il5, wp_iln1, wp_iln2, wp_iln3, wp_imul, wp_iret, wp_is4, wp_is5, wp_isn3, wp_isub, wp_izeq, wp_izne, wp_max, wp_min, wp_nop, wp_sipush, wp_zret, qrd_kd, qrd_gf0, qrd_pf0, qrd_gf2, qrd_pf2, qrd_gf3, qrd_pf3, wrI_row, cpI_row, row_s, row_n, row_ss, row_sw, upd_s, upd_n, ad_inj, ad_z, ad_z2, Nat.reduceEqDiff, reduceCtorEq, List.cons_append, List.nil_append, Option.toList_some, Option.toList_none, Int.toNat_natCast, List.length_cons, List.length_nil, Int.cast_ofNat_Int, Nat.reduceAdd, Nat.reduceLeDiff, Nat.reduceLT, Nat.reduceMul, Int.reduceAdd, Int.reduceSub, Int.reduceMul, Int.reduceNeg, Int.reduceLT, Int.reduceLE, Int.reduceEq, Int.reduceToNat, eq_self, true_and, and_true, true_or, or_true, false_or, or_false, if_true, if_false, not_true_eq_false, not_false_eq_true, and_self, ne_eq, hA, hsk]
  (repeat' (first | apply And.intro | split)) <;> first | omega | exact k1
end RDR
