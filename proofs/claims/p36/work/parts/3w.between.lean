/-! between -/
def pwV (a b d n : Int) : Int := a + ((b - a) * d).tdiv n
theorem mul_b9 {x d : Int} (hx : -9 ≤ x ∧ x ≤ 9) (hd : 0 ≤ d ∧ d ≤ 98) : -882 ≤ x * d ∧ x * d ≤ 882 := by
  rcases (by omega : x = -9 ∨ x = -8 ∨ x = -7 ∨ x = -6 ∨ x = -5 ∨ x = -4 ∨ x = -3 ∨ x = -2 ∨ x = -1 ∨ x = 0 ∨ x = 1 ∨ x = 2 ∨ x = 3 ∨ x = 4 ∨ x = 5 ∨ x = 6 ∨ x = 7 ∨ x = 8 ∨ x = 9) with rfl | rfl | rfl | rfl | rfl | rfl | rfl | rfl | rfl | rfl | rfl | rfl | rfl | rfl | rfl | rfl | rfl | rfl | rfl <;> omega
theorem tdiv_b {x n : Int} (hx : -882 ≤ x ∧ x ≤ 882) (hn : 0 < n) : -882 ≤ x.tdiv n ∧ x.tdiv n ≤ 882 := by
  have h1 : (x.tdiv n).natAbs = x.natAbs / n.natAbs := Int.natAbs_tdiv x n
  have h2 : x.natAbs / n.natAbs ≤ x.natAbs := Nat.div_le_self _ _
  omega
theorem pwV_b {a b d n : Int} (ha : 0 ≤ a ∧ a ≤ 9) (hb : 0 ≤ b ∧ b ≤ 9) (hd : 0 ≤ d ∧ d ≤ 98) (hn : 0 < n) : -1000 ≤ pwV a b d n ∧ pwV a b d n ≤ 1000 := by
  have h1 := mul_b9 (x := b - a) (by omega) hd
  have h2 := tdiv_b h1 hn
  unfold pwV
  omega
theorem aminP_eq {p p' : Nat → Bool} {f f' : Nat → Int} : ∀ n : Nat, (∀ j, j < n → p j = p' j ∧ f j = f' j) → aminP p f n = aminP p' f' n
  | 0, _ => rfl
  | n + 1, hf => by
    have h1 := aminP_eq n (fun j hj => hf j (by omega))
    have h2 := aminP_b (p := p') (f := f') n
    obtain ⟨h3, h4⟩ := hf n (by omega)
    simp only [aminP]
    rw [h1, h3, h4]
    by_cases e : aminP p' f' n = -1
    · rw [e]
      simp only [true_or]
    · have h5 := (hf (aminP p' f' n).toNat (by omega)).2
      rw [h5]
/-- the mouth nearest to o and w of those within reach of x -/
def nwU (U : Vw) (x : Nat) (o w : Int) : Nat := (if aminP (fun m => decide (jmpV U x m ≤ U 4 0)) (fun m => dstV U m o w) (U 0 0).toNat = -1 then (x : Int) else aminP (fun m => decide (jmpV U x m ≤ U 4 0)) (fun m => dstV U m o w) (U 0 0).toNat).toNat
theorem nwU_lt {U : Vw} (hU : WFV (-1) U) {x : Nat} (hx : (x : Int) < U 0 0) (o w : Int) : (nwU U x o w : Int) < U 0 0 := by
  have b0 := hU.1
  have h := aminP_b (p := fun m => decide (jmpV U x m ≤ U 4 0)) (f := fun m => dstV U m o w) (U 0 0).toNat
  unfold nwU
  split <;> omega
theorem nwU_eq {V U : Vw} (h : ∀ k j, k ≠ 10 → V k j = U k j) (x : Nat) (o w : Int) : nwU V x o w = nwU U x o w := by
  unfold nwU
  have e1 : ∀ m, jmpV V x m = jmpV U x m := fun m => by
    unfold jmpV dstV
    rw [h 1 _ (by decide), h 2 _ (by decide), h 1 _ (by decide), h 2 _ (by decide)]
  have e2 : ∀ m, dstV V m o w = dstV U m o w := fun m => by
    unfold dstV
    rw [h 1 _ (by decide), h 2 _ (by decide)]
  simp only [e1, e2, h 4 _ (by decide), h 0 _ (by decide)]
/-- the inbetweens from a mouth s to a mouth e, n frames apart, one after another -/
def btM (U : Vw) (s e : Nat) (n : Int) : Nat → Nat
  | 0 => s
  | i + 1 => nwU U (btM U s e n i) (pwV (U 1 s) (U 1 e) ((i : Int) + 1) n) (pwV (U 2 s) (U 2 e) ((i : Int) + 1) n)
theorem btM_lt {U : Vw} (hU : WFV (-1) U) {s e : Nat} (hs : (s : Int) < U 0 0) (n : Int) : ∀ i : Nat, (btM U s e n i : Int) < U 0 0
  | 0 => hs
  | i + 1 => nwU_lt hU (btM_lt hU hs n i) _ _
/-- the view with the inbetweens behind f and ahead of t -/
def btU (U : Vw) (s e : Nat) (n : Int) (f t : Nat) : Vw := fun k j => if k = 10 ∧ f < j ∧ j < t then ((btM U s e n (j - f) : Nat) : Int) else U k j
theorem btU_n {U : Vw} {s e : Nat} {n : Int} {f t k j : Nat} (h : k ≠ 10) : btU U s e n f t k j = U k j := if_neg (fun q => h q.1)
theorem btU_0 {U : Vw} {s e : Nat} {n : Int} {f : Nat} : btU U s e n f (f + 1) = U := by
  funext k j
  unfold btU
  rw [if_neg (by omega)]
theorem btU_st {U : Vw} {s e : Nat} {n : Int} {f t : Nat} (h : f < t) : setV (btU U s e n f t) 10 t ((btM U s e n (t - f) : Nat) : Int) = btU U s e n f (t + 1) := by
  funext k j
  unfold setV btU
  by_cases h1 : k = 10 ∧ j = t
  · rw [if_pos h1, if_pos (by omega), h1.2]
  · rw [if_neg h1]
    by_cases h2 : k = 10 ∧ f < j ∧ j < t
    · rw [if_pos h2, if_pos (by omega)]
    · rw [if_neg h2, if_neg (by omega)]
theorem btU_wf {U : Vw} (hU : WFV (-1) U) {s e : Nat} (hs : (s : Int) < U 0 0) {n : Int} {f t : Nat} : WFV (-1) (btU U s e n f t) := by
  have hb := btM_lt (e := e) hU hs n
  obtain ⟨w1, w2, w3, w4, w5, w6, w7, w8, w9⟩ := hU
  have z : ∀ k j, k ≠ 10 → btU U s e n f t k j = U k j := fun k j q => btU_n q
  unfold WFV
  rw [sumL_eq7 (U := U) (fun j => z 7 j (by decide))]
  simp only [z, ne_eq, Nat.reduceEqDiff, not_false_eq_true]
  refine ⟨w1, w2, w3, w4, w5, w6, w7, w8, fun j hj => ⟨(w9 j hj).1, ?_⟩⟩
  unfold btU
  split
  · have := hb (j - f)
    omega
  · exact (w9 j hj).2
def sBetween (f l : Int) (X : XV) : Int × XV := if (0 ≤ f ∧ f < X.1.1 8 0) ∧ (0 ≤ l ∧ l < X.1.1 8 0) ∧ f < l then (if X.1.1 10 f.toNat = -1 ∨ X.1.1 10 l.toNat = -1 then (-2, X) else (jmpV X.1.1 (btM X.1.1 (X.1.1 10 f.toNat).toNat (X.1.1 10 l.toNat).toNat (l - f) (l.toNat - 1 - f.toNat)) (X.1.1 10 l.toNat).toNat, actX X (btU X.1.1 (X.1.1 10 f.toNat).toNat (X.1.1 10 l.toNat).toNat (l - f) f.toNat l.toNat))) else (-1, X)
theorem sBetween_wf {f l : Int} {X : XV} (hW : WFX X) : WFX (sBetween f l X).2 := by
  unfold sBetween
  split
  next c =>
    split
    · exact hW
    next c2 =>
      have b := (hW.1.1.2.2.2.2.2.2.2.2 f.toNat (by omega)).2
      exact actX_wf hW (btU_wf hW.1.1 (by omega))
  next c => exact hW
section BTW
variable {zt : Nat → Nat} {g : Nat → Nat → Int} {ρ : Ri} {a : Nat} {U : Vw}
theorem partWay_ok {x y d n : Int} (hx : 0 ≤ x ∧ x ≤ 9) (hy : 0 ≤ y ∧ y ≤ 9) (hd : 0 ≤ d ∧ d ≤ 98) (hn : 0 < n ∧ n ≤ 98) (Q : Option AV → Sto → Prop) : WpM zt 83 [AI x, AI y, AI d, AI n] (g, ρ) Q ↔ Q (some (AI (pwV x y d n))) (g, ρ) := by
  refine wpm_iff (fun Q hQ => ?_) Q
  have h1 := mul_b9 (x := y - x) (by omega) hd
  unfold pwV at hQ
  simp only [m_L_partWay, b_L_partWay_0, P_L_partWay_16, b_L_partWay_16, P_L_partWay_17, b_L_partWay_17, wp_goto, wp_iadd, wp_idiv, wp_iln0, wp_iln1, wp_iln2, wp_iln3, wp_imul, wp_iret, wp_isub, wp_izle, wp_nop, wp_zret, wrI_row, cpI_row, row_s, row_n, row_ss, row_sw, upd_s, upd_n, ad_inj, ad_z, ad_z2, Nat.reduceEqDiff, reduceCtorEq, List.cons_append, List.nil_append, Option.toList_some, Option.toList_none, Int.toNat_natCast, List.length_cons, List.length_nil, Int.cast_ofNat_Int, Nat.reduceAdd, Nat.reduceLeDiff, Nat.reduceLT, Nat.reduceMul, Int.reduceAdd, Int.reduceSub, Int.reduceMul, Int.reduceNeg, Int.reduceLT, Int.reduceLE, Int.reduceEq, Int.reduceToNat, eq_self, true_and, and_true, true_or, or_true, false_or, or_false, if_true, if_false, not_true_eq_false, not_false_eq_true, and_self, ne_eq]
  (repeat' (first | apply And.intro | split)) <;> first | omega | exact hQ
theorem nearestWithin_U (hS : isSc ρ a) (hR : LR (-99) (vwC g a) U) (hU : WFV (-1) U) {x : Nat} (hx : (x : Int) < U 0 0) {o w : Int} (ho : -1000 ≤ o ∧ o ≤ 1000) (hw : -1000 ≤ w ∧ w ≤ 1000) (Q : Option AV → Sto → Prop) : WpM zt 34 [AR a, AI x, AI o, AI w] (g, ρ) Q ↔ Q (some (AI (nwU U x o w : Nat))) (g, ρ) := by
  have hWV := hR.wf (by omega) hU
  have e0 : g a 0 = U 0 0 := hR.l0
  have n0 : g (ad a 4) 0 = U 4 0 := hR.l4 (by omega)
  have b0 := hU.1
  rw [nearestWithin_ok hS hWV (show 0 ≤ (x : Int) by omega) (by omega) ho hw, e0, n0, Int.toNat_natCast]
  have e := aminP_eq (p := fun m => decide (jmpV (vwC g a) x m ≤ U 4 0)) (p' := fun m => decide (jmpV U x m ≤ U 4 0)) (f := fun m => dstV (vwC g a) m o w) (f' := fun m => dstV U m o w) (U 0 0).toNat (fun j hj => ⟨by rw [hR.jmp hx (by omega)], hR.dst (by omega)⟩)
  rw [e]
  have h := aminP_b (p := fun m => decide (jmpV U x m ≤ U 4 0)) (f := fun m => dstV U m o w) (U 0 0).toNat
  have e2 : ((nwU U x o w : Nat) : Int) = if aminP (fun m => decide (jmpV U x m ≤ U 4 0)) (fun m => dstV U m o w) (U 0 0).toNat = -1 then (x : Int) else aminP (fun m => decide (jmpV U x m ≤ U 4 0)) (fun m => dstV U m o w) (U 0 0).toNat := by
    unfold nwU
    split <;> omega
  rw [e2]
theorem between_loop {L : Nat} (hS : isSc ρ a) (hU : WFV (-1) U) {f l s e : Nat} (hfl : f < l) (hl : (l : Int) < U 8 0) (hs : (s : Int) < U 0 0) (he : (e : Int) < U 0 0) {Q : Option AV → Sto → Prop} (hQ : ∀ g1 : Nat → Nat → Int, LR (-99) (vwC g1 a) (btU U s e ((l : Int) - f) f l) → (∀ x, (x < a ∨ a + 9 ≤ x) → g1 x = g x) → Q (some (AI (jmpV U (btM U s e ((l : Int) - f) (l - 1 - f)) e))) (g1, ρ)) :
    ∀ (d t : Nat) (g1 : Nat → Nat → Int) (o8 o9 : Option AV), t + d = l → f < t → LR (-99) (vwC g1 a) (btU U s e ((l : Int) - f) f t) → (∀ x, (x < a ∨ a + 9 ≤ x) → g1 x = g x) → Wp zt 58 (P 58 81) [some (AR L), some (AI f), some (AI l), some (AR a), some (AI s), some (AI e), some (AI (btM U s e ((l : Int) - f) (t - 1 - f) : Nat)), some (AI t), o8, o9] [] (g1, ρ) Q := by
  have b8 := hU.2.2.2.2.2.2.1
  have b0 := hU.1
  have hzn : ∀ t k j, k ≠ 10 → btU U s e ((l : Int) - f) f t k j = U k j := fun t k j z => btU_n z
  have hb := btM_lt (e := e) hU hs ((l : Int) - f)
  intro d
  induction d with
  | zero =>
    intro t g1 o8 o9 ht hf hR hfr
    have et : t = l := by omega
    subst et
    have q := hQ g1 hR hfr
    have hU' := btU_wf (e := e) (n := (t : Int) - f) (f := f) (t := t) hU hs
    have hWV := hR.wf (by omega) hU'
    have e0 : g1 a 0 = U 0 0 := hR.l0.trans (hzn _ 0 0 (by decide))
    have hj := jumpOf_ok (zt := zt) (ρ := ρ) hS hWV (x := (btM U s e ((t : Int) - f) (t - 1 - f) : Nat)) (y := e) (by omega) (by have := hb (t - 1 - f); omega) (by omega) (by omega)
    rw [hR.jmp (by rw [hzn _ 0 0 (by decide)]; have := hb (t - 1 - f); omega) (by rw [hzn _ 0 0 (by decide)]; omega), Int.toNat_natCast, Int.toNat_natCast] at hj
    have ej : jmpV (btU U s e ((t : Int) - f) f t) (btM U s e ((t : Int) - f) (t - 1 - f)) e = jmpV U (btM U s e ((t : Int) - f) (t - 1 - f)) e := by
      unfold jmpV dstV
      rw [hzn _ 1 _ (by decide), hzn _ 1 _ (by decide), hzn _ 2 _ (by decide), hzn _ 2 _ (by decide)]
    rw [ej] at hj
    rw [P_L_between_81]
    simp only [m_L_between, b_L_between_0, P_L_between_29, b_L_between_29, P_L_between_31, b_L_between_31, P_L_between_65, b_L_between_65, P_L_between_68, b_L_between_68, P_L_between_166, b_L_between_166, wp_abs, wp_aln0, wp_aln3, wp_asn3, wp_bipush, wp_copy, wp_cs1, wp_cs2, wp_cs3, wp_cs4, wp_cs5, wp_cs6, wp_cs7, wp_cv1, wp_cv2, wp_cv3, wp_cv4, wp_cv5, wp_cv6, wp_cv7, wp_goto, wp_iadd, wp_iald, wp_iast, wp_icge, wp_icgt, wp_iconst, wp_il4, wp_il5, wp_il6, wp_il7, wp_il8, wp_il9, wp_iln1, wp_iln2, wp_inc7, wp_iret, wp_is4, wp_is5, wp_is6, wp_is7, wp_is8, wp_is9, wp_isub, wp_izeq, wp_izne, wp_max, wp_min, wp_nop, wp_zret, qsc_kd, qsc_k1, qsc_l1, qsc_gf1, qsc_k2, qsc_l2, qsc_gf2, qsc_k3, qsc_l3, qsc_gf3, qsc_k4, qsc_l4, qsc_gf4, qsc_k5, qsc_l5, qsc_gf6, qsc_k6, qsc_l6, qsc_gf7, qsc_k7, qsc_l7, qsc_gf9, qsc_k8, qsc_l8, qsc_gf10, qsc_gf0, qsc_pf0, qsc_gf5, qsc_pf5, qsc_gf8, qsc_pf8, wrI_row, cpI_row, row_s, row_n, row_ss, row_sw, upd_s, upd_n, ad_inj, ad_z, ad_z2, Nat.reduceEqDiff, reduceCtorEq, List.cons_append, List.nil_append, Option.toList_some, Option.toList_none, Int.toNat_natCast, List.length_cons, List.length_nil, Int.cast_ofNat_Int, Nat.reduceAdd, Nat.reduceLeDiff, Nat.reduceLT, Nat.reduceMul, Int.reduceAdd, Int.reduceSub, Int.reduceMul, Int.reduceNeg, Int.reduceLT, Int.reduceLE, Int.reduceEq, Int.reduceToNat, eq_self, true_and, and_true, true_or, or_true, false_or, or_false, if_true, if_false, not_true_eq_false, not_false_eq_true, and_self, ne_eq, b_L_between_81, hS, hj]
    (repeat' (first | apply And.intro | split)) <;> first | omega | exact q
  | succ d ih =>
    intro t g1 o8 o9 ht hf hR hfr
    have hU' := btU_wf (e := e) (n := (l : Int) - f) (f := f) (t := t) hU hs
    have os : g1 (ad a 1) s = U 1 s := (hR.l1 (j := s) (by rw [hzn _ 0 0 (by decide)]; exact hs)).trans (hzn _ 1 _ (by decide))
    have oe : g1 (ad a 1) e = U 1 e := (hR.l1 (j := e) (by rw [hzn _ 0 0 (by decide)]; exact he)).trans (hzn _ 1 _ (by decide))
    have ws : g1 (ad a 2) s = U 2 s := (hR.l2 (j := s) (by rw [hzn _ 0 0 (by decide)]; exact hs)).trans (hzn _ 2 _ (by decide))
    have we : g1 (ad a 2) e = U 2 e := (hR.l2 (j := e) (by rw [hzn _ 0 0 (by decide)]; exact he)).trans (hzn _ 2 _ (by decide))
    have bs := hU.2.1 s hs
    have be := hU.2.1 e he
    have p1 := fun Q => partWay_ok (zt := zt) (g := g1) (ρ := ρ) (x := U 1 s) (y := U 1 e) (d := (t : Int) - f) (n := (l : Int) - f) bs.1 be.1 (by omega) (by omega) Q
    have p2 := fun Q => partWay_ok (zt := zt) (g := g1) (ρ := ρ) (x := U 2 s) (y := U 2 e) (d := (t : Int) - f) (n := (l : Int) - f) bs.2 be.2 (by omega) (by omega) Q
    have pb1 := pwV_b (d := (t : Int) - f) (n := (l : Int) - f) bs.1 be.1 (by omega) (by omega)
    have pb2 := pwV_b (d := (t : Int) - f) (n := (l : Int) - f) bs.2 be.2 (by omega) (by omega)
    have hx := hb (t - 1 - f)
    have hnw := nearestWithin_U (zt := zt) hS hR hU' (x := btM U s e ((l : Int) - f) (t - 1 - f)) (by rw [hzn _ 0 0 (by decide)]; exact hx) pb1 pb2
    rw [nwU_eq (fun k j z => hzn t k j z)] at hnw
    have est : nwU U (btM U s e ((l : Int) - f) (t - 1 - f)) (pwV (U 1 s) (U 1 e) ((t : Int) - f) ((l : Int) - f)) (pwV (U 2 s) (U 2 e) ((t : Int) - f) ((l : Int) - f)) = btM U s e ((l : Int) - f) (t - f) := by
      rw [show t - f = (t - 1 - f) + 1 by omega]
      simp only [btM]
      rw [show (((t - 1 - f : Nat) : Int) + 1) = (t : Int) - f by omega]
    rw [est] at hnw
    have i1 := ih (t + 1) (setRow g1 (ad a 8) (upd1 (g1 (ad a 8)) t (btM U s e ((l : Int) - f) (t - f) : Nat))) (some (AI (pwV (U 1 s) (U 1 e) ((t : Int) - f) ((l : Int) - f)))) (some (AI (pwV (U 2 s) (U 2 e) ((t : Int) - f) ((l : Int) - f)))) (by omega) (by omega) (by
      rw [← btU_st hf]
      refine lr_setp hR (Or.inr rfl) (fun k' j' z1 z2 => by rw [vw_p (kk := 10) (by omega) z1, if_neg z2]) ?_
      rw [vw_p (kk := 10) (by omega) (by omega), if_pos ⟨rfl, rfl⟩]
      unfold nn
      rw [if_neg (by omega)]) (fun x z => by
      rw [row_n (by unfold ad; omega)]
      exact hfr x z)
    rw [show t + 1 - 1 - f = t - f by omega] at i1
    rw [P_L_between_81]
    simp only [m_L_between, b_L_between_0, P_L_between_29, b_L_between_29, P_L_between_31, b_L_between_31, P_L_between_65, b_L_between_65, P_L_between_68, b_L_between_68, P_L_between_166, b_L_between_166, wp_abs, wp_aln0, wp_aln3, wp_asn3, wp_bipush, wp_copy, wp_cs1, wp_cs2, wp_cs3, wp_cs4, wp_cs5, wp_cs6, wp_cs7, wp_cv1, wp_cv2, wp_cv3, wp_cv4, wp_cv5, wp_cv6, wp_cv7, wp_goto, wp_iadd, wp_iald, wp_iast, wp_icge, wp_icgt, wp_iconst, wp_il4, wp_il5, wp_il6, wp_il7, wp_il8, wp_il9, wp_iln1, wp_iln2, wp_inc7, wp_iret, wp_is4, wp_is5, wp_is6, wp_is7, wp_is8, wp_is9, wp_isub, wp_izeq, wp_izne, wp_max, wp_min, wp_nop, wp_zret, qsc_kd, qsc_k1, qsc_l1, qsc_gf1, qsc_k2, qsc_l2, qsc_gf2, qsc_k3, qsc_l3, qsc_gf3, qsc_k4, qsc_l4, qsc_gf4, qsc_k5, qsc_l5, qsc_gf6, qsc_k6, qsc_l6, qsc_gf7, qsc_k7, qsc_l7, qsc_gf9, qsc_k8, qsc_l8, qsc_gf10, qsc_gf0, qsc_pf0, qsc_gf5, qsc_pf5, qsc_gf8, qsc_pf8, wrI_row, cpI_row, row_s, row_n, row_ss, row_sw, upd_s, upd_n, ad_inj, ad_z, ad_z2, Nat.reduceEqDiff, reduceCtorEq, List.cons_append, List.nil_append, Option.toList_some, Option.toList_none, Int.toNat_natCast, List.length_cons, List.length_nil, Int.cast_ofNat_Int, Nat.reduceAdd, Nat.reduceLeDiff, Nat.reduceLT, Nat.reduceMul, Int.reduceAdd, Int.reduceSub, Int.reduceMul, Int.reduceNeg, Int.reduceLT, Int.reduceLE, Int.reduceEq, Int.reduceToNat, eq_self, true_and, and_true, true_or, or_true, false_or, or_false, if_true, if_false, not_true_eq_false, not_false_eq_true, and_self, ne_eq, b_L_between_81, hS, os, oe, ws, we, p1, p2, hnw]
    (repeat' (first | apply And.intro | split)) <;> first | omega | exact i1
end BTW
section BTC
variable {zt : Nat → Nat} {g : Nat → Nat → Int} {ρ : Ri} {L : Nat} {h : Nat → Nat} {X : XV} {Q : Option AV → Sto → Prop}
theorem c_between (hX : RepC g ρ L h X) (hW : WFX X) {f l : Int} (hf : i32 f) (hl : i32 l) (hQ : CQ g ρ L (sBetween f l X) Q) : WpM zt 58 [AR L, AI f, AI l] (g, ρ) Q := by
  obtain ⟨hLf, hN, -⟩ := id hX.1
  obtain ⟨hR, -⟩ := id hX.2.1
  have hU := hW.1.1
  have hWV := hR.wf (by omega) hU
  have hN1 := hN.1
  have hS := hN.2.1
  have e0 : g (ad (ad L 1) 1) 0 = X.1.1 0 0 := hR.l0
  have e5 : g (ad (ad L 1) 1) 5 = X.1.1 5 0 := hR.l5
  have e8 : g (ad (ad L 1) 1) 8 = X.1.1 8 0 := hR.l8
  have b0 := hU.1
  have b5 := hU.2.2.2.2.1
  have b8 := hU.2.2.2.2.2.2.1
  obtain ⟨fa, fb⟩ := id hf
  obtain ⟨la, lb⟩ := id hl
  unfold sBetween at hQ
  have hm1 := hasFrame_ok (zt := zt) (ρ := ρ) hS hWV (m := f) hf.1 hf.2
  have hm2 := hasFrame_ok (zt := zt) (ρ := ρ) hS hWV (m := l) hl.1 hl.2
  rw [e8] at hm1 hm2
  by_cases c1 : 0 ≤ f ∧ f < X.1.1 8 0
  · rw [b2_t c1] at hm1
    by_cases c2 : 0 ≤ l ∧ l < X.1.1 8 0
    · rw [b2_t c2] at hm2
      by_cases c3 : f < l
      · rw [if_pos ⟨c1, c2, c3⟩] at hQ
        obtain ⟨F, rfl⟩ := Int.eq_ofNat_of_zero_le c1.1
        obtain ⟨G, rfl⟩ := Int.eq_ofNat_of_zero_le c2.1
        rw [Int.toNat_natCast, Int.toNat_natCast] at hQ
        have r1 : g (ad (ad (ad L 1) 1) 8) F = nn (-99) (X.1.1 10 F) := hR.l10 c1.2
        have r2 : g (ad (ad (ad L 1) 1) 8) G = nn (-99) (X.1.1 10 G) := hR.l10 c2.2
        have v1 := (hU.2.2.2.2.2.2.2.2 F c1.2).2
        have v2 := (hU.2.2.2.2.2.2.2.2 G c2.2).2
        have hmn := hasMouth_ok (zt := zt) (ρ := ρ) hS hWV (m := -99) (by omega) (by omega)
        rw [b2_f (by omega)] at hmn
        by_cases c4 : X.1.1 10 F = -1
        · rw [if_pos (Or.inl c4)] at hQ
          rw [show nn (-99) (X.1.1 10 F) = -99 from if_pos c4] at r1
          have q := hQ.ro hX
          simp only [m_L_between, b_L_between_0, P_L_between_29, b_L_between_29, P_L_between_31, b_L_between_31, P_L_between_65, b_L_between_65, P_L_between_68, b_L_between_68, P_L_between_166, b_L_between_166, wp_abs, wp_aln0, wp_aln3, wp_asn3, wp_bipush, wp_copy, wp_cs1, wp_cs2, wp_cs3, wp_cs4, wp_cs5, wp_cs6, wp_cs7, wp_cv1, wp_cv2, wp_cv3, wp_cv4, wp_cv5, wp_cv6, wp_cv7, wp_goto, wp_iadd, wp_iald, wp_iast, wp_icge, wp_icgt, wp_iconst, wp_il4, wp_il5, wp_il6, wp_il7, wp_il8, wp_il9, wp_iln1, wp_iln2, wp_inc7, wp_iret, wp_is4, wp_is5, wp_is6, wp_is7, wp_is8, wp_is9, wp_isub, wp_izeq, wp_izne, wp_max, wp_min, wp_nop, wp_zret, qsc_kd, qsc_k1, qsc_l1, qsc_gf1, qsc_k2, qsc_l2, qsc_gf2, qsc_k3, qsc_l3, qsc_gf3, qsc_k4, qsc_l4, qsc_gf4, qsc_k5, qsc_l5, qsc_gf6, qsc_k6, qsc_l6, qsc_gf7, qsc_k7, qsc_l7, qsc_gf9, qsc_k8, qsc_l8, qsc_gf10, qsc_gf0, qsc_pf0, qsc_gf5, qsc_pf5, qsc_gf8, qsc_pf8, qst_kd, qst_gf0, qst_k10, qst_l10, qst_gf1, qst_k29, qst_l29, qst_gf2, qlf_kd, qlf_gf0, qlf_k31, qlf_l31, qlf_gf1, qlf_gf3, qlf_gf4, qlf_gf5, qlf_gf6, qlf_k203, qlf_l203, qlf_gf7, qlf_gf2, qlf_pf2, qlf_gf8, qlf_pf8, wrI_row, cpI_row, row_s, row_n, row_ss, row_sw, upd_s, upd_n, ad_inj, ad_z, ad_z2, Nat.reduceEqDiff, reduceCtorEq, List.cons_append, List.nil_append, Option.toList_some, Option.toList_none, Int.toNat_natCast, List.length_cons, List.length_nil, Int.cast_ofNat_Int, Nat.reduceAdd, Nat.reduceLeDiff, Nat.reduceLT, Nat.reduceMul, Int.reduceAdd, Int.reduceSub, Int.reduceMul, Int.reduceNeg, Int.reduceLT, Int.reduceLE, Int.reduceEq, Int.reduceToNat, eq_self, true_and, and_true, true_or, or_true, false_or, or_false, if_true, if_false, not_true_eq_false, not_false_eq_true, and_self, ne_eq, hLf, hN1, hS, hm1, hm2, r1, hmn]
          (repeat' (first | apply And.intro | split)) <;> first | omega | exact q
        · rw [show nn (-99) (X.1.1 10 F) = X.1.1 10 F from if_neg c4] at r1
          have hmf := hasMouth_ok (zt := zt) (ρ := ρ) hS hWV (m := X.1.1 10 F) (by omega) (by omega)
          rw [e0, b2_t (by omega)] at hmf
          by_cases c5 : X.1.1 10 G = -1
          · rw [if_pos (Or.inr c5)] at hQ
            rw [show nn (-99) (X.1.1 10 G) = -99 from if_pos c5] at r2
            have q := hQ.ro hX
            simp only [m_L_between, b_L_between_0, P_L_between_29, b_L_between_29, P_L_between_31, b_L_between_31, P_L_between_65, b_L_between_65, P_L_between_68, b_L_between_68, P_L_between_166, b_L_between_166, wp_abs, wp_aln0, wp_aln3, wp_asn3, wp_bipush, wp_copy, wp_cs1, wp_cs2, wp_cs3, wp_cs4, wp_cs5, wp_cs6, wp_cs7, wp_cv1, wp_cv2, wp_cv3, wp_cv4, wp_cv5, wp_cv6, wp_cv7, wp_goto, wp_iadd, wp_iald, wp_iast, wp_icge, wp_icgt, wp_iconst, wp_il4, wp_il5, wp_il6, wp_il7, wp_il8, wp_il9, wp_iln1, wp_iln2, wp_inc7, wp_iret, wp_is4, wp_is5, wp_is6, wp_is7, wp_is8, wp_is9, wp_isub, wp_izeq, wp_izne, wp_max, wp_min, wp_nop, wp_zret, qsc_kd, qsc_k1, qsc_l1, qsc_gf1, qsc_k2, qsc_l2, qsc_gf2, qsc_k3, qsc_l3, qsc_gf3, qsc_k4, qsc_l4, qsc_gf4, qsc_k5, qsc_l5, qsc_gf6, qsc_k6, qsc_l6, qsc_gf7, qsc_k7, qsc_l7, qsc_gf9, qsc_k8, qsc_l8, qsc_gf10, qsc_gf0, qsc_pf0, qsc_gf5, qsc_pf5, qsc_gf8, qsc_pf8, qst_kd, qst_gf0, qst_k10, qst_l10, qst_gf1, qst_k29, qst_l29, qst_gf2, qlf_kd, qlf_gf0, qlf_k31, qlf_l31, qlf_gf1, qlf_gf3, qlf_gf4, qlf_gf5, qlf_gf6, qlf_k203, qlf_l203, qlf_gf7, qlf_gf2, qlf_pf2, qlf_gf8, qlf_pf8, wrI_row, cpI_row, row_s, row_n, row_ss, row_sw, upd_s, upd_n, ad_inj, ad_z, ad_z2, Nat.reduceEqDiff, reduceCtorEq, List.cons_append, List.nil_append, Option.toList_some, Option.toList_none, Int.toNat_natCast, List.length_cons, List.length_nil, Int.cast_ofNat_Int, Nat.reduceAdd, Nat.reduceLeDiff, Nat.reduceLT, Nat.reduceMul, Int.reduceAdd, Int.reduceSub, Int.reduceMul, Int.reduceNeg, Int.reduceLT, Int.reduceLE, Int.reduceEq, Int.reduceToNat, eq_self, true_and, and_true, true_or, or_true, false_or, or_false, if_true, if_false, not_true_eq_false, not_false_eq_true, and_self, ne_eq, hLf, hN1, hS, hm1, hm2, r1, r2, hmn, hmf]
            (repeat' (first | apply And.intro | split)) <;> first | omega | exact q
          · rw [if_neg (fun z => z.elim c4 c5)] at hQ
            rw [show nn (-99) (X.1.1 10 G) = X.1.1 10 G from if_neg c5] at r2
            have hmg := hasMouth_ok (zt := zt) (ρ := ρ) hS hWV (m := X.1.1 10 G) (by omega) (by omega)
            rw [e0, b2_t (by omega)] at hmg
            have es : ((X.1.1 10 F).toNat : Int) = X.1.1 10 F := by omega
            have ee : ((X.1.1 10 G).toNat : Int) = X.1.1 10 G := by omega
            simp only [m_L_between, b_L_between_0, P_L_between_29, b_L_between_29, P_L_between_31, b_L_between_31, P_L_between_65, b_L_between_65, P_L_between_68, b_L_between_68, P_L_between_166, b_L_between_166, wp_abs, wp_aln0, wp_aln3, wp_asn3, wp_bipush, wp_copy, wp_cs1, wp_cs2, wp_cs3, wp_cs4, wp_cs5, wp_cs6, wp_cs7, wp_cv1, wp_cv2, wp_cv3, wp_cv4, wp_cv5, wp_cv6, wp_cv7, wp_goto, wp_iadd, wp_iald, wp_iast, wp_icge, wp_icgt, wp_iconst, wp_il4, wp_il5, wp_il6, wp_il7, wp_il8, wp_il9, wp_iln1, wp_iln2, wp_inc7, wp_iret, wp_is4, wp_is5, wp_is6, wp_is7, wp_is8, wp_is9, wp_isub, wp_izeq, wp_izne, wp_max, wp_min, wp_nop, wp_zret, qsc_kd, qsc_k1, qsc_l1, qsc_gf1, qsc_k2, qsc_l2, qsc_gf2, qsc_k3, qsc_l3, qsc_gf3, qsc_k4, qsc_l4, qsc_gf4, qsc_k5, qsc_l5, qsc_gf6, qsc_k6, qsc_l6, qsc_gf7, qsc_k7, qsc_l7, qsc_gf9, qsc_k8, qsc_l8, qsc_gf10, qsc_gf0, qsc_pf0, qsc_gf5, qsc_pf5, qsc_gf8, qsc_pf8, qst_kd, qst_gf0, qst_k10, qst_l10, qst_gf1, qst_k29, qst_l29, qst_gf2, qlf_kd, qlf_gf0, qlf_k31, qlf_l31, qlf_gf1, qlf_gf3, qlf_gf4, qlf_gf5, qlf_gf6, qlf_k203, qlf_l203, qlf_gf7, qlf_gf2, qlf_pf2, qlf_gf8, qlf_pf8, wrI_row, cpI_row, row_s, row_n, row_ss, row_sw, upd_s, upd_n, ad_inj, ad_z, ad_z2, Nat.reduceEqDiff, reduceCtorEq, List.cons_append, List.nil_append, Option.toList_some, Option.toList_none, Int.toNat_natCast, List.length_cons, List.length_nil, Int.cast_ofNat_Int, Nat.reduceAdd, Nat.reduceLeDiff, Nat.reduceLT, Nat.reduceMul, Int.reduceAdd, Int.reduceSub, Int.reduceMul, Int.reduceNeg, Int.reduceLT, Int.reduceLE, Int.reduceEq, Int.reduceToNat, eq_self, true_and, and_true, true_or, or_true, false_or, or_false, if_true, if_false, not_true_eq_false, not_false_eq_true, and_self, ne_eq, hLf, hN1, hS, hm1, hm2, r1, r2, hmf, hmg]
            (repeat' (first | apply And.intro | split)) <;> first | omega | skip
            refine recordState_ok hX hW (fun g' ρ' h' j1 j2 j3 j4 => ?_)
            have hS' := j1.1.2.1.2.1
            have hR' : LR (-99) (vwC g' (ad (ad L 1) 1)) X.1.1 := j1.2.1.1
            have k1 := between_loop (zt := zt) (L := L) (g := g') hS' hU (f := F) (l := G) (s := (X.1.1 10 F).toNat) (e := (X.1.1 10 G).toNat) (Q := Q) (by omega) c2.2 (by omega) (by omega) (fun g1 y1 y2 => hQ g1 ρ' h' (j1.now hW y1 (fun x z => y2 x (by unfold ad at *; omega))) (Fr.of j2 j3 j4 (fun x z => y2 x (by unfold ad at *; omega)))) (G - (F + 1)) (F + 1) g' none none (by omega) (by omega) (by rw [btU_0]; exact hR') (fun _ _ => rfl)
            rw [show F + 1 - 1 - F = 0 by omega] at k1
            simp only [btM] at k1
            rw [es, ee] at k1
            simp only [m_L_between, b_L_between_0, P_L_between_29, b_L_between_29, P_L_between_31, b_L_between_31, P_L_between_65, b_L_between_65, P_L_between_68, b_L_between_68, P_L_between_166, b_L_between_166, wp_abs, wp_aln0, wp_aln3, wp_asn3, wp_bipush, wp_copy, wp_cs1, wp_cs2, wp_cs3, wp_cs4, wp_cs5, wp_cs6, wp_cs7, wp_cv1, wp_cv2, wp_cv3, wp_cv4, wp_cv5, wp_cv6, wp_cv7, wp_goto, wp_iadd, wp_iald, wp_iast, wp_icge, wp_icgt, wp_iconst, wp_il4, wp_il5, wp_il6, wp_il7, wp_il8, wp_il9, wp_iln1, wp_iln2, wp_inc7, wp_iret, wp_is4, wp_is5, wp_is6, wp_is7, wp_is8, wp_is9, wp_isub, wp_izeq, wp_izne, wp_max, wp_min, wp_nop, wp_zret, qlf_kd, qlf_gf0, qlf_k31, qlf_l31, qlf_gf1, qlf_gf3, qlf_gf4, qlf_gf5, qlf_gf6, qlf_k203, qlf_l203, qlf_gf7, qlf_gf2, qlf_pf2, qlf_gf8, qlf_pf8, wrI_row, cpI_row, row_s, row_n, row_ss, row_sw, upd_s, upd_n, ad_inj, ad_z, ad_z2, Nat.reduceEqDiff, reduceCtorEq, List.cons_append, List.nil_append, Option.toList_some, Option.toList_none, Int.toNat_natCast, List.length_cons, List.length_nil, Int.cast_ofNat_Int, Nat.reduceAdd, Nat.reduceLeDiff, Nat.reduceLT, Nat.reduceMul, Int.reduceAdd, Int.reduceSub, Int.reduceMul, Int.reduceNeg, Int.reduceLT, Int.reduceLE, Int.reduceEq, Int.reduceToNat, eq_self, true_and, and_true, true_or, or_true, false_or, or_false, if_true, if_false, not_true_eq_false, not_false_eq_true, and_self, ne_eq]
            exact k1
      · rw [if_neg (fun z => c3 z.2.2)] at hQ
        have q := hQ.ro hX
        simp only [m_L_between, b_L_between_0, P_L_between_29, b_L_between_29, P_L_between_31, b_L_between_31, P_L_between_65, b_L_between_65, P_L_between_68, b_L_between_68, P_L_between_166, b_L_between_166, wp_abs, wp_aln0, wp_aln3, wp_asn3, wp_bipush, wp_copy, wp_cs1, wp_cs2, wp_cs3, wp_cs4, wp_cs5, wp_cs6, wp_cs7, wp_cv1, wp_cv2, wp_cv3, wp_cv4, wp_cv5, wp_cv6, wp_cv7, wp_goto, wp_iadd, wp_iald, wp_iast, wp_icge, wp_icgt, wp_iconst, wp_il4, wp_il5, wp_il6, wp_il7, wp_il8, wp_il9, wp_iln1, wp_iln2, wp_inc7, wp_iret, wp_is4, wp_is5, wp_is6, wp_is7, wp_is8, wp_is9, wp_isub, wp_izeq, wp_izne, wp_max, wp_min, wp_nop, wp_zret, qsc_kd, qsc_k1, qsc_l1, qsc_gf1, qsc_k2, qsc_l2, qsc_gf2, qsc_k3, qsc_l3, qsc_gf3, qsc_k4, qsc_l4, qsc_gf4, qsc_k5, qsc_l5, qsc_gf6, qsc_k6, qsc_l6, qsc_gf7, qsc_k7, qsc_l7, qsc_gf9, qsc_k8, qsc_l8, qsc_gf10, qsc_gf0, qsc_pf0, qsc_gf5, qsc_pf5, qsc_gf8, qsc_pf8, qst_kd, qst_gf0, qst_k10, qst_l10, qst_gf1, qst_k29, qst_l29, qst_gf2, qlf_kd, qlf_gf0, qlf_k31, qlf_l31, qlf_gf1, qlf_gf3, qlf_gf4, qlf_gf5, qlf_gf6, qlf_k203, qlf_l203, qlf_gf7, qlf_gf2, qlf_pf2, qlf_gf8, qlf_pf8, wrI_row, cpI_row, row_s, row_n, row_ss, row_sw, upd_s, upd_n, ad_inj, ad_z, ad_z2, Nat.reduceEqDiff, reduceCtorEq, List.cons_append, List.nil_append, Option.toList_some, Option.toList_none, Int.toNat_natCast, List.length_cons, List.length_nil, Int.cast_ofNat_Int, Nat.reduceAdd, Nat.reduceLeDiff, Nat.reduceLT, Nat.reduceMul, Int.reduceAdd, Int.reduceSub, Int.reduceMul, Int.reduceNeg, Int.reduceLT, Int.reduceLE, Int.reduceEq, Int.reduceToNat, eq_self, true_and, and_true, true_or, or_true, false_or, or_false, if_true, if_false, not_true_eq_false, not_false_eq_true, and_self, ne_eq, hLf, hN1, hS, hm1, hm2]
        (repeat' (first | apply And.intro | split)) <;> first | omega | exact q
    · rw [b2_f c2] at hm2
      rw [if_neg (fun z => c2 z.2.1)] at hQ
      have q := hQ.ro hX
      simp only [m_L_between, b_L_between_0, P_L_between_29, b_L_between_29, P_L_between_31, b_L_between_31, P_L_between_65, b_L_between_65, P_L_between_68, b_L_between_68, P_L_between_166, b_L_between_166, wp_abs, wp_aln0, wp_aln3, wp_asn3, wp_bipush, wp_copy, wp_cs1, wp_cs2, wp_cs3, wp_cs4, wp_cs5, wp_cs6, wp_cs7, wp_cv1, wp_cv2, wp_cv3, wp_cv4, wp_cv5, wp_cv6, wp_cv7, wp_goto, wp_iadd, wp_iald, wp_iast, wp_icge, wp_icgt, wp_iconst, wp_il4, wp_il5, wp_il6, wp_il7, wp_il8, wp_il9, wp_iln1, wp_iln2, wp_inc7, wp_iret, wp_is4, wp_is5, wp_is6, wp_is7, wp_is8, wp_is9, wp_isub, wp_izeq, wp_izne, wp_max, wp_min, wp_nop, wp_zret, qsc_kd, qsc_k1, qsc_l1, qsc_gf1, qsc_k2, qsc_l2, qsc_gf2, qsc_k3, qsc_l3, qsc_gf3, qsc_k4, qsc_l4, qsc_gf4, qsc_k5, qsc_l5, qsc_gf6, qsc_k6, qsc_l6, qsc_gf7, qsc_k7, qsc_l7, qsc_gf9, qsc_k8, qsc_l8, qsc_gf10, qsc_gf0, qsc_pf0, qsc_gf5, qsc_pf5, qsc_gf8, qsc_pf8, qst_kd, qst_gf0, qst_k10, qst_l10, qst_gf1, qst_k29, qst_l29, qst_gf2, qlf_kd, qlf_gf0, qlf_k31, qlf_l31, qlf_gf1, qlf_gf3, qlf_gf4, qlf_gf5, qlf_gf6, qlf_k203, qlf_l203, qlf_gf7, qlf_gf2, qlf_pf2, qlf_gf8, qlf_pf8, wrI_row, cpI_row, row_s, row_n, row_ss, row_sw, upd_s, upd_n, ad_inj, ad_z, ad_z2, Nat.reduceEqDiff, reduceCtorEq, List.cons_append, List.nil_append, Option.toList_some, Option.toList_none, Int.toNat_natCast, List.length_cons, List.length_nil, Int.cast_ofNat_Int, Nat.reduceAdd, Nat.reduceLeDiff, Nat.reduceLT, Nat.reduceMul, Int.reduceAdd, Int.reduceSub, Int.reduceMul, Int.reduceNeg, Int.reduceLT, Int.reduceLE, Int.reduceEq, Int.reduceToNat, eq_self, true_and, and_true, true_or, or_true, false_or, or_false, if_true, if_false, not_true_eq_false, not_false_eq_true, and_self, ne_eq, hLf, hN1, hS, hm1, hm2]
      (repeat' (first | apply And.intro | split)) <;> first | omega | exact q
  · rw [b2_f c1] at hm1
    rw [if_neg (fun z => c1 z.1)] at hQ
    have q := hQ.ro hX
    simp only [m_L_between, b_L_between_0, P_L_between_29, b_L_between_29, P_L_between_31, b_L_between_31, P_L_between_65, b_L_between_65, P_L_between_68, b_L_between_68, P_L_between_166, b_L_between_166, wp_abs, wp_aln0, wp_aln3, wp_asn3, wp_bipush, wp_copy, wp_cs1, wp_cs2, wp_cs3, wp_cs4, wp_cs5, wp_cs6, wp_cs7, wp_cv1, wp_cv2, wp_cv3, wp_cv4, wp_cv5, wp_cv6, wp_cv7, wp_goto, wp_iadd, wp_iald, wp_iast, wp_icge, wp_icgt, wp_iconst, wp_il4, wp_il5, wp_il6, wp_il7, wp_il8, wp_il9, wp_iln1, wp_iln2, wp_inc7, wp_iret, wp_is4, wp_is5, wp_is6, wp_is7, wp_is8, wp_is9, wp_isub, wp_izeq, wp_izne, wp_max, wp_min, wp_nop, wp_zret, qsc_kd, qsc_k1, qsc_l1, qsc_gf1, qsc_k2, qsc_l2, qsc_gf2, qsc_k3, qsc_l3, qsc_gf3, qsc_k4, qsc_l4, qsc_gf4, qsc_k5, qsc_l5, qsc_gf6, qsc_k6, qsc_l6, qsc_gf7, qsc_k7, qsc_l7, qsc_gf9, qsc_k8, qsc_l8, qsc_gf10, qsc_gf0, qsc_pf0, qsc_gf5, qsc_pf5, qsc_gf8, qsc_pf8, qst_kd, qst_gf0, qst_k10, qst_l10, qst_gf1, qst_k29, qst_l29, qst_gf2, qlf_kd, qlf_gf0, qlf_k31, qlf_l31, qlf_gf1, qlf_gf3, qlf_gf4, qlf_gf5, qlf_gf6, qlf_k203, qlf_l203, qlf_gf7, qlf_gf2, qlf_pf2, qlf_gf8, qlf_pf8, wrI_row, cpI_row, row_s, row_n, row_ss, row_sw, upd_s, upd_n, ad_inj, ad_z, ad_z2, Nat.reduceEqDiff, reduceCtorEq, List.cons_append, List.nil_append, Option.toList_some, Option.toList_none, Int.toNat_natCast, List.length_cons, List.length_nil, Int.cast_ofNat_Int, Nat.reduceAdd, Nat.reduceLeDiff, Nat.reduceLT, Nat.reduceMul, Int.reduceAdd, Int.reduceSub, Int.reduceMul, Int.reduceNeg, Int.reduceLT, Int.reduceLE, Int.reduceEq, Int.reduceToNat, eq_self, true_and, and_true, true_or, or_true, false_or, or_false, if_true, if_false, not_true_eq_false, not_false_eq_true, and_self, ne_eq, hLf, hN1, hS, hm1]
    (repeat' (first | apply And.intro | split)) <;> first | omega | exact q
end BTC
