/-! SINGLE ENTRIES of a view -/
section SET
variable {n : Int} {V V' U : Vw}
theorem set_n {k j k' j' : Nat} {v : Int} (h : ¬ (k' = k ∧ j' = j)) : setV U k j v k' j' = U k' j' := if_neg h
theorem set_s {k j : Nat} {v : Int} : setV U k j v k j = v := if_pos ⟨rfl, rfl⟩
theorem lr_set (h : LR n V U) {k j : Nat} (hk : k = 1 ∨ k = 2 ∨ k = 3 ∨ k = 4) {v : Int} (h1 : ∀ k' j', k' ≤ 10 → ¬ (k' = k ∧ j' = j) → V' k' j' = V k' j') (h2 : V' k j = v) : LR n V' (setV U k j v) := by
  have q : ∀ k' j', k' ≤ 10 → V k' j' = U k' j' → V' k' j' = setV U k j v k' j' := by
    intro k' j' q0 q1
    by_cases e : k' = k ∧ j' = j
    · obtain ⟨rfl, rfl⟩ := e
      rw [h2, set_s]
    · rw [h1 k' j' q0 e, set_n e]
      exact q1
  have e0 : setV U k j v 0 0 = U 0 0 := set_n (by omega)
  have e5 : setV U k j v 5 0 = U 5 0 := set_n (by omega)
  have e8 : setV U k j v 8 0 = U 8 0 := set_n (by omega)
  refine ⟨?_, ?_, ?_, fun j' hj => ?_, fun j' hj => ?_, fun j' hj => ?_, fun j' hj => ?_, fun j' hj => ?_⟩
  · exact q 0 0 (by omega) h.l0
  · exact q 5 0 (by omega) h.l5
  · exact q 8 0 (by omega) h.l8
  · rw [e0] at hj
    exact ⟨q 1 j' (by omega) (h.l1 hj), q 2 j' (by omega) (h.l2 hj)⟩
  · exact q 3 j' (by omega) (h.l3 hj)
  · exact q 4 j' (by omega) (h.l4 hj)
  · rw [e5] at hj
    exact ⟨q 6 j' (by omega) (h.l6 hj), q 7 j' (by omega) (h.l7 hj)⟩
  · rw [e8] at hj
    rw [h1 9 j' (by omega) (by omega), h1 10 j' (by omega) (by omega), set_n (by omega), set_n (by omega)]
    exact ⟨h.l9 hj, h.l10 hj⟩
theorem lr_setp (h : LR n V U) {k j : Nat} (hk : k = 9 ∨ k = 10) {v : Int} (h1 : ∀ k' j', k' ≤ 10 → ¬ (k' = k ∧ j' = j) → V' k' j' = V k' j') (h2 : V' k j = nn n v) : LR n V' (setV U k j v) := by
  have e0 : setV U k j v 0 0 = U 0 0 := set_n (by omega)
  have e5 : setV U k j v 5 0 = U 5 0 := set_n (by omega)
  have e8 : setV U k j v 8 0 = U 8 0 := set_n (by omega)
  have q : ∀ k' j', k' ≤ 10 → V k' j' = nn n (U k' j') → V' k' j' = nn n (setV U k j v k' j') := by
    intro k' j' q0 q1
    by_cases e : k' = k ∧ j' = j
    · obtain ⟨rfl, rfl⟩ := e
      rw [h2, set_s]
    · rw [h1 k' j' q0 e, set_n e]
      exact q1
  refine ⟨?_, ?_, ?_, fun j' hj => ?_, fun j' hj => ?_, fun j' hj => ?_, fun j' hj => ?_, fun j' hj => ?_⟩
  · rw [e0, h1 0 0 (by omega) (by omega)]
    exact h.l0
  · rw [e5, h1 5 0 (by omega) (by omega)]
    exact h.l5
  · rw [e8, h1 8 0 (by omega) (by omega)]
    exact h.l8
  · rw [e0] at hj
    rw [h1 1 j' (by omega) (by omega), h1 2 j' (by omega) (by omega), set_n (by omega), set_n (by omega)]
    exact ⟨h.l1 hj, h.l2 hj⟩
  · rw [h1 3 j' (by omega) (by omega), set_n (by omega)]
    exact h.l3 hj
  · rw [h1 4 j' (by omega) (by omega), set_n (by omega)]
    exact h.l4 hj
  · rw [e5] at hj
    rw [h1 6 j' (by omega) (by omega), h1 7 j' (by omega) (by omega), set_n (by omega), set_n (by omega)]
    exact ⟨h.l6 hj, h.l7 hj⟩
  · rw [e8] at hj
    exact ⟨q 9 j' (by omega) (h.l9 hj), q 10 j' (by omega) (h.l10 hj)⟩
theorem sumL_set {k j : Nat} {v : Int} (hk : k ≠ 7) : ∀ s : Nat, sumL (setV U k j v) s = sumL U s
  | 0 => rfl
  | s + 1 => by
    simp only [sumL]
    rw [sumL_set hk s, set_n (by omega)]
theorem set_wf12 (hW : WFV (-1) U) {k j : Nat} (hk : k = 1 ∨ k = 2) {v : Int} (hv : 0 ≤ v ∧ v ≤ 9) : WFV (-1) (setV U k j v) := by
  obtain ⟨w1, w2, w3, w4, w5, w6, w7, w8, w9⟩ := hW
  have z : ∀ k' j', k' ≠ 1 → k' ≠ 2 → setV U k j v k' j' = U k' j' := fun k' j' z1 z2 => set_n (by omega)
  unfold WFV
  rw [sumL_set (by omega)]
  simp only [z, ne_eq, Nat.reduceEqDiff, not_false_eq_true]
  refine ⟨w1, fun j' hj => ?_, w3, w4, w5, w6, w7, w8, w9⟩
  have := w2 j' hj
  unfold setV
  constructor
  · split <;> omega
  · split <;> omega
theorem set_wf3 (hW : WFV (-1) U) {j : Nat} {v : Int} (hv : 0 ≤ v ∧ v ≤ 9) : WFV (-1) (setV U 3 j v) := by
  obtain ⟨w1, w2, w3, w4, w5, w6, w7, w8, w9⟩ := hW
  have z : ∀ k' j', k' ≠ 3 → setV U 3 j v k' j' = U k' j' := fun k' j' z1 => set_n (by omega)
  unfold WFV
  rw [sumL_set (by omega)]
  simp only [z, ne_eq, Nat.reduceEqDiff, not_false_eq_true]
  refine ⟨w1, w2, fun j' hj => ?_, w4, w5, w6, w7, w8, w9⟩
  have := w3 j' hj
  unfold setV
  constructor
  · split <;> omega
  · split <;> omega
theorem set_wf4 (hW : WFV (-1) U) {j : Nat} {v : Int} (hv : (j = 0 ∧ 1 ≤ v ∧ v ≤ 9) ∨ (j = 1 ∧ 1 ≤ v ∧ v ≤ 3) ∨ (j = 2 ∧ 0 ≤ v ∧ v ≤ 9) ∨ (j = 3 ∧ 1 ≤ v ∧ v ≤ 99) ∨ (j = 4 ∧ 1 ≤ v ∧ v ≤ 20)) : WFV (-1) (setV U 4 j v) := by
  obtain ⟨w1, w2, w3, w4, w5, w6, w7, w8, w9⟩ := hW
  have z : ∀ k' j', k' ≠ 4 → setV U 4 j v k' j' = U k' j' := fun k' j' z1 => set_n (by omega)
  unfold WFV
  rw [sumL_set (by omega)]
  simp only [z, ne_eq, Nat.reduceEqDiff, not_false_eq_true]
  refine ⟨w1, w2, w3, ?_, w5, w6, w7, w8, w9⟩
  unfold setV
  rcases hv with ⟨rfl, h1⟩ | ⟨rfl, h1⟩ | ⟨rfl, h1⟩ | ⟨rfl, h1⟩ | ⟨rfl, h1⟩ <;> simp only [true_and, Nat.reduceEqDiff, if_true, if_false, and_true, and_false] <;> omega
theorem set_wfp (hW : WFV (-1) U) {k j : Nat} (hk : k = 9 ∨ k = 10) {v : Int} (hv : v = -1 ∨ (0 ≤ v ∧ v < U 0 0)) : WFV (-1) (setV U k j v) := by
  obtain ⟨w1, w2, w3, w4, w5, w6, w7, w8, w9⟩ := hW
  have z : ∀ k' j', k' ≠ 9 → k' ≠ 10 → setV U k j v k' j' = U k' j' := fun k' j' z1 z2 => set_n (by omega)
  unfold WFV
  rw [sumL_set (by omega)]
  simp only [z, ne_eq, Nat.reduceEqDiff, not_false_eq_true]
  refine ⟨w1, w2, w3, w4, w5, w6, w7, w8, fun j' hj => ?_⟩
  have := w9 j' hj
  unfold setV
  constructor
  · split <;> omega
  · split <;> omega
end SET
/-! ROWS of a scene and its view -/
section VWR
variable {g : Nat → Nat → Int} {a : Nat} {R : Nat → Int}
theorem k_cases {k : Nat} (h : k ≤ 10) : k = 0 ∨ k = 1 ∨ k = 2 ∨ k = 3 ∨ k = 4 ∨ k = 5 ∨ k = 6 ∨ k = 7 ∨ k = 8 ∨ k = 9 ∨ k = 10 := by omega
theorem vw_1 {k j : Nat} (h : k ≤ 10) : vwC (setRow g (ad a 1) R) a k j = if k = 1 then R j else vwC g a k j := by
  rcases k_cases h with rfl | rfl | rfl | rfl | rfl | rfl | rfl | rfl | rfl | rfl | rfl <;> simp only [vwC, row_s, row_n, ad_inj, ad_z, ad_z2, Nat.reduceEqDiff, not_false_eq_true, if_false, if_true]
theorem vw_2 {k j : Nat} (h : k ≤ 10) : vwC (setRow g (ad a 2) R) a k j = if k = 2 then R j else vwC g a k j := by
  rcases k_cases h with rfl | rfl | rfl | rfl | rfl | rfl | rfl | rfl | rfl | rfl | rfl <;> simp only [vwC, row_s, row_n, ad_inj, ad_z, ad_z2, Nat.reduceEqDiff, not_false_eq_true, if_false, if_true]
theorem vw_3 {k j : Nat} (h : k ≤ 10) : vwC (setRow g (ad a 3) R) a k j = if k = 3 then R j else vwC g a k j := by
  rcases k_cases h with rfl | rfl | rfl | rfl | rfl | rfl | rfl | rfl | rfl | rfl | rfl <;> simp only [vwC, row_s, row_n, ad_inj, ad_z, ad_z2, Nat.reduceEqDiff, not_false_eq_true, if_false, if_true]
theorem vw_4 {k j : Nat} (h : k ≤ 10) : vwC (setRow g (ad a 4) R) a k j = if k = 4 then R j else vwC g a k j := by
  rcases k_cases h with rfl | rfl | rfl | rfl | rfl | rfl | rfl | rfl | rfl | rfl | rfl <;> simp only [vwC, row_s, row_n, ad_inj, ad_z, ad_z2, Nat.reduceEqDiff, not_false_eq_true, if_false, if_true]
theorem vw_7 {k j : Nat} (h : k ≤ 10) : vwC (setRow g (ad a 7) R) a k j = if k = 9 then R j else vwC g a k j := by
  rcases k_cases h with rfl | rfl | rfl | rfl | rfl | rfl | rfl | rfl | rfl | rfl | rfl <;> simp only [vwC, row_s, row_n, ad_inj, ad_z, ad_z2, Nat.reduceEqDiff, not_false_eq_true, if_false, if_true]
theorem vw_8 {k j : Nat} (h : k ≤ 10) : vwC (setRow g (ad a 8) R) a k j = if k = 10 then R j else vwC g a k j := by
  rcases k_cases h with rfl | rfl | rfl | rfl | rfl | rfl | rfl | rfl | rfl | rfl | rfl <;> simp only [vwC, row_s, row_n, ad_inj, ad_z, ad_z2, Nat.reduceEqDiff, not_false_eq_true, if_false, if_true]
theorem vw_p {k i kk j' : Nat} {v : Int} (hi : (i = 1 ∧ kk = 1) ∨ (i = 2 ∧ kk = 2) ∨ (i = 3 ∧ kk = 3) ∨ (i = 4 ∧ kk = 4) ∨ (i = 7 ∧ kk = 9) ∨ (i = 8 ∧ kk = 10)) {j : Nat} (h : k ≤ 10) : vwC (setRow g (ad a i) (upd1 (g (ad a i)) j v)) a k j' = if k = kk ∧ j' = j then v else vwC g a k j' := by
  rcases hi with ⟨rfl, rfl⟩ | ⟨rfl, rfl⟩ | ⟨rfl, rfl⟩ | ⟨rfl, rfl⟩ | ⟨rfl, rfl⟩ | ⟨rfl, rfl⟩
  · rw [vw_1 h]
    by_cases e : k = 1
    · subst e
      rw [if_pos rfl]
      by_cases e2 : j' = j
      · subst e2
        rw [upd_s, if_pos ⟨rfl, rfl⟩]
      · rw [upd_n e2, if_neg (fun q => e2 q.2)]
        rfl
    · rw [if_neg e, if_neg (fun q => e q.1)]
  · rw [vw_2 h]
    by_cases e : k = 2
    · subst e
      rw [if_pos rfl]
      by_cases e2 : j' = j
      · subst e2
        rw [upd_s, if_pos ⟨rfl, rfl⟩]
      · rw [upd_n e2, if_neg (fun q => e2 q.2)]
        rfl
    · rw [if_neg e, if_neg (fun q => e q.1)]
  · rw [vw_3 h]
    by_cases e : k = 3
    · subst e
      rw [if_pos rfl]
      by_cases e2 : j' = j
      · subst e2
        rw [upd_s, if_pos ⟨rfl, rfl⟩]
      · rw [upd_n e2, if_neg (fun q => e2 q.2)]
        rfl
    · rw [if_neg e, if_neg (fun q => e q.1)]
  · rw [vw_4 h]
    by_cases e : k = 4
    · subst e
      rw [if_pos rfl]
      by_cases e2 : j' = j
      · subst e2
        rw [upd_s, if_pos ⟨rfl, rfl⟩]
      · rw [upd_n e2, if_neg (fun q => e2 q.2)]
        rfl
    · rw [if_neg e, if_neg (fun q => e q.1)]
  · rw [vw_7 h]
    by_cases e : k = 9
    · subst e
      rw [if_pos rfl]
      by_cases e2 : j' = j
      · subst e2
        rw [upd_s, if_pos ⟨rfl, rfl⟩]
      · rw [upd_n e2, if_neg (fun q => e2 q.2)]
        rfl
    · rw [if_neg e, if_neg (fun q => e q.1)]
  · rw [vw_8 h]
    by_cases e : k = 10
    · subst e
      rw [if_pos rfl]
      by_cases e2 : j' = j
      · subst e2
        rw [upd_s, if_pos ⟨rfl, rfl⟩]
      · rw [upd_n e2, if_neg (fun q => e2 q.2)]
        rfl
    · rw [if_neg e, if_neg (fun q => e q.1)]
end VWR
