/-! THE CLASS'S CHANGES OF A SCENE ARE THE ABSTRACT ONES -/
section TIE
variable {g : Nat → Nat → Int} {a : Nat} {U : Vw}
theorem opR_nn {r u : Nat → Int} {F : Int} {f m : Nat} (hf : (f : Int) ≤ F) (h : ∀ j : Nat, (j : Int) < F → r j = nn (-99) (u j)) {j : Nat} (hj : (j : Int) < F + m) : opR r f m F.toNat j = nn (-99) (opnR u f m j) := by
  unfold opR flR mvR opnR
  by_cases e : j < f
  · rw [if_neg (by omega), if_pos e]
    rw [if_neg (by omega)]
    exact h j (by omega)
  · by_cases e2 : j < f + m
    · rw [if_pos (by omega), if_neg e, if_pos e2]
      rfl
    · rw [if_neg (by omega), if_neg e, if_neg e2]
      rw [if_pos (by omega)]
      exact h (j - m) (by omega)
theorem clR_nn {r u : Nat → Int} {F : Int} {f m : Nat} (hf : (f : Int) + m ≤ F) (h : ∀ j : Nat, (j : Int) < F → r j = nn (-99) (u j)) {j : Nat} (hj : (j : Int) < F - m) : clR r f m F.toNat j = nn (-99) (clsR u f m j) := by
  unfold clR clsR
  by_cases e : j < f
  · rw [if_neg (by omega), if_pos e]
    exact h j (by omega)
  · rw [if_pos (by omega), if_neg e]
    exact h (j + m) (by omega)
theorem shR_ins {r u : Nat → Int} {G : Int} {s : Nat} {v : Int} (hs : (s : Int) ≤ G) (h : ∀ j : Nat, (j : Int) < G → r j = u j) {j : Nat} (hj : (j : Int) < G + 1) : upd1 (shR r s G.toNat) s v j = insR u s v j := by
  unfold insR
  by_cases e : j < s
  · rw [upd_n (by omega), if_pos e]
    unfold shR
    rw [if_neg (by omega)]
    exact h j (by omega)
  · by_cases e2 : j = s
    · subst e2
      rw [upd_s, if_neg e, if_pos rfl]
    · rw [upd_n e2, if_neg e, if_neg e2]
      unfold shR
      rw [if_pos (by omega)]
      exact h (j - 1) (by omega)
theorem csR_del {r u : Nat → Int} {G : Int} {s : Nat} (h : ∀ j : Nat, (j : Int) < G → r j = u j) {j : Nat} (hj : (j : Int) < G - 1) : csR r s G.toNat j = delR u s j := by
  unfold csR delR
  by_cases e : j < s
  · rw [if_neg (by omega), if_pos e]
    exact h j (by omega)
  · rw [if_pos (by omega), if_neg e]
    exact h (j + 1) (by omega)
theorem openS_lr (h : LR (-99) (vwC g a) U) (hW : WFV (-1) U) {s m : Nat} {kd : Int} (hs : (s : Int) ≤ U 5 0) : LR (-99) (vwC (openS g a s kd m) a) (insV U s kd m) := by
  have hsu := sumL_at hW hs
  have e5 : g a 5 = U 5 0 := h.l5
  have e8 : g a 8 = U 8 0 := h.l8
  have esum : sumL (vwC g a) s = sumL U s := h.sum s hs
  refine ⟨?_, ?_, ?_, fun j hj => ?_, fun j hj => ?_, fun j hj => ?_, fun j hj => ?_, fun j hj => ?_⟩
  · have := h.l0
    simp only [vwC, insV, openS, openF, row_s, row_n, upd1, ad_inj, ad_z, ad_z2, Nat.reduceEqDiff, not_false_eq_true, if_false] at this ⊢
    exact this
  · simp only [vwC, insV, openS, openF, row_s, row_n, upd1, ad_inj, ad_z, ad_z2, Nat.reduceEqDiff, not_false_eq_true, if_false, if_true]
    rw [e5]
  · simp only [vwC, insV, openS, openF, row_s, row_n, upd1, ad_inj, ad_z, ad_z2, Nat.reduceEqDiff, not_false_eq_true, if_false, if_true]
    rw [e8]
  · have h1 := h.l1 (j := j) hj
    have h2 := h.l2 (j := j) hj
    simp only [vwC, insV, openS, openF, row_s, row_n, upd1, ad_inj, ad_z, ad_z2, Nat.reduceEqDiff, not_false_eq_true, if_false] at h1 h2 ⊢
    exact ⟨h1, h2⟩
  · have h1 := h.l3 hj
    simp only [vwC, insV, openS, openF, row_s, row_n, upd1, ad_inj, ad_z, ad_z2, Nat.reduceEqDiff, not_false_eq_true, if_false] at h1 ⊢
    exact h1
  · have h1 := h.l4 hj
    simp only [vwC, insV, openS, openF, row_s, row_n, upd1, ad_inj, ad_z, ad_z2, Nat.reduceEqDiff, not_false_eq_true, if_false] at h1 ⊢
    exact h1
  · have q6 := shR_ins (v := kd) hs (r := g (ad a 5)) (u := U 6) (fun j hj => h.l6 hj) hj
    have q7 := shR_ins (v := (m : Int)) hs (r := g (ad a 6)) (u := U 7) (fun j hj => h.l7 hj) hj
    simp only [vwC, insV, openS, openF, row_s, row_n, ad_inj, ad_z, ad_z2, Nat.reduceEqDiff, not_false_eq_true]
    rw [e5]
    exact ⟨q6, q7⟩
  · have q9 := opR_nn (f := (sumL U s).toNat) (m := m) (F := U 8 0) (by omega) (r := g (ad a 7)) (u := U 9) (fun j hj => h.l9 hj) hj
    have q10 := opR_nn (f := (sumL U s).toNat) (m := m) (F := U 8 0) (by omega) (r := g (ad a 8)) (u := U 10) (fun j hj => h.l10 hj) hj
    simp only [vwC, insV, openS, openF, row_s, row_n, ad_inj, ad_z, ad_z2, Nat.reduceEqDiff, not_false_eq_true]
    rw [e8]
    rw [esum]
    exact ⟨q9, q10⟩
theorem closeS_lr (h : LR (-99) (vwC g a) U) (hW : WFV (-1) U) {s : Nat} (hs : (s : Int) < U 5 0) : LR (-99) (vwC (closeS g a s) a) (delV U s) := by
  have hsu := sumL_at2 hW hs
  have h7 := (hW.2.2.2.2.2.1 s hs).2
  have e5 : g a 5 = U 5 0 := h.l5
  have e8 : g a 8 = U 8 0 := h.l8
  have e7 : g (ad a 6) s = U 7 s := h.l7 hs
  have esum : sumL (vwC g a) s = sumL U s := h.sum s (by omega)
  refine ⟨?_, ?_, ?_, fun j hj => ?_, fun j hj => ?_, fun j hj => ?_, fun j hj => ?_, fun j hj => ?_⟩
  · have := h.l0
    simp only [vwC, delV, closeS, closeF, row_s, row_n, upd1, ad_inj, ad_z, ad_z2, Nat.reduceEqDiff, not_false_eq_true, if_false] at this ⊢
    exact this
  · simp only [vwC, delV, closeS, closeF, row_s, row_n, upd1, ad_inj, ad_z, ad_z2, Nat.reduceEqDiff, not_false_eq_true, if_false, if_true]
    rw [e5]
  · simp only [vwC, delV, closeS, closeF, row_s, row_n, upd1, ad_inj, ad_z, ad_z2, Nat.reduceEqDiff, not_false_eq_true, if_false, if_true]
    rw [e8, e7]
    omega
  · have h1 := h.l1 (j := j) hj
    have h2 := h.l2 (j := j) hj
    simp only [vwC, delV, closeS, closeF, row_s, row_n, upd1, ad_inj, ad_z, ad_z2, Nat.reduceEqDiff, not_false_eq_true, if_false] at h1 h2 ⊢
    exact ⟨h1, h2⟩
  · have h1 := h.l3 hj
    simp only [vwC, delV, closeS, closeF, row_s, row_n, upd1, ad_inj, ad_z, ad_z2, Nat.reduceEqDiff, not_false_eq_true, if_false] at h1 ⊢
    exact h1
  · have h1 := h.l4 hj
    simp only [vwC, delV, closeS, closeF, row_s, row_n, upd1, ad_inj, ad_z, ad_z2, Nat.reduceEqDiff, not_false_eq_true, if_false] at h1 ⊢
    exact h1
  · have q6 := csR_del (s := s) (r := g (ad a 5)) (u := U 6) (fun j hj => h.l6 hj) hj
    have q7 := csR_del (s := s) (r := g (ad a 6)) (u := U 7) (fun j hj => h.l7 hj) hj
    simp only [vwC, delV, closeS, closeF, row_s, row_n, ad_inj, ad_z, ad_z2, Nat.reduceEqDiff, not_false_eq_true]
    rw [e5]
    exact ⟨q6, q7⟩
  · replace hj : (j : Int) < U 8 0 - U 7 s := hj
    have q9 := clR_nn (f := (sumL U s).toNat) (m := (U 7 s).toNat) (F := U 8 0) (by omega) (r := g (ad a 7)) (u := U 9) (fun j hj => h.l9 hj) (j := j) (by omega)
    have q10 := clR_nn (f := (sumL U s).toNat) (m := (U 7 s).toNat) (F := U 8 0) (by omega) (r := g (ad a 8)) (u := U 10) (fun j hj => h.l10 hj) (j := j) (by omega)
    simp only [vwC, delV, closeS, closeF, row_s, row_n, ad_inj, ad_z, ad_z2, Nat.reduceEqDiff, not_false_eq_true]
    rw [e8, e7]
    rw [esum]
    exact ⟨q9, q10⟩
/-- a segment made shorter or longer, in the class's store -/
def lenF (g : Nat → Nat → Int) (a s m : Nat) : Nat → Nat → Int := if (m : Int) < g (ad a 6) s then setRow (closeF g a ((sumL (vwC g a) s).toNat + m) ((g (ad a 6) s).toNat - m)) (ad a 6) (upd1 (g (ad a 6)) s m) else setRow (openF g a ((sumL (vwC g a) s).toNat + (g (ad a 6) s).toNat) (m - (g (ad a 6) s).toNat)) (ad a 6) (upd1 (g (ad a 6)) s m)
theorem lenF_lr (h : LR (-99) (vwC g a) U) (hW : WFV (-1) U) {s m : Nat} (hs : (s : Int) < U 5 0) : LR (-99) (vwC (lenF g a s m) a) (lenV U s m) := by
  have hsu := sumL_at2 hW hs
  have h7 := (hW.2.2.2.2.2.1 s hs).2
  have e5 : g a 5 = U 5 0 := h.l5
  have e8 : g a 8 = U 8 0 := h.l8
  have e7 : g (ad a 6) s = U 7 s := h.l7 hs
  have esum : sumL (vwC g a) s = sumL U s := h.sum s (by omega)
  have hrow : ∀ j : Nat, (j : Int) < U 5 0 → upd1 (g (ad a 6)) s m j = if j = s then (m : Int) else U 7 j := fun j hj => by
    unfold upd1
    by_cases e : j = s
    · rw [if_pos e, if_pos e]
    · rw [if_neg e, if_neg e]
      exact h.l7 hj
  have a0 := h.l0
  have a5 := h.l5
  have a1 := fun (j : Nat) (hj : (j : Int) < U 0 0) => h.l1 hj
  have a2 := fun (j : Nat) (hj : (j : Int) < U 0 0) => h.l2 hj
  have a3 := fun (j : Nat) (hj : j < 36) => h.l3 hj
  have a4 := fun (j : Nat) (hj : j < 5) => h.l4 hj
  have a6 := fun (j : Nat) (hj : (j : Int) < U 5 0) => h.l6 hj
  have a9 := fun (j : Nat) (hj : (j : Int) < U 8 0) => h.l9 hj
  have a10 := fun (j : Nat) (hj : (j : Int) < U 8 0) => h.l10 hj
  simp only [vwC] at a0 a5 a1 a2 a3 a4 a6 a9 a10 esum
  unfold lenF
  by_cases e : (m : Int) < g (ad a 6) s
  · rw [if_pos e]
    have em : (m : Int) < U 7 s := by omega
    simp only [LR, vwC, lenV, closeF, row_s, row_n, upd1, ad_inj, ad_z, ad_z2, Nat.reduceEqDiff, not_false_eq_true, if_false, if_true, if_pos em]
    refine ⟨a0, a5, by omega, fun j hj => ⟨a1 j hj, a2 j hj⟩, a3, a4, fun j hj => ⟨a6 j hj, hrow j hj⟩, fun j hj => ?_⟩
    rw [esum, e7, e8]
    exact ⟨clR_nn (by omega) a9 (by omega), clR_nn (by omega) a10 (by omega)⟩
  · rw [if_neg e]
    have em : ¬ (m : Int) < U 7 s := by omega
    simp only [LR, vwC, lenV, openF, row_s, row_n, upd1, ad_inj, ad_z, ad_z2, Nat.reduceEqDiff, not_false_eq_true, if_false, if_true, if_neg em]
    refine ⟨a0, a5, by omega, fun j hj => ⟨a1 j hj, a2 j hj⟩, a3, a4, fun j hj => ⟨a6 j hj, hrow j hj⟩, fun j hj => ?_⟩
    rw [esum, e7, e8]
    exact ⟨opR_nn (by omega) a9 (by omega), opR_nn (by omega) a10 (by omega)⟩
end TIE
