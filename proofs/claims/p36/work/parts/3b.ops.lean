/-! THE AIR AND THE COUNTS OF AN ABSTRACT VIEW -/
section LRB
variable {n : Int} {V U : Vw}
theorem LR.air (h : LR n V U) (hW : WFV (-1) U) : ∀ f : Nat, (f : Int) ≤ U 8 0 → airV V f = airV U f
  | 0, _ => h.l4 (by omega)
  | f + 1, hf => by
    have k := kndV_lt hW (f := f) (by omega)
    simp only [airV]
    rw [LR.air h hW f (by omega), h.knd hW (by omega), h.chg k.1 k.2, h.l4 (by omega)]
theorem LR.gsp (h : LR n V U) (hW : WFV (-1) U) {f : Nat} (hf : (f : Int) < U 8 0) : gspV V f ↔ gspV U f := by
  have k := kndV_lt hW hf
  unfold gspV
  rw [h.air hW f (by omega), h.knd hW hf, h.chg k.1 k.2]
theorem LR.gcn (h : LR n V U) (hW : WFV (-1) U) : ∀ f : Nat, (f : Int) ≤ U 8 0 → gcnV V f = gcnV U f
  | 0, _ => rfl
  | f + 1, hf => by
    have k := kndV_lt hW (f := f) (by omega)
    simp only [gcnV]
    rw [LR.gcn h hW f (by omega), h.air hW f (by omega), h.knd hW (by omega), h.chg k.1 k.2]
theorem LR.gsg (h : LR n V U) (hW : WFV (-1) U) : ∀ f : Nat, (f : Int) ≤ U 8 0 → gsgV V f = gsgV U f
  | 0, _ => rfl
  | f + 1, hf => by
    have k := kndV_lt hW (f := f) (by omega)
    simp only [gsgV]
    rw [LR.gsg h hW f (by omega), h.gcn hW f (by omega), h.air hW f (by omega), h.knd hW (by omega), h.chg k.1 k.2, h.seg hW]
theorem cntS_nn {n : Int} (hn : n < 0) {r u : Nat → Int} {M : Int} : ∀ j : Nat, (∀ i : Nat, i < j → r i = nn n (u i) ∧ (u i = -1 ∨ (0 ≤ u i ∧ u i < M))) → cntS n r j = cntS (-1) u j
  | 0, _ => rfl
  | j + 1, h => by
    have h1 := cntS_nn hn j (fun i hi => h i (by omega))
    obtain ⟨h2, h3⟩ := h j (by omega)
    simp only [cntS]
    rw [h1, h2]
    unfold nn
    by_cases e : u j = -1
    · rw [if_pos e, if_pos rfl, if_pos e]
    · rw [if_neg e, if_neg (by omega), if_neg e]
theorem LR.cn9 (h : LR n V U) (hn : n < 0) (hW : WFV (-1) U) : cntS n (V 9) (V 8 0).toNat = cntS (-1) (U 9) (U 8 0).toNat := by
  rw [h.l8]
  exact cntS_nn hn _ (fun i hi => ⟨h.l9 (by omega), (hW.2.2.2.2.2.2.2.2 i (by omega)).1⟩)
theorem LR.cn10 (h : LR n V U) (hn : n < 0) (hW : WFV (-1) U) : cntS n (V 10) (V 8 0).toNat = cntS (-1) (U 10) (U 8 0).toNat := by
  rw [h.l8]
  exact cntS_nn hn _ (fun i hi => ⟨h.l10 (by omega), (hW.2.2.2.2.2.2.2.2 i (by omega)).2⟩)
theorem LR.eq (h : LR n V U) {V' : Vw} (hW : WFV (-1) U) (he : vwEq V' V) : LR n V' U := by
  obtain ⟨w1, w2, w3, w4, w5, w6, w7, w8, w9⟩ := hW
  obtain ⟨e0, e5, e8, e1, e3, e4, e6, e9⟩ := he
  obtain ⟨l0, l5, l8, l1, l3, l4, l6, l9⟩ := h
  refine ⟨e0.trans l0, e5.trans l5, e8.trans l8, fun j hj => ?_, fun j hj => (e3 j hj).trans (l3 j hj), fun j hj => (e4 j hj).trans (l4 j hj), fun j hj => ?_, fun j hj => ?_⟩
  · exact ⟨(e1 j (by omega)).1.trans (l1 j hj).1, (e1 j (by omega)).2.trans (l1 j hj).2⟩
  · exact ⟨(e6 j (by omega)).1.trans (l6 j hj).1, (e6 j (by omega)).2.trans (l6 j hj).2⟩
  · exact ⟨(e9 j (by omega)).1.trans (l9 j hj).1, (e9 j (by omega)).2.trans (l9 j hj).2⟩
end LRB
/-! THE CHANGES OF AN ABSTRACT VIEW -/
def setV (U : Vw) (k j : Nat) (v : Int) : Vw := fun k' j' => if k' = k ∧ j' = j then v else U k' j'
def opnR (r : Nat → Int) (f m : Nat) : Nat → Int := fun j => if j < f then r j else if j < f + m then -1 else r (j - m)
def clsR (r : Nat → Int) (f m : Nat) : Nat → Int := fun j => if j < f then r j else r (j + m)
def insR (r : Nat → Int) (s : Nat) (v : Int) : Nat → Int := fun j => if j < s then r j else if j = s then v else r (j - 1)
def delR (r : Nat → Int) (s : Nat) : Nat → Int := fun j => if j < s then r j else r (j + 1)
def insV (U : Vw) (s : Nat) (kd : Int) (m : Nat) : Vw := fun k j => match k with
  | 5 => U 5 j + 1
  | 6 => insR (U 6) s kd j
  | 7 => insR (U 7) s m j
  | 8 => U 8 j + m
  | 9 => opnR (U 9) (sumL U s).toNat m j
  | 10 => opnR (U 10) (sumL U s).toNat m j
  | k => U k j
def delV (U : Vw) (s : Nat) : Vw := fun k j => match k with
  | 5 => U 5 j - 1
  | 6 => delR (U 6) s j
  | 7 => delR (U 7) s j
  | 8 => U 8 j - U 7 s
  | 9 => clsR (U 9) (sumL U s).toNat (U 7 s).toNat j
  | 10 => clsR (U 10) (sumL U s).toNat (U 7 s).toNat j
  | k => U k j
def lenV (U : Vw) (s m : Nat) : Vw := fun k j => match k with
  | 7 => if j = s then m else U 7 j
  | 8 => U 8 j - U 7 s + m
  | 9 => if (m : Int) < U 7 s then clsR (U 9) ((sumL U s).toNat + m) ((U 7 s).toNat - m) j else opnR (U 9) ((sumL U s).toNat + (U 7 s).toNat) (m - (U 7 s).toNat) j
  | 10 => if (m : Int) < U 7 s then clsR (U 10) ((sumL U s).toNat + m) ((U 7 s).toNat - m) j else opnR (U 10) ((sumL U s).toNat + (U 7 s).toNat) (m - (U 7 s).toNat) j
  | k => U k j
section WFO
variable {U : Vw}
theorem sumL_ins {s m : Nat} {kd : Int} : ∀ t : Nat, sumL (insV U s kd m) t = if t ≤ s then sumL U t else sumL U (t - 1) + m
  | 0 => by rw [if_pos (by omega)]; rfl
  | t + 1 => by
    have h1 := sumL_ins (s := s) (m := m) (kd := kd) t
    show sumL (insV U s kd m) t + insR (U 7) s m t = _
    rw [h1]
    unfold insR
    by_cases e : t < s
    · rw [if_pos (by omega), if_pos e, if_pos (by omega)]
      rfl
    · by_cases e2 : t = s
      · subst e2
        rw [if_pos (by omega), if_neg e, if_pos rfl, if_neg (by omega), Nat.add_sub_cancel]
      · obtain ⟨t', rfl⟩ : ∃ t', t = t' + 1 := ⟨t - 1, by omega⟩
        rw [if_neg (by omega), if_neg e, if_neg e2, if_neg (by omega), Nat.add_sub_cancel, Nat.add_sub_cancel]
        simp only [sumL]
        omega
theorem sumL_del {s : Nat} : ∀ t : Nat, sumL (delV U s) t = if t ≤ s then sumL U t else sumL U (t + 1) - U 7 s
  | 0 => by rw [if_pos (by omega)]; rfl
  | t + 1 => by
    have h1 := sumL_del (s := s) t
    show sumL (delV U s) t + delR (U 7) s t = _
    rw [h1]
    unfold delR
    by_cases e : t < s
    · rw [if_pos (by omega), if_pos e, if_pos (by omega)]
      rfl
    · by_cases e2 : t = s
      · subst e2
        rw [if_pos (by omega), if_neg e, if_neg (by omega)]
        simp only [sumL]
        omega
      · rw [if_neg (by omega), if_neg e, if_neg (by omega)]
        simp only [sumL]
        omega
theorem sumL_len {s m : Nat} : ∀ t : Nat, sumL (lenV U s m) t = if t ≤ s then sumL U t else sumL U t - U 7 s + m
  | 0 => by rw [if_pos (by omega)]; rfl
  | t + 1 => by
    have h1 := sumL_len (s := s) (m := m) t
    show sumL (lenV U s m) t + (if t = s then (m : Int) else U 7 t) = _
    rw [h1]
    by_cases e : t < s
    · rw [if_pos (by omega), if_neg (by omega), if_pos (by omega)]
      rfl
    · by_cases e2 : t = s
      · subst e2
        rw [if_pos (by omega), if_pos rfl, if_neg (by omega)]
        simp only [sumL]
        omega
      · rw [if_neg (by omega), if_neg e2, if_neg (by omega)]
        simp only [sumL]
        omega
theorem sumL_at (hW : WFV (-1) U) {s : Nat} (hs : (s : Int) ≤ U 5 0) : 0 ≤ sumL U s ∧ sumL U s ≤ U 8 0 := by
  obtain ⟨w1, w2, w3, w4, w5, w6, w7, w8, w9⟩ := hW
  have h1 := sumL_mono (V := U) (m := U 5 0) (fun j hj => (w6 j hj).2) s hs
  have h2 := sumL_le (V := U) (m := U 5 0) (fun j hj => (w6 j hj).2) (s := s) ((U 5 0).toNat - s) (by omega)
  rw [show s + ((U 5 0).toNat - s) = (U 5 0).toNat by omega, w8] at h2
  omega
theorem sumL_at2 (hW : WFV (-1) U) {s : Nat} (hs : (s : Int) < U 5 0) : 0 ≤ sumL U s ∧ sumL U s + U 7 s ≤ U 8 0 := by
  have h1 := sumL_at hW (s := s) (by omega)
  have h2 := sumL_at hW (s := s + 1) (by omega)
  simp only [sumL] at h2
  omega
def rowB (F M : Int) (r : Nat → Int) : Prop := ∀ j : Nat, (j : Int) < F → r j = -1 ∨ (0 ≤ r j ∧ r j < M)
theorem rowB_opn {F M : Int} {r : Nat → Int} (h : rowB F M r) {f m : Nat} (hf : (f : Int) ≤ F) : rowB (F + m) M (opnR r f m) := by
  intro j hj
  unfold opnR
  split
  · exact h j (by omega)
  · split
    · exact Or.inl rfl
    · exact h _ (by omega)
theorem rowB_cls {F M : Int} {r : Nat → Int} (h : rowB F M r) {f m : Nat} : rowB (F - m) M (clsR r f m) := by
  intro j hj
  unfold clsR
  split
  · exact h j (by omega)
  · exact h _ (by omega)
theorem insV_wf (hW : WFV (-1) U) {s m : Nat} {kd : Int} (hs : (s : Int) ≤ U 5 0) (hG : U 5 0 < 30) (hk : 0 ≤ kd ∧ kd ≤ 9) (hm : 1 ≤ m ∧ m ≤ 20) (hF : U 8 0 + m ≤ 99) : WFV (-1) (insV U s kd m) := by
  have hsu := sumL_at hW hs
  obtain ⟨w1, w2, w3, w4, w5, w6, w7, w8, w9⟩ := id hW
  have q9 := rowB_opn (F := U 8 0) (M := U 0 0) (r := U 9) (fun j hj => (w9 j hj).1) (f := (sumL U s).toNat) (m := m) (by omega)
  have q10 := rowB_opn (F := U 8 0) (M := U 0 0) (r := U 10) (fun j hj => (w9 j hj).2) (f := (sumL U s).toNat) (m := m) (by omega)
  refine ⟨w1, w2, w3, w4, ⟨show 0 ≤ U 5 0 + 1 by omega, show U 5 0 + 1 ≤ 30 by omega⟩, fun j hj => ?_, ⟨show 0 ≤ U 8 0 + m by omega, show U 8 0 + m ≤ 99 by omega⟩, ?_, fun j hj => ⟨q9 j hj, q10 j hj⟩⟩
  · replace hj : (j : Int) < U 5 0 + 1 := hj
    show (0 ≤ insR (U 6) s kd j ∧ insR (U 6) s kd j ≤ 9) ∧ 1 ≤ insR (U 7) s m j ∧ insR (U 7) s m j ≤ 20
    unfold insR
    by_cases e : j < s
    · rw [if_pos e, if_pos e]
      exact w6 j (by omega)
    · by_cases e2 : j = s
      · rw [if_neg e, if_neg e, if_pos e2, if_pos e2]
        omega
      · rw [if_neg e, if_neg e, if_neg e2, if_neg e2]
        exact w6 (j - 1) (by omega)
  · show sumL (insV U s kd m) (U 5 0 + 1).toNat = U 8 0 + m
    rw [sumL_ins, if_neg (by omega), show (U 5 0 + 1).toNat - 1 = (U 5 0).toNat by omega, w8]
theorem delV_wf (hW : WFV (-1) U) {s : Nat} (hs : (s : Int) < U 5 0) : WFV (-1) (delV U s) := by
  have hsu := sumL_at2 hW hs
  obtain ⟨w1, w2, w3, w4, w5, w6, w7, w8, w9⟩ := id hW
  have h7 := (w6 s hs).2
  have q9 := rowB_cls (F := U 8 0) (M := U 0 0) (r := U 9) (fun j hj => (w9 j hj).1) (f := (sumL U s).toNat) (m := (U 7 s).toNat)
  have q10 := rowB_cls (F := U 8 0) (M := U 0 0) (r := U 10) (fun j hj => (w9 j hj).2) (f := (sumL U s).toNat) (m := (U 7 s).toNat)
  rw [show (((U 7 s).toNat : Nat) : Int) = U 7 s by omega] at q9 q10
  refine ⟨w1, w2, w3, w4, ⟨show 0 ≤ U 5 0 - 1 by omega, show U 5 0 - 1 ≤ 30 by omega⟩, fun j hj => ?_, ⟨show 0 ≤ U 8 0 - U 7 s by omega, show U 8 0 - U 7 s ≤ 99 by omega⟩, ?_, fun j hj => ⟨q9 j hj, q10 j hj⟩⟩
  · replace hj : (j : Int) < U 5 0 - 1 := hj
    show (0 ≤ delR (U 6) s j ∧ delR (U 6) s j ≤ 9) ∧ 1 ≤ delR (U 7) s j ∧ delR (U 7) s j ≤ 20
    unfold delR
    by_cases e : j < s
    · rw [if_pos e, if_pos e]
      exact w6 j (by omega)
    · rw [if_neg e, if_neg e]
      exact w6 (j + 1) (by omega)
  · show sumL (delV U s) (U 5 0 - 1).toNat = U 8 0 - U 7 s
    rw [sumL_del]
    by_cases e : (U 5 0 - 1).toNat ≤ s
    · have e2 : (U 5 0).toNat = s + 1 := by omega
      rw [if_pos e, show (U 5 0 - 1).toNat = s by omega, ← w8, e2]
      simp only [sumL]
      omega
    · rw [if_neg e, show (U 5 0 - 1).toNat + 1 = (U 5 0).toNat by omega, w8]
theorem lenV_wf (hW : WFV (-1) U) {s m : Nat} (hs : (s : Int) < U 5 0) (hm : 1 ≤ m ∧ m ≤ 20) (hF : U 8 0 - U 7 s + m ≤ 99) : WFV (-1) (lenV U s m) := by
  have hsu := sumL_at2 hW hs
  obtain ⟨w1, w2, w3, w4, w5, w6, w7, w8, w9⟩ := id hW
  have h7 := (w6 s hs).2
  have key : ∀ r : Nat → Int, rowB (U 8 0) (U 0 0) r → rowB (U 8 0 - U 7 s + m) (U 0 0) (fun j => if (m : Int) < U 7 s then clsR r ((sumL U s).toNat + m) ((U 7 s).toNat - m) j else opnR r ((sumL U s).toNat + (U 7 s).toNat) (m - (U 7 s).toNat) j) := by
    intro r hr j hj
    by_cases e : (m : Int) < U 7 s
    · have q := rowB_cls hr (f := (sumL U s).toNat + m) (m := (U 7 s).toNat - m) j (by omega)
      dsimp only
      rw [if_pos e]
      exact q
    · have q := rowB_opn hr (f := (sumL U s).toNat + (U 7 s).toNat) (m := m - (U 7 s).toNat) (by omega) j (by omega)
      dsimp only
      rw [if_neg e]
      exact q
  refine ⟨w1, w2, w3, w4, w5, fun j hj => ?_, ⟨show 0 ≤ U 8 0 - U 7 s + m by omega, show U 8 0 - U 7 s + m ≤ 99 by omega⟩, ?_, fun j hj => ⟨key (U 9) (fun j hj => (w9 j hj).1) j hj, key (U 10) (fun j hj => (w9 j hj).2) j hj⟩⟩
  · replace hj : (j : Int) < U 5 0 := hj
    show (0 ≤ U 6 j ∧ U 6 j ≤ 9) ∧ 1 ≤ (if j = s then (m : Int) else U 7 j) ∧ (if j = s then (m : Int) else U 7 j) ≤ 20
    have := w6 j hj
    split <;> omega
  · show sumL (lenV U s m) (U 5 0).toNat = U 8 0 - U 7 s + m
    rw [sumL_len, if_neg (by omega), w8]
end WFO
