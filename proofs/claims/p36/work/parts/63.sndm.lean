/-! what the law's method sound rests on -/
section SNM
variable {U : Vw} {X : XV}
theorem seg_ln (hU : WFV (-1) U) {j : Nat} (hj : (j : Int) < U 5 0) : 1 ≤ U 7 j ∧ U 7 j ≤ 20 := (hU.2.2.2.2.2.1 j hj).2
theorem seg_kd (hU : WFV (-1) U) {j : Nat} (hj : (j : Int) < U 5 0) : 0 ≤ U 6 j ∧ U 6 j ≤ 9 := (hU.2.2.2.2.2.1 j hj).1
theorem segU_at (hU : WFV (-1) U) {s : Nat} (hs : (s : Int) < U 5 0) {f : Int} (h1 : sumL U s ≤ f) (h2 : f < sumL U (s + 1)) : segV U f = s :=
  segF_at (V := U) (m := U 5 0) (fun j hj => seg_ln hU hj) hs h1 h2 (U 5 0).toNat 0 (Nat.zero_le _) (by omega)
theorem sum_st {s : Nat} : sumL U (s + 1) = sumL U s + U 7 s := rfl
theorem seg_1st (hU : WFV (-1) U) {s : Nat} (hs : (s : Int) < U 5 0) : segV U (sumL U s) = s ∧ kndV U (sumL U s) = U 6 s ∧ 0 ≤ sumL U s ∧ sumL U s + U 7 s ≤ U 8 0 := by
  have h1 := seg_ln hU hs
  have h2 := sumL_at2 hU hs
  have h3 := segU_at hU hs (f := sumL U s) (Int.le_refl _) (by rw [sum_st]; omega)
  refine ⟨h3, ?_, h2.1, h2.2⟩
  unfold kndV
  rw [h3]
  rfl
theorem sSeg_0 (hU : WFV (-1) X.1.1) {s : Nat} (hs : (s : Int) < X.1.1 5 0) : sSegment s 0 X = X.1.1 6 s := by
  unfold sSegment
  rw [if_pos ⟨by omega, hs⟩, if_pos rfl, Int.toNat_natCast]
theorem sSeg_1 (hU : WFV (-1) X.1.1) {s : Nat} (hs : (s : Int) < X.1.1 5 0) : sSegment s 1 X = X.1.1 7 s := by
  unfold sSegment
  rw [if_pos ⟨by omega, hs⟩, if_neg (by omega), if_pos rfl, Int.toNat_natCast]
theorem sSeg_2 (hU : WFV (-1) X.1.1) {s : Nat} (hs : (s : Int) < X.1.1 5 0) : sSegment s 2 X = sumL X.1.1 s := by
  unfold sSegment
  rw [if_pos ⟨by omega, hs⟩, if_neg (by omega), if_neg (by omega), if_pos rfl, Int.toNat_natCast]
theorem sFr_0 {f : Int} (hf : 0 ≤ f ∧ f < X.1.1 8 0) : sFrame f 0 X = segV X.1.1 f := by
  unfold sFrame
  rw [if_pos hf, if_pos rfl]
theorem sFr_1 {f : Int} (hf : 0 ≤ f ∧ f < X.1.1 8 0) : sFrame f 1 X = kndV X.1.1 f := by
  unfold sFrame
  rw [if_pos hf, if_neg (by omega), if_pos rfl]
theorem sFr_2 {f : Int} (hf : 0 ≤ f ∧ f < X.1.1 8 0) : sFrame f 2 X = nn (-99) (X.1.1 9 f.toNat) := by
  unfold sFrame
  rw [if_pos hf, if_neg (by omega), if_neg (by omega), if_pos rfl]
theorem sFr_3 {f : Int} (hf : 0 ≤ f ∧ f < X.1.1 8 0) : sFrame f 3 X = nn (-99) (X.1.1 10 f.toNat) := by
  unfold sFrame
  rw [if_pos hf, if_neg (by omega), if_neg (by omega), if_neg (by omega), if_pos rfl]
theorem sFr_4 {f : Int} (hf : 0 ≤ f ∧ f < X.1.1 8 0) : sFrame f 4 X = airV X.1.1 (f.toNat + 1) := by
  unfold sFrame
  rw [if_pos hf, if_neg (by omega), if_neg (by omega), if_neg (by omega), if_neg (by omega), if_pos rfl]
theorem sFr_5 {f : Int} (hf : 0 ≤ f ∧ f < X.1.1 8 0) : sFrame f 5 X = gsU X.1.1 f.toNat := by
  unfold sFrame
  rw [if_pos hf, if_neg (by omega), if_neg (by omega), if_neg (by omega), if_neg (by omega), if_neg (by omega), if_pos rfl]
theorem sFr_6 {f : Int} (hf : 0 ≤ f ∧ f < X.1.1 8 0) : sFrame f 6 X = if lsU X.1.1 (X.1.1 4 0) = -99 then -99 else plU X.1.1 f.toNat := by
  unfold sFrame
  rw [if_pos hf, if_neg (by omega), if_neg (by omega), if_neg (by omega), if_neg (by omega), if_neg (by omega), if_neg (by omega), if_pos rfl]
theorem sCt_0 : sCount 0 X = X.1.1 0 0 := rfl
theorem sCt_1 : sCount 1 X = X.1.1 5 0 := rfl
theorem sCt_2 : sCount 2 X = X.1.1 8 0 := rfl
theorem sCt_3 : sCount 3 X = cntS (-1) (X.1.1 9) (X.1.1 8 0).toNat := rfl
theorem sCt_4 : sCount 4 X = cntS (-1) (X.1.1 10) (X.1.1 8 0).toNat := rfl
theorem sCt_5 : sCount 5 X = gcnV X.1.1 (X.1.1 8 0).toNat := rfl
theorem sCt_7 : sCount 7 X = (X.2.1 : Int) := rfl
theorem sNm_0 : sNumber 0 X = X.1.1 4 0 := rfl
theorem sNm_1 : sNumber 1 X = X.1.1 4 1 := rfl
theorem sNm_3 : sNumber 3 X = X.1.1 4 3 := rfl
theorem cntS_b {r : Nat → Int} : ∀ n : Nat, 0 ≤ cntS (-1) r n ∧ cntS (-1) r n ≤ n
  | 0 => ⟨Int.le_refl _, Int.le_refl _⟩
  | n + 1 => by
    have h := cntS_b (r := r) n
    simp only [cntS]
    split <;> omega
/-- the sum of wrongness of what is drawn ahead of a frame -/
def dsU (U : Vw) : Nat → Int
  | 0 => 0
  | f + 1 => dsU U f + (if U 10 f = -1 then 0 else wrgV U (kndV U f) (U 10 f).toNat)
theorem dsU_b (hU : WFV (-1) U) : ∀ f : Nat, (f : Int) ≤ U 8 0 → 0 ≤ dsU U f ∧ dsU U f ≤ 162 * f
  | 0, _ => ⟨Int.le_refl _, Int.le_refl _⟩
  | f + 1, hf => by
    have h := dsU_b hU f (by omega)
    have hk := kndV_lt hU (f := f) (by omega)
    have hd := (hU.2.2.2.2.2.2.2.2 f (by omega)).2
    simp only [dsU]
    split
    · omega
    next c =>
      have hw := wrgU_b hU hk.1 hk.2 (m := (U 10 f).toNat) (by omega)
      omega
theorem drF_eq : ∀ (d f : Nat) (t : Int), (∀ j, f ≤ j → j < f + d → U 10 j ≠ -1) → drF U d f t = t + (dsU U (f + d) - dsU U f)
  | 0, f, t, _ => by simp only [drF, Nat.add_zero]; omega
  | d + 1, f, t, h => by
    have h1 := h f (Nat.le_refl _) (by omega)
    have h2 := drF_eq d (f + 1) (t + wrgV U (kndV U f) (U 10 f).toNat) (fun j j1 j2 => h j (by omega) (by omega))
    simp only [drF]
    rw [if_neg h1, h2, show f + 1 + d = f + (d + 1) by omega]
    have e : dsU U (f + 1) = dsU U f + wrgV U (kndV U f) (U 10 f).toNat := by
      simp only [dsU]
      rw [if_neg h1]
    omega
theorem drF_no : ∀ (d f : Nat) (t : Int), (∃ j, f ≤ j ∧ j < f + d ∧ U 10 j = -1) → drF U d f t = -99
  | 0, f, t, h => by
    obtain ⟨j, h1, h2, h3⟩ := h
    omega
  | d + 1, f, t, h => by
    obtain ⟨j, h1, h2, h3⟩ := h
    simp only [drF]
    by_cases c : U 10 f = -1
    · rw [if_pos c]
    · rw [if_neg c]
      refine drF_no d (f + 1) _ ⟨j, ?_, by omega, h3⟩
      have : j ≠ f := fun e => c (by rw [← e]; exact h3)
      omega
theorem cntS_all {r : Nat → Int} : ∀ n : Nat, cntS (-1) r n = n ↔ ∀ j, j < n → r j ≠ -1
  | 0 => ⟨fun _ j hj => by omega, fun _ => rfl⟩
  | n + 1 => by
    have h := cntS_all (r := r) n
    have hb := cntS_b (r := r) n
    simp only [cntS]
    by_cases c : r n = -1
    · rw [if_pos c]
      constructor
      · intro q
        omega
      · intro q
        exact absurd c (q n (by omega))
    · rw [if_neg c]
      constructor
      · intro q j hj
        by_cases e : j = n
        · rw [e]; exact c
        · exact h.1 (by omega) j (by omega)
      · intro q
        have := h.2 (fun j hj => q j (by omega))
        omega
theorem sDr_eq (hU : WFV (-1) X.1.1) : sDrawnSum X = if cntS (-1) (X.1.1 10) (X.1.1 8 0).toNat < X.1.1 8 0 then -99 else dsU X.1.1 (X.1.1 8 0).toNat := by
  have b8 := hU.2.2.2.2.2.2.1
  have hb := cntS_b (r := X.1.1 10) (X.1.1 8 0).toNat
  have ha := cntS_all (r := X.1.1 10) (X.1.1 8 0).toNat
  unfold sDrawnSum
  by_cases c : cntS (-1) (X.1.1 10) (X.1.1 8 0).toNat < X.1.1 8 0
  · rw [if_pos c]
    refine drF_no _ _ _ ?_
    by_cases e : ∃ j, 0 ≤ j ∧ j < 0 + (X.1.1 8 0).toNat ∧ X.1.1 10 j = -1
    · exact e
    · exfalso
      have := ha.2 (fun j hj q => e ⟨j, by omega, by omega, q⟩)
      omega
  · rw [if_neg c, drF_eq _ _ _ (fun j _ hj => ha.1 (by omega) j (by omega))]
    rw [Nat.zero_add]
    show 0 + (dsU X.1.1 _ - 0) = _
    omega
theorem flF_none {w : Int} : ∀ (d f : Nat), flF U w d f = -99 ↔ ∀ j, f ≤ j → j < f + d → fltV U j (runV U j) = 0
  | 0, f => ⟨fun _ j h1 h2 => by omega, fun _ => rfl⟩
  | d + 1, f => by
    have h := flF_none (w := w) d (f + 1)
    have hb := fltV_b U f (runV U f)
    simp only [flF]
    by_cases c : fltV U f (runV U f) = 0
    · rw [if_pos c, h]
      constructor
      · intro q j h1 h2
        by_cases e : j = f
        · rw [e]; exact c
        · exact q j (by omega) (by omega)
      · intro q j h1 h2
        exact q j (by omega) (by omega)
    · rw [if_neg c]
      constructor
      · intro q
        exfalso
        split at q <;> omega
      · intro q
        exact absurd (q f (Nat.le_refl _) (by omega)) c
theorem sFl_none {w : Int} (hw : 0 ≤ w ∧ w ≤ 1) : sFault w X = -99 ↔ ∀ j, j < (X.1.1 8 0).toNat → fltV X.1.1 j (runV X.1.1 j) = 0 := by
  unfold sFault
  rw [if_pos hw, flF_none]
  exact ⟨fun q j hj => q j (by omega) (by omega), fun q j _ hj => q j (by omega)⟩
theorem flF_b {w : Int} (hw : 0 ≤ w ∧ w ≤ 1) : ∀ (d f : Nat), f + d ≤ 99 → -99 ≤ flF U w d f ∧ flF U w d f ≤ 99
  | 0, f, _ => ⟨by simp only [flF]; omega, by simp only [flF]; omega⟩
  | d + 1, f, hf => by
    have h := flF_b hw d (f + 1) (by omega)
    have hb := fltV_b U f (runV U f)
    simp only [flF]
    split
    · exact h
    · split <;> omega
theorem sFl_b (hU : WFV (-1) X.1.1) {w : Int} (hw : 0 ≤ w ∧ w ≤ 1) : -99 ≤ sFault w X ∧ sFault w X ≤ 99 := by
  have b8 := hU.2.2.2.2.2.2.1
  unfold sFault
  rw [if_pos hw]
  exact flF_b hw _ _ (by omega)
theorem nn_b {x : Int} (h : x = -1 ∨ (0 ≤ x ∧ x < 8)) : (-99 ≤ nn (-99) x ∧ nn (-99) x ≤ 8) ∧ (nn (-99) x = -99 ↔ x = -1) ∧ (x ≠ -1 → nn (-99) x = x) := by
  unfold nn
  split <;> omega
theorem gs_air (hU : WFV (-1) U) {f : Nat} (hf : (f : Int) < U 8 0) : (0 ≤ gsU U f ∧ gsU U f ≤ 1) ∧ (gsU U f = 1 → airV U (f + 1) = 0 ∧ kndV U f ≠ 9) ∧ gcnV U (f + 1) = gcnV U f + gsU U f ∧ 0 ≤ airV U (f + 1) ∧ airV U (f + 1) ≤ U 4 3 := by
  have hn := hU.2.2.2.1
  have ha := airV_b (V := U) hn.2.2.2.1 f
  have ha1 := airV_b (V := U) hn.2.2.2.1 (f + 1)
  have hc : kndV U f = 9 → chgV U (kndV U f) = U 4 4 := fun e => by unfold chgV; rw [if_pos e]
  unfold gsU
  refine ⟨by split <;> omega, fun q => ?_, ?_, ha1⟩
  · split at q
    next c =>
      refine ⟨?_, fun e => ?_⟩
      · simp only [airV]
        omega
      · rw [hc e] at c
        omega
    · omega
  · simp only [gcnV]
    split <;> omega
end SNM
