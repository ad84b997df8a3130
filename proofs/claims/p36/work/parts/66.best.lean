/-! the best plan of a state -/
def plN (U : Vw) (f : Nat) : Nat := (plnV (pF U) (pM U) (pH U) (cstV (-1) U) (clsV U (U 4 0)) f).1
/-- the length of the run that ends ahead of a frame -/
def rnP (p : Nat → Nat) : Nat → Int
  | 0 => 0
  | f + 1 => if f = 0 ∨ p f = p (f - 1) then rnP p f + 1 else 1
section BST
variable {U : Vw} {X : XV}
theorem plU_N {f : Nat} : plU U f = (plN U f : Int) := rfl
theorem pln_lt (hU : WFV (-1) U) (f : Nat) : (plN U f : Int) < U 0 0 := (plU_b hU f).2
theorem rn_b {p : Nat → Nat} : ∀ f : Nat, 0 ≤ rnP p f ∧ rnP p f ≤ f ∧ 1 ≤ rnP p (f + 1)
  | 0 => ⟨Int.le_refl _, Int.le_refl _, by simp [rnP]⟩
  | f + 1 => by
    have h := rn_b (p := p) f
    have e : rnP p (f + 1 + 1) = if f + 1 = 0 ∨ p (f + 1) = p f then rnP p (f + 1) + 1 else 1 := rfl
    have e1 : rnP p (f + 1) = if f = 0 ∨ p f = p (f - 1) then rnP p f + 1 else 1 := rfl
    refine ⟨by omega, ?_, ?_⟩
    · rw [e1]
      split <;> omega
    · rw [e]
      split <;> omega
theorem rn_cap {h : Nat} (hh : 1 ≤ h) {p : Nat → Nat} : ∀ f : Nat, (capR h p f : Int) = min (rnP p (f + 1) - 1) ((h : Int) - 1)
  | 0 => by
    have e : rnP p (0 + 1) = 1 := by simp [rnP]
    rw [e]
    show ((0 : Nat) : Int) = _
    omega
  | f + 1 => by
    have ih := rn_cap hh (p := p) f
    have hb := rn_b (p := p) f
    have e : rnP p (f + 1 + 1) = if f + 1 = 0 ∨ p (f + 1) = p f then rnP p (f + 1) + 1 else 1 := rfl
    have ec : capR h p (f + 1) = if p (f + 1) = p f then min (capR h p f + 1) (h - 1) else 0 := rfl
    rw [e, ec]
    by_cases c : p (f + 1) = p f
    · rw [if_pos c, if_pos (Or.inr c)]
      omega
    · rw [if_neg c, if_neg (by omega)]
      omega
theorem ok_step {F M h : Nat} {cl : Nat → Nat → Bool} {p : Nat → Nat} (hh : 1 ≤ h) (ok : okP F M h cl p) {f : Nat} (hf : f + 1 < F) (hne : p (f + 1) ≠ p f) : (h : Int) ≤ rnP p (f + 1) ∧ cl (p f) (p (f + 1)) = true := by
  obtain ⟨h1, h2⟩ := ((ok (f + 1) hf).2 f rfl).resolve_left hne
  have h3 := rn_cap hh (p := p) f
  exact ⟨by omega, h2⟩
theorem ok_of {F M h : Nat} {cl : Nat → Nat → Bool} {p : Nat → Nat} (hh : 1 ≤ h) (hM : ∀ f, f < F → p f < M) (hs : ∀ f, f + 1 < F → p (f + 1) ≠ p f → (h : Int) ≤ rnP p (f + 1) ∧ cl (p f) (p (f + 1)) = true) : okP F M h cl p := by
  intro f hf
  refine ⟨hM f hf, fun f' e => ?_⟩
  subst e
  by_cases c : p (f' + 1) = p f'
  · exact Or.inl c
  · obtain ⟨h1, h2⟩ := hs f' hf c
    have h3 := rn_cap hh (p := p) f'
    exact Or.inr ⟨by omega, h2⟩
theorem sumP_le {c : Nat → Nat → Int} {p : Nat → Nat} {b : Int} : ∀ n : Nat, (∀ f, f < n → 0 ≤ c f (p f) ∧ c f (p f) ≤ b) → 0 ≤ sumP c p n ∧ sumP c p n ≤ b * n
  | 0, _ => ⟨Int.le_refl _, by simp [sumP]⟩
  | n + 1, h => by
    have h1 := sumP_le n (fun f hf => h f (by omega))
    have h2 := h n (by omega)
    have e : b * ((n + 1 : Nat) : Int) = b * n + b := by
      rw [Int.natCast_add, Int.mul_add]
      simp
    rw [e]
    simp only [sumP]
    omega
theorem sumP_eq {c c' : Nat → Nat → Int} {p : Nat → Nat} : ∀ n : Nat, (∀ f, f < n → c f (p f) = c' f (p f)) → sumP c p n = sumP c' p n
  | 0, _ => rfl
  | n + 1, h => by
    simp only [sumP]
    rw [sumP_eq n (fun f hf => h f (by omega)), h n (by omega)]
/-- the numbers of a plan -/
theorem pl_nums (hU : WFV (-1) U) : 1 ≤ pM U ∧ 1 ≤ pH U ∧ (pH U : Int) = U 4 1 ∧ (pF U : Int) = U 8 0 ∧ (pM U : Int) = U 0 0 ∧ pF U ≤ 99 := by
  have b0 := hU.1
  have b4 := hU.2.2.2.1
  have b8 := hU.2.2.2.2.2.2.1
  unfold pM pH pF
  omega
theorem best (hU : WFV (-1) U) (hl : lsU U (U 4 0) ≠ -99) : okP (pF U) (pM U) (pH U) (clsV U (U 4 0)) (plN U) ∧ sumP (cstV (-1) U) (plN U) (pF U) = lsU U (U 4 0) ∧ ∀ f, f < pF U → (U 9 f = -1 ∨ U 9 f = plU U f) ∧ cstV (-1) U f (plN U f) = wrgV U (kndV U f) (plN U f) := by
  obtain ⟨n1, n2, n3, n4, n5, n6⟩ := pl_nums hU
  have hc := fun f m => (cstU_b hU f m).1
  unfold lsU lstV at hl ⊢
  by_cases c : pF U = 0
  · rw [if_pos c]
    refine ⟨fun f hf => by omega, ?_, fun f hf => by omega⟩
    rw [c]
    rfl
  · rw [if_neg c] at hl ⊢
    by_cases c2 : totV (pF U) (pM U) (pH U) (cstV (-1) U) (clsV U (U 4 0)) < 1000000
    · rw [if_pos c2]
      obtain ⟨a1, a2, a3⟩ := pln_all hc n1 n2 (by omega) c2
      refine ⟨a1, a2, fun f hf => ?_⟩
      have h3 : cstV (-1) U f (plN U f) < 1000000 := a3 f hf
      have hm := pln_lt hU f
      have key : U 9 f = -1 ∨ U 9 f = plU U f := by
        by_cases q : U 9 f = -1 ∨ U 9 f = (plN U f : Int)
        · exact q
        · exfalso
          rw [cstV_n (by omega) hm q] at h3
          omega
      exact ⟨key, cstV_p (by omega) hm key⟩
    · rw [if_neg c2] at hl
      exact absurd rfl hl
/-- with an allowed plan there is a least sum, and it's no greater -/
theorem ls_le (hU : WFV (-1) U) {p : Nat → Nat} (ok : okP (pF U) (pM U) (pH U) (clsV U (U 4 0)) p) (hs : sumP (cstV (-1) U) p (pF U) < 1000000) : lsU U (U 4 0) ≠ -99 ∧ lsU U (U 4 0) ≤ sumP (cstV (-1) U) p (pF U) := by
  unfold lsU lstV
  by_cases c : pF U = 0
  · rw [if_pos c]
    refine ⟨by omega, ?_⟩
    rw [c]
    exact Int.le_refl _
  · rw [if_neg c]
    have h1 := tot_le (c := cstV (-1) U) ok (by omega)
    have hc := fun f m => (cstU_b hU f m).1
    have hb := minB_b (p := fun _ => true) (v := fun m => Rv (pF U) (pM U) (pH U) (cstV (-1) U) (clsV U (U 4 0)) (pF U) m 0) (fun j => (Rv_b hc _ _ _).1) (pM U)
    have hb2 : 0 ≤ totV (pF U) (pM U) (pH U) (cstV (-1) U) (clsV U (U 4 0)) := hb.1
    rw [if_pos (by omega)]
    omega
theorem wrg_b (hU : WFV (-1) U) {f m : Nat} (hf : (f : Int) < U 8 0) (hm : (m : Int) < U 0 0) : 0 ≤ wrgV U (kndV U f) m ∧ wrgV U (kndV U f) m ≤ 162 := by
  have hk := kndV_lt hU hf
  exact wrgU_b hU hk.1 hk.2 hm
theorem ls_b (hU : WFV (-1) U) (hl : lsU U (U 4 0) ≠ -99) : 0 ≤ lsU U (U 4 0) ∧ lsU U (U 4 0) ≤ 16038 := by
  obtain ⟨n1, n2, n3, n4, n5, n6⟩ := pl_nums hU
  obtain ⟨a1, a2, a3⟩ := best hU hl
  have h := sumP_le (c := cstV (-1) U) (p := plN U) (b := 162) (pF U) (fun f hf => by
    rw [(a3 f hf).2]
    exact wrg_b hU (by omega) (pln_lt hU f))
  rw [a2] at h
  omega
theorem ls_r (hU : WFV (-1) U) : -99 ≤ lsU U (U 4 0) ∧ lsU U (U 4 0) ≤ 16038 := by
  by_cases c : lsU U (U 4 0) = -99
  · omega
  · have := ls_b hU c
    omega
/-- a plan with a mouth in a frame costs no less -/
theorem cst_B (hU : WFV (-1) U) (f mo : Nat) : ∀ f' m, cstV (-1) U f' m ≤ cstB U f mo f' m := by
  intro f' m
  have h := cstU_b hU f' m
  unfold cstB
  split <;> omega
theorem with_none (hU : WFV (-1) U) {f mo : Nat} (hf : (f : Int) < U 8 0) (hl : lsU U (U 4 0) = -99) : lstV (pF U) (pM U) (pH U) (cstB U f mo) (clsV U (U 4 0)) = -99 := by
  obtain ⟨n1, n2, n3, n4, n5, n6⟩ := pl_nums hU
  have hm := totV_mono (F := pF U) (M := pM U) (h := pH U) (cl := clsV U (U 4 0)) (cst_B hU f mo)
  have hc := fun f m => (cstU_b hU f m).1
  have hb := minB_b (p := fun _ => true) (v := fun m => Rv (pF U) (pM U) (pH U) (cstV (-1) U) (clsV U (U 4 0)) (pF U) m 0) (fun j => (Rv_b hc _ _ _).1) (pM U)
  have hb2 : 0 ≤ totV (pF U) (pM U) (pH U) (cstV (-1) U) (clsV U (U 4 0)) := hb.1
  unfold lsU lstV at hl
  unfold lstV
  rw [if_neg (by omega)] at hl ⊢
  split at hl
  · omega
  · rw [if_neg (by omega)]
theorem with_ge (hU : WFV (-1) U) {f mo : Nat} (hf : (f : Int) < U 8 0) (hl : lsU U (U 4 0) ≠ -99) : lstV (pF U) (pM U) (pH U) (cstB U f mo) (clsV U (U 4 0)) = -99 ∨ lsU U (U 4 0) ≤ lstV (pF U) (pM U) (pH U) (cstB U f mo) (clsV U (U 4 0)) := by
  obtain ⟨n1, n2, n3, n4, n5, n6⟩ := pl_nums hU
  have hm := totV_mono (F := pF U) (M := pM U) (h := pH U) (cl := clsV U (U 4 0)) (cst_B hU f mo)
  unfold lsU lstV at hl ⊢
  have hF : ¬ pF U = 0 := by omega
  rw [if_neg hF] at hl ⊢
  rw [if_neg hF]
  by_cases q : totV (pF U) (pM U) (pH U) (cstV (-1) U) (clsV U (U 4 0)) < 1000000
  · rw [if_pos q]
    by_cases q2 : totV (pF U) (pM U) (pH U) (cstB U f mo) (clsV U (U 4 0)) < 1000000
    · rw [if_pos q2]
      exact Or.inr hm
    · rw [if_neg q2]
      exact Or.inl rfl
  · rw [if_neg q] at hl
    exact absurd rfl hl
theorem with_own (hU : WFV (-1) U) {f : Nat} (hf : (f : Int) < U 8 0) (hl : lsU U (U 4 0) ≠ -99) : lstV (pF U) (pM U) (pH U) (cstB U f (plN U f)) (clsV U (U 4 0)) = lsU U (U 4 0) := by
  obtain ⟨n1, n2, n3, n4, n5, n6⟩ := pl_nums hU
  obtain ⟨a1, a2, a3⟩ := best hU hl
  have hb := ls_b hU hl
  have hm := with_ge hU (mo := plN U f) hf hl
  have h1 := tot_le (c := cstB U f (plN U f)) a1 (by omega)
  have e : sumP (cstB U f (plN U f)) (plN U) (pF U) = sumP (cstV (-1) U) (plN U) (pF U) := sumP_eq _ (fun f' hf' => by
    unfold cstB
    split
    next q =>
      exact absurd (by rw [q.1]) q.2
    next q => rfl)
  rw [e, a2] at h1
  unfold lstV at hm ⊢
  rw [if_neg (by omega)] at hm ⊢
  rw [if_pos (by omega)] at hm ⊢
  have hc := fun f' m => (cstB_b hU (f := f) (mo := plN U f) f' m).1
  have hb := minB_b (p := fun _ => true) (v := fun m => Rv (pF U) (pM U) (pH U) (cstB U f (plN U f)) (clsV U (U 4 0)) (pF U) m 0) (fun j => (Rv_b hc _ _ _).1) (pM U)
  have hb2 : 0 ≤ totV (pF U) (pM U) (pH U) (cstB U f (plN U f)) (clsV U (U 4 0)) := hb.1
  omega
theorem spF_le {t : Int} {k : Nat} (hk : lsU U k ≠ -99 ∧ lsU U k ≤ t) : ∀ (d s : Nat), s ≤ k → k < s + d → (s : Int) ≤ spF U t d s ∧ spF U t d s ≤ k
  | 0, s, h1, h2 => by omega
  | d + 1, s, h1, h2 => by
    simp only [spF]
    split
    · omega
    next c =>
      have e : s ≠ k := fun q => c (by rw [q]; exact hk)
      have h3 := spF_le hk d (s + 1) (by omega) (by omega)
      omega
theorem speed_le (hU : WFV (-1) X.1.1) (hl : lsU X.1.1 (X.1.1 4 0) ≠ -99) : 1 ≤ sSpeedFor (lsU X.1.1 (X.1.1 4 0)) X ∧ sSpeedFor (lsU X.1.1 (X.1.1 4 0)) X ≤ X.1.1 4 0 := by
  have hb := ls_b hU hl
  have b4 := hU.2.2.2.1
  unfold sSpeedFor
  rw [if_pos (by omega)]
  have e : (((X.1.1 4 0).toNat : Nat) : Int) = X.1.1 4 0 := by omega
  have h1 := spF_le (U := X.1.1) (t := lsU X.1.1 (X.1.1 4 0)) (k := (X.1.1 4 0).toNat) (by rw [e]; exact ⟨hl, Int.le_refl _⟩) 9 1 (by omega) (by omega)
  rw [e] at h1
  exact h1
theorem why_0 (hU : WFV (-1) X.1.1) {f : Nat} (hf : (f : Int) < X.1.1 8 0) (hl : lsU X.1.1 (X.1.1 4 0) ≠ -99) : (0 ≤ sWhy f X ∧ sWhy f X ≤ 4) ∧ (sWhy f X = 0 ↔ ∀ b : Nat, (b : Int) < X.1.1 0 0 → wrgV X.1.1 (kndV X.1.1 f) (plN X.1.1 f) ≤ wrgV X.1.1 (kndV X.1.1 f) b) := by
  have hm := pln_lt hU f
  have b0 := hU.1
  have ha := fun (j : Nat) (hj : j < pM X.1.1) => amin_le (f := fun m => wrgV X.1.1 (kndV X.1.1 f) m) (pM X.1.1) hj
  have e2 : (plU X.1.1 f).toNat = plN X.1.1 f := Int.toNat_natCast _
  have hr := rivU_lt hU f
  have hP : (pM X.1.1 : Int) = X.1.1 0 0 := (pl_nums hU).2.2.2.2.1
  unfold sWhy
  rw [if_pos ⟨by omega, hf⟩, if_neg hl, Int.toNat_natCast, e2]
  have hrv : rivU X.1.1 f = amin (fun m => wrgV X.1.1 (kndV X.1.1 f) m) (pM X.1.1) := rfl
  rw [← hrv] at ha
  by_cases c : wrgV X.1.1 (kndV X.1.1 f) (plN X.1.1 f) = wrgV X.1.1 (kndV X.1.1 f) (rivU X.1.1 f)
  · rw [if_pos c]
    refine ⟨by omega, fun _ b hb => ?_, fun _ => rfl⟩
    have := ha b (by omega)
    omega
  · rw [if_neg c]
    have key : ¬ ∀ b : Nat, (b : Int) < X.1.1 0 0 → wrgV X.1.1 (kndV X.1.1 f) (plN X.1.1 f) ≤ wrgV X.1.1 (kndV X.1.1 f) b := fun q => by
      have h1 := q _ hr
      have h2 := ha (plN X.1.1 f) (by omega)
      omega
    refine ⟨?_, fun q => ?_, fun q => absurd q key⟩
    · (repeat' split) <;> omega
    · exfalso
      (repeat' split at q) <;> omega
/-- what is drawn without a fault is an allowed plan -/
theorem drawn_ok (hU : WFV (-1) U) (hf : ∀ f, f < (U 8 0).toNat → fltV U f (runV U f) = 0) : lsU U (U 4 0) ≠ -99 ∧ lsU U (U 4 0) ≤ dsU U (U 8 0).toNat ∧ ∀ f, f < (U 8 0).toNat → U 10 f ≠ -1 := by
  obtain ⟨n1, n2, n3, n4, n5, n6⟩ := pl_nums hU
  have hpF : pF U = (U 8 0).toNat := rfl
  have b8 := hU.2.2.2.2.2.2.1
  have hd : ∀ f, f < pF U → U 10 f ≠ -1 ∧ 0 ≤ U 10 f ∧ U 10 f < U 0 0 := fun f h => by
    have h1 := fltV_0 (hf f h)
    have h2 := (hU.2.2.2.2.2.2.2.2 f (by omega)).2
    omega
  have hrun : ∀ f, f ≤ pF U → runV U f = rnP (fun f => (U 10 f).toNat) f := by
    intro f
    induction f with
    | zero => intro _; rfl
    | succ f ih =>
      intro h
      have i1 := ih (by omega)
      have h1 := hd f (by omega)
      show (if 0 < f ∧ U 10 f = U 10 (f - 1) then runV U f + 1 else 1) = if f = 0 ∨ (U 10 f).toNat = (U 10 (f - 1)).toNat then rnP (fun f => (U 10 f).toNat) f + 1 else 1
      rw [i1]
      by_cases c : f = 0
      · subst c
        rw [if_neg (by omega), if_pos (Or.inl rfl)]
        rfl
      · have h2 := hd (f - 1) (by omega)
        by_cases c2 : U 10 f = U 10 (f - 1)
        · rw [if_pos ⟨by omega, c2⟩, if_pos (Or.inr (by rw [c2]))]
        · rw [if_neg (fun q => c2 q.2), if_neg (by omega)]
  have ok : okP (pF U) (pM U) (pH U) (clsV U (U 4 0)) (fun f => (U 10 f).toNat) := by
    refine ok_of n2 (fun f h => ?_) (fun f h hne => ?_)
    · have := hd f h
      omega
    · have h1 := hd f (by omega)
      have h2 := hd (f + 1) h
      have h3 := hf (f + 1) h
      have h4 := hrun (f + 1) (by omega)
      rw [h4] at h3
      unfold fltV at h3
      rw [if_neg h2.1] at h3
      split at h3
      · omega
      · rw [if_neg (by omega), show f + 1 - 1 = f by omega] at h3
        split at h3
        · omega
        next j =>
          split at h3
          · omega
          next j2 =>
            refine ⟨?_, (clsV_i (by omega) (by omega)).2 (by omega)⟩
            have : U 10 f ≠ U 10 (f + 1) := fun q => hne (by rw [q])
            rw [n3]
            have h5 : ¬ rnP (fun f => (U 10 f).toNat) (f + 1) < U 4 1 := fun q => j2 ⟨this, q⟩
            omega
  have hs : ∀ n, n ≤ pF U → sumP (cstV (-1) U) (fun f => (U 10 f).toNat) n = dsU U n := by
    intro n
    induction n with
    | zero => intro _; rfl
    | succ n ih =>
      intro h
      have h1 := hd n (by omega)
      have h2 := hf n (by omega)
      simp only [sumP, dsU]
      rw [ih (by omega), if_neg h1.1]
      have e : (((U 10 n).toNat : Nat) : Int) = U 10 n := by omega
      have h3 : U 9 n = -1 ∨ U 9 n = (((U 10 n).toNat : Nat) : Int) := by
        rw [e]
        unfold fltV at h2
        rw [if_neg h1.1] at h2
        split at h2
        · omega
        next q =>
          by_cases q1 : U 9 n = -1
          · exact Or.inl q1
          · by_cases q2 : U 9 n = U 10 n
            · exact Or.inr q2
            · exact absurd ⟨q1, q2⟩ q
      rw [cstV_p (by omega) (by omega) h3]
  have hsF := hs (pF U) (Nat.le_refl _)
  have hb := dsU_b hU (pF U) (by omega)
  obtain ⟨r1, r2⟩ := ls_le hU ok (by omega)
  rw [hsF] at r2
  exact ⟨r1, r2, fun f h => (hd f h).1⟩
/-- the best plan, drawn, has no fault, and its sum is the least one -/
theorem fin_ok (hU : WFV (-1) U) (hl : lsU U (U 4 0) ≠ -99) : (∀ f, f < (U 8 0).toNat → fltV (finU U) f (runV (finU U) f) = 0) ∧ dsU (finU U) (U 8 0).toNat = lsU U (U 4 0) ∧ ∀ f, f < (U 8 0).toNat → finU U 10 f ≠ -1 := by
  obtain ⟨n1, n2, n3, n4, n5, n6⟩ := pl_nums hU
  have hpF : pF U = (U 8 0).toNat := rfl
  have b8 := hU.2.2.2.2.2.2.1
  obtain ⟨a1, a2, a3⟩ := best hU hl
  have hd : ∀ f, f < pF U → finU U 10 f = (plN U f : Int) := fun f h => if_pos ⟨rfl, h⟩
  have hrun : ∀ f, f ≤ pF U → runV (finU U) f = rnP (plN U) f := by
    intro f
    induction f with
    | zero => intro _; rfl
    | succ f ih =>
      intro h
      have i1 := ih (by omega)
      have h1 := hd f (by omega)
      show (if 0 < f ∧ finU U 10 f = finU U 10 (f - 1) then runV (finU U) f + 1 else 1) = if f = 0 ∨ plN U f = plN U (f - 1) then rnP (plN U) f + 1 else 1
      rw [i1]
      by_cases c : f = 0
      · subst c
        rw [if_neg (by omega), if_pos (Or.inl rfl)]
        rfl
      · have h2 := hd (f - 1) (by omega)
        rw [h1, h2]
        by_cases c2 : plN U f = plN U (f - 1)
        · rw [if_pos ⟨by omega, by omega⟩, if_pos (Or.inr c2)]
        · rw [if_neg (by omega), if_neg (by omega)]
  have hn : ∀ k j, k ≠ 10 → finU U k j = U k j := fun k j h => finU_n h
  have hjm : ∀ x y, jmpV (finU U) x y = jmpV U x y := fun x y => by
    unfold jmpV dstV
    rw [hn 1 x (by omega), hn 2 x (by omega), hn 1 y (by omega), hn 2 y (by omega)]
  have hsm : ∀ s, sumL (finU U) s = sumL U s := by
    intro s
    induction s with
    | zero => rfl
    | succ s ih =>
      simp only [sumL]
      rw [ih, hn 7 s (by omega)]
  have hsg : ∀ (f : Int) (d s : Nat), segF (finU U) f d s = segF U f d s := by
    intro f d
    induction d with
    | zero => intro s; rfl
    | succ d ih =>
      intro s
      simp only [segF]
      rw [ih, hsm]
  have hkn : ∀ f : Int, kndV (finU U) f = kndV U f := fun f => by
    unfold kndV segV
    rw [hn 5 0 (by omega), hsg, hn 6 _ (by omega)]
  have hwr : ∀ (kd : Int) (m : Nat), wrgV (finU U) kd m = wrgV U kd m := fun kd m => by
    unfold wrgV
    rw [hn 4 2 (by omega), hn 1 m (by omega), hn 2 m (by omega), hn 3 _ (by omega), hn 3 _ (by omega), hn 3 _ (by omega)]
  refine ⟨fun f h => ?_, ?_, fun f h => by rw [hd f h]; omega⟩
  · have h1 := hd f h
    have h9 := (a3 f h).1
    rw [plU_N] at h9
    unfold fltV
    rw [h1, hn 9 f (by omega), if_neg (by omega), if_neg (by omega), hrun f (by omega), hn 4 0 (by omega), hn 4 1 (by omega)]
    by_cases c : f = 0
    · rw [if_pos c]
    · rw [if_neg c]
      obtain ⟨f', rfl⟩ : ∃ f', f = f' + 1 := ⟨f - 1, by omega⟩
      have h2 := hd f' (by omega)
      rw [show f' + 1 - 1 = f' by omega, h2, hjm, Int.toNat_natCast, Int.toNat_natCast]
      have m1 := pln_lt hU f'
      have m2 := pln_lt hU (f' + 1)
      by_cases c2 : plN U (f' + 1) = plN U f'
      · rw [c2]
        have hj : jmpV U (plN U f') (plN U f') = 0 := by
          unfold jmpV dstV
          omega
        have b4 := hU.2.2.2.1
        rw [hj, if_neg (by omega), if_neg (by omega)]
      · obtain ⟨s1, s2⟩ := ok_step n2 a1 h c2
        have s3 := (clsV_i m1 m2).1 s2
        rw [n3] at s1
        rw [if_neg (by omega), if_neg (by omega)]
  · rw [← a2]
    have key : ∀ n, n ≤ pF U → dsU (finU U) n = sumP (cstV (-1) U) (plN U) n := by
      intro n
      induction n with
      | zero => intro _; rfl
      | succ n ih =>
        intro h
        have h1 := hd n (by omega)
        simp only [sumP, dsU]
        rw [ih (by omega), h1, if_neg (by omega), hkn, hwr, Int.toNat_natCast, (a3 n (by omega)).2]
    exact key _ (Nat.le_refl _)
end BST
