/-! WHAT THE CLASS'S OBJECT STANDS FOR -/
section RUL
variable {zt : Nat → Nat} {k : Nat} {c : List RI} {ls : LsT} {st : List AV} {g : Nat → Nat → Int} {ρ : Ri} {Q : Option AV → Sto → Prop} {x : List Nat}
theorem wp_gst {i j : Nat} : Wp zt k ((.getstatic i, [j]) :: c) ls st (g, ρ) Q ↔ Wp zt k c ls (.inr (some (zt j)) :: st) (g, ρ) Q := wp_nx rfl
theorem wp_qast2 {i : Int} {b d : Nat} (h : kdI ρ b 2) (hd : kdI ρ d 14) : Wp zt k ((.aastore, x) :: c) ls (.inr (some d) :: .inl i :: .inr (some b) :: st) (g, ρ) Q ↔ (0 ≤ i ∧ i < (lnA ρ b : Int) ∧ i < 65536) ∧ Wp zt k c ls st (g, wrR ρ.1 b i.toNat (some d), ρ.2) Q := by
  have hl := kdI_ln h
  have hl2 := kdI_ln hd
  by_cases hr : (0 ≤ i ∧ i < (lnA ρ b : Int) ∧ i < 65536)
  · have he : eff zt (.aastore, x) ls (.inr (some d) :: .inl i :: .inr (some b) :: st) (g, ρ) = some (.inl (ls, st, (g, wrR ρ.1 b i.toNat (some d), ρ.2))) := by
      simp only [eff, shp, hl, hl2]
      rw [if_pos (by simpa using hr)]; rfl
    exact ⟨fun q => ⟨hr, (wp_nx he).mp q⟩, fun q => (wp_nx he).mpr q.2⟩
  · refine ⟨fun q => absurd q (wp_no ?_), fun q => absurd q.1 hr⟩
    simp only [eff, shp, hl, hl2]
    rw [if_neg (fun z => hr (by simpa using z))]
end RUL
/-- a state: the view, which slots are taken, the slots' views -/
abbrev SV : Type := Vw × (Nat → Bool) × (Nat → Vw)
/-- all: the state now, how many kept ones, they, the text's length, the text -/
abbrev XV : Type := SV × Nat × (Nat → SV) × Nat × (Nat → Int)
def WFS (S : SV) : Prop := WFV (-1) S.1 ∧ ∀ i, i < 2 → S.2.1 i = true → WFV (-1) (S.2.2 i)
def WFX (X : XV) : Prop := WFS X.1 ∧ X.2.1 ≤ 5 ∧ (∀ i, i < X.2.1 → WFS (X.2.2.1 i)) ∧ X.2.2.2.1 ≤ 120 ∧ ∀ j, j < X.2.2.2.1 → 1 ≤ X.2.2.2.2 j ∧ X.2.2.2.2 j ≤ 255
def SRC (g : Nat → Nat → Int) (t : Nat) (S : SV) : Prop := LR (-99) (vwC g (ad t 1)) S.1 ∧ (g (ad t 29) 0 = if S.2.1 0 = true then 1 else 0) ∧ (g (ad t 29) 1 = if S.2.1 1 = true then 1 else 0) ∧ (S.2.1 0 = true → LR (-99) (vwC g (ad t 11)) (S.2.2 0)) ∧ (S.2.1 1 = true → LR (-99) (vwC g (ad t 20)) (S.2.2 1))
def LayC (ρ : Ri) (L : Nat) (h : Nat → Nat) : Prop := isLf ρ L ∧ isStX ρ (ad L 1) ∧ (∀ i, i < 5 → isStX ρ (ad L (32 + 30 * i))) ∧ isSc ρ (ad L 182) ∧ isAr ρ (ad L 191) ∧ isPl ρ (ad L 194) ∧ isRd ρ (ad L 201) ∧ (∀ i, i < 5 → ρ.1 (ad L 31) i = some (ad L (32 + 30 * h i)) ∧ h i < 5) ∧ ∀ i j, i < 5 → j < 5 → h i = h j → i = j
def RepC (g : Nat → Nat → Int) (ρ : Ri) (L : Nat) (h : Nat → Nat) (X : XV) : Prop := LayC ρ L h ∧ SRC g (ad L 1) X.1 ∧ (∀ i, i < X.2.1 → SRC g (ad L (32 + 30 * h i)) (X.2.2.1 i)) ∧ g L 2 = X.2.1 ∧ g L 8 = X.2.2.2.1 ∧ ∀ j, j < X.2.2.2.1 → g (ad L 203) j = X.2.2.2.2 j
/-- an action's first step: the state is kept -/
def recX (X : XV) : XV := (X.1, if X.2.1 = 5 then 5 else X.2.1 + 1, (fun i => if X.2.1 = 5 then (if i < 4 then X.2.2.1 (i + 1) else X.1) else (if i = X.2.1 then X.1 else X.2.2.1 i)), X.2.2.2)
theorem recX_wf {X : XV} (h : WFX X) : WFX (recX X) := by
  obtain ⟨h1, h2, h3, h4⟩ := h
  refine ⟨h1, ?_, fun i hi => ?_, h4⟩
  · show (if X.2.1 = 5 then 5 else X.2.1 + 1) ≤ 5
    split <;> omega
  · replace hi : i < if X.2.1 = 5 then 5 else X.2.1 + 1 := hi
    show WFS (if X.2.1 = 5 then (if i < 4 then X.2.2.1 (i + 1) else X.1) else (if i = X.2.1 then X.1 else X.2.2.1 i))
    split
    next e =>
      rw [if_pos e] at hi
      split
      · exact h3 _ (by omega)
      · exact h1
    next e =>
      rw [if_neg e] at hi
      split
      · exact h1
      · exact h3 _ (by omega)
section REP
variable {zt : Nat → Nat} {g : Nat → Nat → Int} {ρ : Ri} {L t o : Nat} {S : SV}
theorem SRC.tk (h : SRC g t S) : tkB g t := by
  obtain ⟨-, h1, h2, -, -⟩ := h
  unfold tkB
  rw [h1, h2]
  constructor
  · split <;> omega
  · split <;> omega
theorem SRC.cp {g' : Nat → Nat → Int} (h : SRC g o S) (hW : WFS S) (he : stEq g' t g o) : SRC g' t S := by
  obtain ⟨h1, h2, h3, h4, h5⟩ := h
  obtain ⟨e1, ⟨e2, e3⟩, e4, e5⟩ := he
  refine ⟨h1.eq hW.1 e1, e2.trans h2, e3.trans h3, fun q => ?_, fun q => ?_⟩
  · exact (h4 q).eq (hW.2 0 (by omega) q) (e4 (by rw [h2, if_pos q]))
  · exact (h5 q).eq (hW.2 1 (by omega) q) (e5 (by rw [h3, if_pos q]))
theorem SRC.kept {g' : Nat → Nat → Int} (h : SRC g t S) (hk : ∀ x, t < x → x < t + 30 → g' x = g x) : SRC g' t S := by
  obtain ⟨h1, h2, h3, h4, h5⟩ := h
  have e1 : vwC g' (ad t 1) = vwC g (ad t 1) := vwC_kept (fun x z1 z2 => hk x (by unfold ad at *; omega) (by unfold ad at *; omega))
  have e2 : vwC g' (ad t 11) = vwC g (ad t 11) := vwC_kept (fun x z1 z2 => hk x (by unfold ad at *; omega) (by unfold ad at *; omega))
  have e3 : vwC g' (ad t 20) = vwC g (ad t 20) := vwC_kept (fun x z1 z2 => hk x (by unfold ad at *; omega) (by unfold ad at *; omega))
  have e4 : g' (ad t 29) = g (ad t 29) := hk _ (by unfold ad; omega) (by unfold ad; omega)
  unfold SRC
  rw [e1, e2, e3, e4]
  exact ⟨h1, h2, h3, h4, h5⟩
end REP
