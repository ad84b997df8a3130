/-! THE PLANS' LEAST SUMS COUNTED FROM THE START, and that they are the same -/
/-- what the frames before f cost at least when frame f has the mouth m with the run r, out of the sums H of the frame before -/
def Ev (M h : Nat) (cl : Nat → Nat → Bool) (H : Nat → Nat → Int) (m r : Nat) : Int := min (if r = 0 then minB (fun o => !(o == m) && cl o m) (fun o => H o (h - 1)) M else 1000000) (minB (fun run => decide (min (run + 1) (h - 1) = r)) (fun run => H m run) h)
def Hv (M h : Nat) (c : Nat → Nat → Int) (cl : Nat → Nat → Bool) : Nat → Nat → Nat → Int
  | 0 => fun m r => min 1000000 ((if r = 0 then 0 else 1000000) + c 0 m)
  | f + 1 => fun m r => min 1000000 (Ev M h cl (Hv M h c cl f) m r + c (f + 1) m)
/-- what is before frame f at least -/
def Bv (M h : Nat) (c : Nat → Nat → Int) (cl : Nat → Nat → Bool) : Nat → Nat → Nat → Int
  | 0 => fun _ r => if r = 0 then 0 else 1000000
  | f + 1 => Ev M h cl (Hv M h c cl f)
theorem Hv_B {M h : Nat} {c : Nat → Nat → Int} {cl : Nat → Nat → Bool} {f m r : Nat} : Hv M h c cl f m r = min 1000000 (Bv M h c cl f m r + c f m) := by
  cases f <;> rfl
theorem Hv_b {M h : Nat} {c : Nat → Nat → Int} {cl : Nat → Nat → Bool} (hc : ∀ f m, 0 ≤ c f m) : ∀ f m r, (0 ≤ Hv M h c cl f m r ∧ Hv M h c cl f m r ≤ 1000000) ∧ 0 ≤ Bv M h c cl f m r ∧ Bv M h c cl f m r ≤ 1000000
  | 0, m, r => by
    have h1 := hc 0 m
    simp only [Hv, Bv]
    split <;> omega
  | f + 1, m, r => by
    have h1 := hc (f + 1) m
    have h2 := fun m r => (Hv_b (M := M) (h := h) (cl := cl) hc f m r).1
    have h3 := minB_b (p := fun o => !(o == m) && cl o m) (v := fun o => Hv M h c cl f o (h - 1)) (fun o => (h2 o _).1) M
    have h4 := minB_b (p := fun run => decide (min (run + 1) (h - 1) = r)) (v := fun run => Hv M h c cl f m run) (fun o => (h2 m o).1) h
    simp only [Hv, Bv, Ev]
    split <;> omega
theorem le_minB {p : Nat → Bool} {v : Nat → Int} {x : Int} (hx : x ≤ 1000000) : ∀ n, x ≤ minB p v n ↔ ∀ j, j < n → p j = true → x ≤ v j
  | 0 => ⟨fun _ j hj => by omega, fun _ => hx⟩
  | n + 1 => by
    have h1 := le_minB (p := p) (v := v) hx n
    constructor
    · intro h j hj hp
      by_cases e : j = n
      · subst e
        simp only [minB] at h
        rw [if_pos hp] at h
        omega
      · refine h1.1 ?_ j (by omega) hp
        simp only [minB] at h
        split at h <;> omega
    · intro h
      have h2 := h1.2 (fun j hj hp => h j (by omega) hp)
      simp only [minB]
      split
      next hp =>
        have := h n (by omega) hp
        omega
      next hp => exact h2
/-- the least sum as counted from the start -/
def totH (F M h : Nat) (c : Nat → Nat → Int) (cl : Nat → Nat → Bool) : Int := minB (fun _ => true) (fun m => minB (fun _ => true) (fun r => Hv M h c cl (F - 1) m r) h) M
section FWD
variable {F M h : Nat} {c : Nat → Nat → Int} {cl : Nat → Nat → Bool}
def crsV (F M h : Nat) (c : Nat → Nat → Int) (cl : Nat → Nat → Bool) (f : Nat) (x : Int) : Prop := ∀ m r, m < M → r < h → x ≤ Bv M h c cl f m r + Rv F M h c cl (F - f) m r
theorem crs_step (hc : ∀ f m, 0 ≤ c f m) (hh : 0 < h) {f : Nat} (hf : f + 1 < F) {x : Int} (hx : x ≤ 1000000) : crsV F M h c cl f x ↔ crsV F M h c cl (f + 1) x := by
  obtain ⟨d, hd⟩ : ∃ d, F - f = d + 2 := ⟨F - f - 2, by omega⟩
  have hd1 : F - (f + 1) = d + 1 := by omega
  have hfd : F - (d + 1 + 1) = f := by omega
  have hB := fun m r => (Hv_b (M := M) (h := h) (cl := cl) hc f m r).2
  have hR := fun m r => Rv_b (F := F) (M := M) (h := h) (cl := cl) hc (d + 1) m r
  have hc0 := fun m => hc f m
  have L : crsV F M h c cl f x ↔ ∀ m r, m < M → r < h → x ≤ Bv M h c cl f m r + c f m + Rv F M h c cl (d + 1) m (min (r + 1) (h - 1)) ∧ (r = h - 1 → ∀ o, o < M → o ≠ m → cl m o = true → x ≤ Bv M h c cl f m r + c f m + Rv F M h c cl (d + 1) o 0) := by
    unfold crsV
    rw [hd]
    refine forall_congr' fun m => forall_congr' fun r => forall_congr' fun hm => forall_congr' fun hr => ?_
    have q1 := hB m r
    have q2 := hc0 m
    have q3 := hR m (min (r + 1) (h - 1))
    rw [show Rv F M h c cl (d + 2) m r = min 1000000 (c f m + (if d + 1 = 0 then 0 else if r = h - 1 then min (Rv F M h c cl (d + 1) m (min (r + 1) (h - 1))) (minB (fun o => !(o == m) && cl m o) (fun o => Rv F M h c cl (d + 1) o 0) M) else Rv F M h c cl (d + 1) m (min (r + 1) (h - 1)))) by simp only [Rv, hfd]]
    rw [if_neg (by omega)]
    by_cases e : r = h - 1
    · rw [if_pos e]
      have k := le_minB (p := fun o => !(o == m) && cl m o) (v := fun o => Rv F M h c cl (d + 1) o 0) (x := x - (Bv M h c cl f m r + c f m)) (by omega) M
      constructor
      · intro z
        refine ⟨by omega, fun _ o ho hne hcl => ?_⟩
        have := k.1 (by omega) o ho (by simp [hne, hcl])
        omega
      · intro z
        have := k.2 (fun o ho hp => by
          simp only [Bool.and_eq_true, Bool.not_eq_true', beq_eq_false_iff_ne, ne_eq] at hp
          have := z.2 e o ho hp.1 hp.2
          omega)
        omega
    · rw [if_neg e]
      constructor
      · intro z
        exact ⟨by omega, fun q => absurd q e⟩
      · intro z
        omega
  have Rr : crsV F M h c cl (f + 1) x ↔ ∀ m r, m < M → r < h → (r = 0 → ∀ o, o < M → o ≠ m → cl o m = true → x ≤ Bv M h c cl f o (h - 1) + c f o + Rv F M h c cl (d + 1) m 0) ∧ (∀ run, run < h → min (run + 1) (h - 1) = r → x ≤ Bv M h c cl f m run + c f m + Rv F M h c cl (d + 1) m r) := by
    unfold crsV
    rw [hd1]
    refine forall_congr' fun m => forall_congr' fun r => forall_congr' fun hm => forall_congr' fun hr => ?_
    have q3 := hR m r
    have k1 := le_minB (p := fun o => !(o == m) && cl o m) (v := fun o => Hv M h c cl f o (h - 1)) (x := x - Rv F M h c cl (d + 1) m r) (by omega) M
    have k2 := le_minB (p := fun run => decide (min (run + 1) (h - 1) = r)) (v := fun run => Hv M h c cl f m run) (x := x - Rv F M h c cl (d + 1) m r) (by omega) h
    show x ≤ Ev M h cl (Hv M h c cl f) m r + Rv F M h c cl (d + 1) m r ↔ _
    unfold Ev
    constructor
    · intro z
      constructor
      · intro e o ho hne hcl
        subst e
        rw [if_pos rfl] at z
        have := k1.1 (by omega) o ho (by simp [hne, hcl])
        rw [Hv_B] at this
        omega
      · intro run h1 h2
        have := k2.1 (by omega) run h1 (by simp [h2])
        rw [Hv_B] at this
        omega
    · intro z
      have z2 := k2.2 (fun run h1 h2 => by
        have := z.2 run h1 (by simpa using h2)
        have w1 := hB m run
        rw [Hv_B]
        omega)
      by_cases e : r = 0
      · have z1 := k1.2 (fun o ho hp => by
          simp only [Bool.and_eq_true, Bool.not_eq_true', beq_eq_false_iff_ne, ne_eq] at hp
          have := z.1 e o ho hp.1 hp.2
          have w1 := hB o (h - 1)
          subst e
          rw [Hv_B]
          omega)
        rw [if_pos e]
        omega
      · rw [if_neg e]
        omega
  rw [L, Rr]
  constructor
  · intro z m r hm hr
    refine ⟨fun e o ho hne hcl => ?_, fun run h1 h2 => ?_⟩
    · exact (z o (h - 1) ho (by omega)).2 rfl m hm (fun q => hne q.symm) hcl
    · have := (z m run hm h1).1
      rw [h2] at this
      exact this
  · intro z m r hm hr
    refine ⟨(z m (min (r + 1) (h - 1)) hm (by omega)).2 r hr rfl, fun e o ho hne hcl => ?_⟩
    have := (z o 0 ho (by omega)).1 rfl m hm (fun q => hne q.symm) hcl
    rw [← e] at this
    exact this
theorem tot_eq (hc : ∀ f m, 0 ≤ c f m) (hh : 0 < h) (hF : 0 < F) : totH F M h c cl = totV F M h c cl := by
  have key : ∀ x : Int, x ≤ 1000000 → (x ≤ totH F M h c cl ↔ x ≤ totV F M h c cl) := by
    intro x hx
    have h0 : x ≤ totV F M h c cl ↔ crsV F M h c cl 0 x := by
      unfold totV crsV
      rw [le_minB hx]
      constructor
      · intro z m r hm hr
        have q1 := z m hm rfl
        have q2 := Rv_b (F := F) (M := M) (h := h) (cl := cl) hc F m r
        show x ≤ (if r = 0 then 0 else 1000000) + Rv F M h c cl (F - 0) m r
        rw [Nat.sub_zero]
        by_cases e : r = 0
        · rw [if_pos e]
          subst e
          omega
        · rw [if_neg e]
          omega
      · intro z m hm _
        have q1 := z m 0 hm hh
        rw [Nat.sub_zero] at q1
        have e : Bv M h c cl 0 m 0 = 0 := rfl
        omega
    have h1 : ∀ f, f < F → (crsV F M h c cl 0 x ↔ crsV F M h c cl f x) := by
      intro f
      induction f with
      | zero => exact fun _ => Iff.rfl
      | succ f ih => exact fun q => (ih (by omega)).trans (crs_step hc hh (by omega) hx)
    have h2 : x ≤ totH F M h c cl ↔ crsV F M h c cl (F - 1) x := by
      unfold totH crsV
      rw [le_minB hx]
      have e1 : F - (F - 1) = 1 := by omega
      rw [e1]
      have e2 : ∀ m r, Rv F M h c cl 1 m r = min 1000000 (c (F - 1) m) := fun m r => by
        simp only [Rv, if_true, Nat.zero_add]
        omega
      constructor
      · intro z m r hm hr
        have q1 := (le_minB hx h).1 (z m hm rfl) r hr rfl
        have q2 := (Hv_b (M := M) (h := h) (cl := cl) hc (F - 1) m r).2
        rw [Hv_B] at q1
        rw [e2]
        omega
      · intro z m hm _
        rw [le_minB hx]
        intro r hr _
        have q1 := z m r hm hr
        have q2 := hc (F - 1) m
        have q3 := (Hv_b (M := M) (h := h) (cl := cl) hc (F - 1) m r).2
        rw [e2] at q1
        rw [Hv_B]
        omega
    rw [h0, h1 (F - 1) (by omega), h2]
  have b1 : totH F M h c cl ≤ 1000000 := (minB_b (fun m => (minB_b (fun r => (Hv_b hc _ m r).1.1) h).1) M).2
  have b2 : totV F M h c cl ≤ 1000000 := (minB_b (fun m => (Rv_b hc F m 0).1) M).2
  have k1 := (key _ b1).1 (Int.le_refl _)
  have k2 := (key _ b2).2 (Int.le_refl _)
  omega
end FWD
