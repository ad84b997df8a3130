/-! PLANS: a plan p that is allowed costs no less than the least sum, and the best plan costs just that -/
/-- the run in a frame, counted up to the hold -/
def capR (h : Nat) (p : Nat → Nat) : Nat → Nat
  | 0 => 0
  | f + 1 => if p (f + 1) = p f then min (capR h p f + 1) (h - 1) else 0
def okP (F M h : Nat) (cl : Nat → Nat → Bool) (p : Nat → Nat) : Prop := ∀ f, f < F → p f < M ∧ ∀ f', f = f' + 1 → p f = p f' ∨ (capR h p f' = h - 1 ∧ cl (p f') (p f) = true)
def sumP (c : Nat → Nat → Int) (p : Nat → Nat) : Nat → Int
  | 0 => 0
  | f + 1 => sumP c p f + c f (p f)
section DPM
variable {F M h : Nat} {c : Nat → Nat → Int} {cl : Nat → Nat → Bool} {p : Nat → Nat}
theorem minB_le {q : Nat → Bool} {v : Nat → Int} : ∀ (n : Nat) {j : Nat}, j < n → q j = true → minB q v n ≤ v j
  | 0, j, hj, _ => by omega
  | n + 1, j, hj, hq => by
    simp only [minB]
    by_cases e : j = n
    · subst e
      rw [if_pos hq]
      omega
    · have h1 := minB_le (q := q) (v := v) n (j := j) (by omega) hq
      split <;> omega
theorem minB_top {q : Nat → Bool} {v : Nat → Int} : ∀ n : Nat, minB q v n ≤ 1000000
  | 0 => by simp only [minB]; omega
  | n + 1 => by
    have h1 := minB_top (q := q) (v := v) n
    simp only [minB]
    split <;> omega
theorem minB_mono {q : Nat → Bool} {v w : Nat → Int} (h : ∀ j, v j ≤ w j) : ∀ n : Nat, minB q v n ≤ minB q w n
  | 0 => by simp only [minB]; omega
  | n + 1 => by
    have h1 := minB_mono (q := q) h n
    have h2 := h n
    simp only [minB]
    split <;> omega
theorem Rv_s {d m r : Nat} : Rv F M h c cl (d + 1) m r = min 1000000 (c (F - (d + 1)) m + (if d = 0 then 0 else if r = h - 1 then min (Rv F M h c cl d m (min (r + 1) (h - 1))) (minB (fun o => !(o == m) && cl m o) (fun o => Rv F M h c cl d o 0) M) else Rv F M h c cl d m (min (r + 1) (h - 1)))) := rfl
theorem Rv_mono {c' : Nat → Nat → Int} (hc : ∀ f m, c f m ≤ c' f m) : ∀ d m r, Rv F M h c cl d m r ≤ Rv F M h c' cl d m r
  | 0, m, r => Int.le_refl _
  | d + 1, m, r => by
    have h1 := hc (F - (d + 1)) m
    have h2 := fun m r => Rv_mono hc d m r
    have h3 := minB_mono (q := fun o => !(o == m) && cl m o) (fun o => h2 o 0) M
    have h4 := h2 m (min (r + 1) (h - 1))
    rw [Rv_s, Rv_s]
    split
    · omega
    · split <;> omega
theorem totV_mono {c' : Nat → Nat → Int} (hc : ∀ f m, c f m ≤ c' f m) : totV F M h c cl ≤ totV F M h c' cl := minB_mono (fun m => Rv_mono hc F m 0) M
theorem Rv_le (ok : okP F M h cl p) : ∀ (d f : Nat), f + d = F → Rv F M h c cl d (p f) (capR h p f) ≤ sumP c p F - sumP c p f
  | 0, f, hf => by
    have e : f = F := by omega
    rw [e]
    show (0 : Int) ≤ _
    omega
  | d + 1, f, hf => by
    have e : F - (d + 1) = f := by omega
    have es : sumP c p (f + 1) = sumP c p f + c f (p f) := rfl
    rw [Rv_s, e]
    by_cases hd : d = 0
    · rw [if_pos hd]
      have e2 : F = f + 1 := by omega
      rw [e2, es]
      omega
    · rw [if_neg hd]
      have ih := Rv_le ok d (f + 1) (by omega)
      have ec : capR h p (f + 1) = if p (f + 1) = p f then min (capR h p f + 1) (h - 1) else 0 := rfl
      by_cases hp : p (f + 1) = p f
      · rw [if_pos hp] at ec
        rw [ec, hp] at ih
        split <;> omega
      · rw [if_neg hp] at ec
        rw [ec] at ih
        obtain ⟨o1, o2⟩ := (((ok (f + 1) (by omega)).2 f rfl).resolve_left hp)
        rw [if_pos o1]
        have h3 := minB_le (q := fun o => !(o == p f) && cl (p f) o) (v := fun o => Rv F M h c cl d o 0) M (j := p (f + 1)) (ok (f + 1) (by omega)).1 (by simp [hp, o2])
        omega
theorem tot_le (ok : okP F M h cl p) (hF : 0 < F) : totV F M h c cl ≤ sumP c p F := by
  have h1 := Rv_le (c := c) ok F 0 (by omega)
  have h2 := minB_le (q := fun _ => true) (v := fun m => Rv F M h c cl F m 0) M (j := p 0) (ok 0 hF).1 rfl
  have e1 : capR h p 0 = 0 := rfl
  have e2 : sumP c p 0 = 0 := rfl
  rw [e1, e2] at h1
  unfold totV
  omega
theorem amin_le {f : Nat → Int} : ∀ (n : Nat) {j : Nat}, j < n → f (amin f n) ≤ f j
  | 0, j, hj => by omega
  | n + 1, j, hj => by
    show f (if f n < f (amin f n) then n else amin f n) ≤ f j
    by_cases e : j = n
    · subst e
      split <;> omega
    · have h1 := amin_le (f := f) n (j := j) (by omega)
      split <;> omega
theorem nbV_val (s : Nat → Int) (last : Nat) : ∀ n : Nat, minB (fun _ => true) s n < 1000000 → s (nbV s last n) = minB (fun _ => true) s n
  | 0, hm => by
    simp only [minB] at hm
    omega
  | n + 1, hm => by
    simp only [minB, if_true] at hm ⊢
    simp only [nbV]
    by_cases e : s n < minB (fun _ => true) s n
    · rw [if_pos e]
      omega
    · have ih := nbV_val s last n (by omega)
      rw [if_neg e, ih]
      omega
theorem pln_s {f : Nat} : plnV F M h c cl (f + 1) = (nbV (sNV F M h c cl (f + 1) (plnV F M h c cl f).1 (plnV F M h c cl f).2) (plnV F M h c cl f).1 M, if nbV (sNV F M h c cl (f + 1) (plnV F M h c cl f).1 (plnV F M h c cl f).2) (plnV F M h c cl f).1 M = (plnV F M h c cl f).1 then min ((plnV F M h c cl f).2 + 1) (h - 1) else 0) := rfl
theorem pln_cap : ∀ f : Nat, (plnV F M h c cl f).2 = capR h (fun f => (plnV F M h c cl f).1) f
  | 0 => rfl
  | f + 1 => by
    have ih := pln_cap f
    show (plnV F M h c cl (f + 1)).2 = if (plnV F M h c cl (f + 1)).1 = (plnV F M h c cl f).1 then min (capR h (fun f => (plnV F M h c cl f).1) f + 1) (h - 1) else 0
    rw [← ih, pln_s]
/-- a step of the best plan -/
theorem pln_step (hc : ∀ f m, 0 ≤ c f m) (hM : 0 < M) (hh : 0 < h) {f : Nat} (hf : f + 1 < F) (hR : Rv F M h c cl (F - f) (plnV F M h c cl f).1 (plnV F M h c cl f).2 < 1000000) :
    c f (plnV F M h c cl f).1 + Rv F M h c cl (F - (f + 1)) (plnV F M h c cl (f + 1)).1 (plnV F M h c cl (f + 1)).2 ≤ Rv F M h c cl (F - f) (plnV F M h c cl f).1 (plnV F M h c cl f).2 ∧ ((plnV F M h c cl (f + 1)).1 = (plnV F M h c cl f).1 ∨ ((plnV F M h c cl f).2 = h - 1 ∧ cl (plnV F M h c cl f).1 (plnV F M h c cl (f + 1)).1 = true)) := by
  obtain ⟨d, hd⟩ : ∃ d, F - f = d + 1 := ⟨F - f - 1, by omega⟩
  have hd2 : F - (f + 1) = d := by omega
  have hd0 : ¬ d = 0 := by omega
  have hfe : F - (d + 1) = f := by omega
  have hb := plnV_b (F := F) (c := c) (cl := cl) hM hh f
  rw [hd] at hR ⊢
  rw [hd2]
  rw [Rv_s, if_neg hd0, hfe] at hR ⊢
  rw [pln_s]
  dsimp only
  generalize (plnV F M h c cl f).1 = m at *
  generalize (plnV F M h c cl f).2 = r at *
  have hc0 := hc f m
  -- the least of what may follow
  have key : minB (fun _ => true) (sNV F M h c cl (f + 1) m r) M ≤ (if r = h - 1 then min (Rv F M h c cl d m (min (r + 1) (h - 1))) (minB (fun o => !(o == m) && cl m o) (fun o => Rv F M h c cl d o 0) M) else Rv F M h c cl d m (min (r + 1) (h - 1))) := by
    have hA : minB (fun _ => true) (sNV F M h c cl (f + 1) m r) M ≤ Rv F M h c cl d m (min (r + 1) (h - 1)) := by
      have h1 := minB_le (q := fun _ => true) (v := sNV F M h c cl (f + 1) m r) M (j := m) hb.1 rfl
      have h2 : sNV F M h c cl (f + 1) m r m = Rv F M h c cl d m (min (r + 1) (h - 1)) := by
        unfold sNV
        rw [if_pos rfl, hd2]
      omega
    by_cases e : r = h - 1
    · rw [if_pos e]
      have hB : minB (fun _ => true) (sNV F M h c cl (f + 1) m r) M ≤ minB (fun o => !(o == m) && cl m o) (fun o => Rv F M h c cl d o 0) M := by
        refine (le_minB (minB_top M) M).2 (fun j hj hq => ?_)
        have h1 := minB_le (q := fun _ => true) (v := sNV F M h c cl (f + 1) m r) M (j := j) hj rfl
        have h2 : ¬ j = m ∧ cl m j = true := by simpa using hq
        have h3 : sNV F M h c cl (f + 1) m r j = Rv F M h c cl d j 0 := by
          unfold sNV
          rw [if_neg h2.1, if_pos ⟨e, h2.2⟩, hd2]
        omega
      omega
    · rw [if_neg e]
      exact hA
  have hlt : minB (fun _ => true) (sNV F M h c cl (f + 1) m r) M < 1000000 := by omega
  have hv := nbV_val (sNV F M h c cl (f + 1) m r) m M hlt
  generalize minB (fun _ => true) (sNV F M h c cl (f + 1) m r) M = mb at hv key hlt
  generalize nbV (sNV F M h c cl (f + 1) m r) m M = nb at *
  unfold sNV at hv
  by_cases e1 : nb = m
  · rw [if_pos e1, hd2] at hv
    rw [if_pos e1]
    exact ⟨by omega, Or.inl e1⟩
  · rw [if_neg e1] at hv
    rw [if_neg e1]
    by_cases e2 : r = h - 1 ∧ cl m nb = true
    · rw [if_pos e2, hd2] at hv
      exact ⟨by omega, Or.inr e2⟩
    · rw [if_neg e2] at hv
      omega
theorem pln_run (hc : ∀ f m, 0 ≤ c f m) (hM : 0 < M) (hh : 0 < h) (hF : 0 < F) (ht : totV F M h c cl < 1000000) : ∀ f : Nat, f < F → Rv F M h c cl (F - f) (plnV F M h c cl f).1 (plnV F M h c cl f).2 < 1000000 ∧ 0 ≤ sumP c (fun f => (plnV F M h c cl f).1) f ∧ sumP c (fun f => (plnV F M h c cl f).1) f + Rv F M h c cl (F - f) (plnV F M h c cl f).1 (plnV F M h c cl f).2 ≤ totV F M h c cl
  | 0, _ => by
    have e : totV F M h c cl = Rv F M h c cl F (amin (fun m => Rv F M h c cl F m 0) M) 0 := by
      have hl := amin_lt (f := fun m => Rv F M h c cl F m 0) M hM
      have h1 := minB_le (q := fun _ => true) (v := fun m => Rv F M h c cl F m 0) M hl rfl
      have h2 : Rv F M h c cl F (amin (fun m => Rv F M h c cl F m 0) M) 0 ≤ totV F M h c cl := (le_minB (Rv_b hc _ _ _).2 M).2 (fun j hj _ => amin_le (f := fun m => Rv F M h c cl F m 0) M hj)
      unfold totV at h2 ⊢
      omega
    show Rv F M h c cl F (amin (fun m => Rv F M h c cl F m 0) M) 0 < 1000000 ∧ (0 : Int) ≤ 0 ∧ 0 + Rv F M h c cl F (amin (fun m => Rv F M h c cl F m 0) M) 0 ≤ _
    omega
  | f + 1, hf => by
    obtain ⟨i1, i2, i3⟩ := pln_run hc hM hh hF ht f (by omega)
    obtain ⟨s1, s2⟩ := pln_step hc hM hh hf i1
    have hc0 := hc f (plnV F M h c cl f).1
    have es : sumP c (fun f => (plnV F M h c cl f).1) (f + 1) = sumP c (fun f => (plnV F M h c cl f).1) f + c f (plnV F M h c cl f).1 := rfl
    rw [es]
    omega
theorem pln_c (hc : ∀ f m, 0 ≤ c f m) {f m r : Nat} (hf : f < F) (hR : Rv F M h c cl (F - f) m r < 1000000) : c f m ≤ Rv F M h c cl (F - f) m r := by
  obtain ⟨d, hd⟩ : ∃ d, F - f = d + 1 := ⟨F - f - 1, by omega⟩
  have hfe : F - (d + 1) = f := by omega
  rw [hd] at hR ⊢
  rw [Rv_s, hfe] at hR ⊢
  have h2 := fun m r => Rv_b (F := F) (M := M) (h := h) (cl := cl) hc d m r
  have h3 := minB_b (p := fun o => !(o == m) && cl m o) (v := fun o => Rv F M h c cl d o 0) (fun o => (h2 o 0).1) M
  have h4 := h2 m (min (r + 1) (h - 1))
  split at hR
  next e =>
    rw [if_pos e]
    omega
  next e =>
    rw [if_neg e]
    split at hR
    next e2 =>
      rw [if_pos e2]
      omega
    next e2 =>
      rw [if_neg e2]
      omega
/-- the best plan -/
theorem pln_all (hc : ∀ f m, 0 ≤ c f m) (hM : 0 < M) (hh : 0 < h) (hF : 0 < F) (ht : totV F M h c cl < 1000000) : okP F M h cl (fun f => (plnV F M h c cl f).1) ∧ sumP c (fun f => (plnV F M h c cl f).1) F = totV F M h c cl ∧ ∀ f, f < F → c f (plnV F M h c cl f).1 < 1000000 := by
  have ok : okP F M h cl (fun f => (plnV F M h c cl f).1) := by
    intro f hf
    refine ⟨(plnV_b (F := F) (c := c) (cl := cl) hM hh f).1, fun f' e => ?_⟩
    subst e
    obtain ⟨i1, i2, i3⟩ := pln_run hc hM hh hF ht f' (by omega)
    have s2 := (pln_step hc hM hh hf i1).2
    rw [pln_cap] at s2
    exact s2
  refine ⟨ok, ?_, fun f hf => ?_⟩
  · have h1 := tot_le (c := c) ok hF
    obtain ⟨i1, i2, i3⟩ := pln_run hc hM hh hF ht (F - 1) (by omega)
    have h2 := pln_c hc (by omega) i1
    have es : sumP c (fun f => (plnV F M h c cl f).1) (F - 1 + 1) = sumP c (fun f => (plnV F M h c cl f).1) (F - 1) + c (F - 1) (plnV F M h c cl (F - 1)).1 := rfl
    rw [show F - 1 + 1 = F by omega] at es
    omega
  · obtain ⟨i1, i2, i3⟩ := pln_run hc hM hh hF ht f hf
    have h2 := pln_c hc hf i1
    omega
end DPM
