/-! ROWS: a store as it stands but for some rows -/
def setRow (g : Nat → Nat → Int) (x : Nat) (R : Nat → Int) : Nat → Nat → Int := fun y => if y = x then R else g y
def upd1 (R : Nat → Int) (k : Nat) (v : Int) : Nat → Int := fun y => if y = k then v else R y
def cpR (f r : Nat → Int) (sp dp n : Nat) : Nat → Int := fun y => if dp ≤ y ∧ y < dp + n then f (sp + (y - dp)) else r y
theorem wrI_row {g : Nat → Nat → Int} {x k : Nat} {v : Int} : wrI g x k v = setRow g x (upd1 (g x) k v) := by
  funext y z
  unfold wrI setRow upd1
  by_cases h : y = x
  · subst h; simp
  · simp [h]
theorem cpI_row {g : Nat → Nat → Int} {s sp d dp n : Nat} : cpI g s sp d dp n = setRow g d (cpR (g s) (g d) sp dp n) := by
  funext y z
  unfold cpI setRow cpR
  by_cases h : y = d
  · subst h; simp
  · simp [h]
theorem row_s {g : Nat → Nat → Int} {x : Nat} {R : Nat → Int} : setRow g x R x = R := if_pos rfl
theorem row_n {g : Nat → Nat → Int} {x y : Nat} {R : Nat → Int} (h : ¬ y = x) : setRow g x R y = g y := if_neg h
theorem row_ss {g : Nat → Nat → Int} {x : Nat} {R S : Nat → Int} : setRow (setRow g x R) x S = setRow g x S := by
  funext y
  unfold setRow
  split <;> rfl
theorem row_sw {g : Nat → Nat → Int} {x y : Nat} {R S T : Nat → Int} (h : ¬ y = x) : setRow (setRow (setRow g x R) y S) x T = setRow (setRow g x T) y S := by
  funext z
  unfold setRow
  by_cases h1 : z = x
  · subst h1
    simp [Ne.symm h]
  · simp [h1]
theorem row_id {g : Nat → Nat → Int} {x : Nat} : setRow g x (g x) = g := by
  funext y
  unfold setRow
  split
  · next h => rw [h]
  · rfl
theorem upd_s {R : Nat → Int} {k : Nat} {v : Int} : upd1 R k v k = v := if_pos rfl
theorem upd_n {R : Nat → Int} {k j : Nat} {v : Int} (h : ¬ j = k) : upd1 R k v j = R j := if_neg h
theorem ad_inj {a i j : Nat} : (ad a i = ad a j) ↔ i = j := by unfold ad; omega
theorem ad_z {a i : Nat} : (ad a i = a) ↔ i = 0 := by unfold ad; omega
theorem ad_z2 {a i : Nat} : (a = ad a i) ↔ i = 0 := by unfold ad; omega
theorem ad_ad {a i j : Nat} : ad (ad a i) j = ad a (i + j) := by unfold ad; omega
section CPY
variable {zt : Nat → Nat} {k : Nat} {c : List RI} {ls : LsT} {st : List AV} {g : Nat → Nat → Int} {ρ : Ri} {Q : Option AV → Sto → Prop}
theorem wp_copy {n dp sp : Int} {d s i : Nat} (hs : kdI ρ s 0) (hd : kdI ρ d 0) (hl : st.length ≤ 3) : Wp zt k ((.invokestatic i, [1001, 5, 0]) :: c) ls (.inl n :: .inl dp :: .inr (some d) :: .inl sp :: .inr (some s) :: st) (g, ρ) Q ↔ (0 ≤ n ∧ 0 ≤ dp ∧ 0 ≤ sp ∧ sp + n ≤ (lnA ρ s : Int) ∧ dp + n ≤ (lnA ρ d : Int) ∧ lnA ρ s < 65536 ∧ lnA ρ d < 65536) ∧ Wp zt k c ls st (cpI g s sp.toNat d dp.toNat n.toNat, ρ) Q := by
  have h1 := kdI_ln hs
  have h2 := kdI_ln hd
  have key : eff zt (.invokestatic i, [1001, 5, 0]) ls (.inl n :: .inl dp :: .inr (some d) :: .inl sp :: .inr (some s) :: st) (g, ρ) = if (0 : Nat) = 0 ∧ (0 : Nat) = 0 ∧ 0 ≤ n ∧ 0 ≤ dp ∧ 0 ≤ sp ∧ sp + n ≤ (lnA ρ s : Int) ∧ dp + n ≤ (lnA ρ d : Int) ∧ lnA ρ s < 65536 ∧ lnA ρ d < 65536 then some (.inl (ls, st, (cpI g s sp.toNat d dp.toNat n.toNat, ρ))) else none := by
    have e0 : eff zt (.invokestatic i, [1001, 5, 0]) ls (.inl n :: .inl dp :: .inr (some d) :: .inl sp :: .inr (some s) :: st) (g, ρ) = if st.length + 1 + 1 + 1 + 1 + 1 ≤ 8 then natC 1001 ls (.inl n :: .inl dp :: .inr (some d) :: .inl sp :: .inr (some s) :: st) (g, ρ) else none := rfl
    rw [e0, if_pos (by omega)]
    simp only [natC, shp, h1, h2]
    rw [if_neg (by decide), if_pos (by decide)]
    rfl
  by_cases hr : 0 ≤ n ∧ 0 ≤ dp ∧ 0 ≤ sp ∧ sp + n ≤ (lnA ρ s : Int) ∧ dp + n ≤ (lnA ρ d : Int) ∧ lnA ρ s < 65536 ∧ lnA ρ d < 65536
  · rw [if_pos ⟨rfl, rfl, hr⟩] at key
    exact ⟨fun q => ⟨hr, (wp_nx key).mp q⟩, fun q => (wp_nx key).mpr q.2⟩
  · rw [if_neg (fun q => hr q.2.2)] at key
    exact ⟨fun q => absurd q (wp_no key), fun q => absurd q.1 hr⟩
end CPY
