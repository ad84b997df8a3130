/-! the law over the abstract machine -/
section XLK
theorem slot_ok {a b c d e : Nat} (h : a = b + c + d) (he : c + d = e) : a = b + e := by omega
variable {zt : Nat → Nat} {g : Nat → Nat → Int} {ρ : Ri} {L s n : Nat} {Q : Option AV → Sto → Prop}
theorem law_ok (hs : ρ.2.1 s = some (4, n)) (hsL : s < L) (hn : n ≤ 2048) (ht : ρ.2.2.1 = L) (hZ : zrI g ρ zt L) (hQ : ∀ (g' : Nat → Nat → Int) (ρ' : Ri), ρ'.2.2.1 = L + 204 → ρ'.2.2.2 = ρ.2.2.2 + 9964 → Q (some (AI 1)) (g', ρ')) : WpM zt 95 [AR s] (g, ρ) Q := by
  rw [m_W_law]
  unfold b_W_law_0
  obtain ⟨z, z0, z1, z2, z3, z4⟩ := id hZ
  have e5 : ∀ (k : Nat) (cs : List RI) (ls : LsT) (st : List AV) (i : Nat) (Q : Option AV → Sto → Prop), Wp zt k ((.new i, [5]) :: cs) ls st (g, ρ) Q ↔ Wp zt k cs ls (.inr (some L) :: st) (setRow g L (fun _ => 0), nwC ρ L 15 9) Q := fun k cs ls st i Q => wp_new ht
  rw [e5, wp_dup, wp_ci1 (rk := 15) (by omega) (kdI_of nwC_s) (by simp)]
  refine L_init_ok nwC_s rfl (fun k => by rw [row_s]) (zr_low (nwC_o (by have := z 0 (by omega); omega)) (row_n (by have := z 0 (by omega); omega)) z0) (zr_low (nwC_o (by have := z 1 (by omega); omega)) (row_n (by have := z 1 (by omega); omega)) z1) (z 0 (by omega)) (z 1 (by omega)) (fun g1 ρ1 a1 a2 => ?_)
  obtain ⟨n1, n2, n3⟩ := a2
  show Wp zt 95 _ _ [AR L] (g1, ρ1) Q
  rw [wp_asn1]
  have lo1 : ∀ x, x < L → ρ1.2.1 x = ρ.2.1 x ∧ g1 x = g x := fun x hx => ⟨((n3 x hx).2.1).trans (nwC_o (by omega)), ((n3 x hx).2.2).trans (row_n (by omega))⟩
  have hZ1 : zrI g1 ρ1 zt L := ⟨z, zr_low (lo1 _ (z 0 (by omega))).1 (lo1 _ (z 0 (by omega))).2 z0, zr_low (lo1 _ (z 1 (by omega))).1 (lo1 _ (z 1 (by omega))).2 z1, zr_low (lo1 _ (z 2 (by omega))).1 (lo1 _ (z 2 (by omega))).2 z2, zr_low (lo1 _ (z 3 (by omega))).1 (lo1 _ (z 3 (by omega))).2 z3, zr_low (lo1 _ (z 4 (by omega))).1 (lo1 _ (z 4 (by omega))).2 z4⟩
  -- the script alone, for the law over states
  obtain ⟨ρr, hρr⟩ : ∃ ρr : Ri, ρr = (ρ1.1, (fun a => if a = s then some (4, n) else none), 0, 0) := ⟨_, rfl⟩
  have hrs : ρr.2.1 s = some (4, n) := by rw [hρr]; exact if_pos rfl
  have hro : ∀ a, (∃ v, shp (g1, ρr) a = some v) → a < L ∧ ρ1.2.1 a = shp (g1, ρr) a ∧ g1 a = (g1, ρr).1 a := fun a ha => by
    obtain ⟨v, hv⟩ := ha
    have hv2 : ρr.2.1 a = some v := hv
    have e : a = s := by
      by_cases e : a = s
      · exact e
      · rw [hρr] at hv2
        have hv3 : (if a = s then some (4, n) else none) = some v := hv2
        rw [if_neg e] at hv3
        cases hv3
    subst e
    refine ⟨hsL, ?_, rfl⟩
    show ρ1.2.1 a = ρr.2.1 a
    rw [hrs, (lo1 a hsL).1]
    exact hs
  obtain ⟨m, v, X', hr, hv⟩ := law_x (zt := zt) (L := L) (g := g1) (ρ := ρr) (kdI_of hrs) (by rw [lnA_of hrs]; exact hn) (Q := fun v _ => v = some (AI 1)) (fun X' => rfl)
  have hw := xsnd (σ0 := (g1, ρr)) hro hZ1 m _ _ _ _ _ _ _ hr id g1 ρ1 ⟨iniX_wf, a1, rfl, fun _ _ => rfl⟩
  unfold b_W_law_0 at hw
  simp only [List.drop] at hw
  refine wp_mono hw (fun v2 σ2 hq => ?_)
  obtain ⟨rfl, h', hI⟩ := hq
  rw [hv]
  refine hQ σ2.1 σ2.2 ?_ ?_
  · rw [hI.2.2.1]
    exact n1
  · have e2 : (nwC ρ L 15 9).2.2.2 = ρ.2.2.2 + 9 := rfl
    rw [e2] at n2
    rw [hI.2.2.1]
    exact slot_ok n2 (by decide)
end XLK
