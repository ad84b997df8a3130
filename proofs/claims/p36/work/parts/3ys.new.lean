/-! CONSTRUCTORS: new objects and rows -/
section NEW
variable {zt : Nat → Nat} {k : Nat} {cs : List RI} {ls : LsT} {st : List AV} {g : Nat → Nat → Int} {ρ : Ri} {Q : Option AV → Sto → Prop} {x : List Nat}
/-- the references and shapes with a new cell at t, of shape kd and n places -/
def nwC (ρ : Ri) (t kd n : Nat) : Ri := (fun x y => if x = t then none else ρ.1 x y, fun x => if x = t then some (kd, n) else ρ.2.1 x, t + 1, ρ.2.2.2 + n)
/-- a field set to it -/
def stF (ρ : Ri) (a i t : Nat) : Ri := (wrR ρ.1 a i (some t), ρ.2)
theorem mkS_eq {t kd n : Nat} (ht : ρ.2.2.1 = t) : mkS (g, ρ) kd n = (setRow g t (fun _ => 0), nwC ρ t kd n) := by
  subst ht
  unfold mkS nwC
  refine Prod.ext ?_ rfl
  funext y z
  unfold setRow
  dsimp only
  split
  · rfl
  · rfl
theorem wp_newa {ty : Jvm.ClassFile.ArrayType} {kd t n : Nat} (ht : ρ.2.2.1 = t) (hn : n < 65536) : Wp zt k ((.newarray ty, [kd]) :: cs) ls (.inl (n : Int) :: st) (g, ρ) Q ↔ Wp zt k cs ls (.inr (some t) :: st) (setRow g t (fun _ => 0), nwC ρ t kd n) Q := by
  rw [← mkS_eq ht, ← ht]
  refine wp_nx ?_
  show (if (0 : Int) ≤ (n : Int) ∧ (n : Int) < 65536 then nx ls (.inr (some (topS (g, ρ))) :: st) (mkS (g, ρ) kd (n : Int).toNat) else none) = _
  rw [if_pos (by omega), Int.toNat_natCast]
  rfl
theorem wp_anewa {i kd t n : Nat} (ht : ρ.2.2.1 = t) (hn : n < 65536) : Wp zt k ((.anewarray i, [kd]) :: cs) ls (.inl (n : Int) :: st) (g, ρ) Q ↔ Wp zt k cs ls (.inr (some t) :: st) (setRow g t (fun _ => 0), nwC ρ t kd n) Q := by
  rw [← mkS_eq ht, ← ht]
  refine wp_nx ?_
  show (if (0 : Int) ≤ (n : Int) ∧ (n : Int) < 65536 then nx ls (.inr (some (topS (g, ρ))) :: st) (mkS (g, ρ) kd (n : Int).toNat) else none) = _
  rw [if_pos (by omega), Int.toNat_natCast]
  rfl
theorem wp_new {i c t : Nat} (ht : ρ.2.2.1 = t) : Wp zt k ((.new i, [c]) :: cs) ls st (g, ρ) Q ↔ Wp zt k cs ls (.inr (some t) :: st) (setRow g t (fun _ => 0), nwC ρ t (10 + c) (NF c)) Q := by
  rw [← mkS_eq ht, ← ht]
  exact wp_nx rfl
theorem wp_obj {i a : Nat} (hs : st.length ≤ 7) : Wp zt k ((.invokespecial i, [1000, 1, 0]) :: cs) ls (.inr (some a) :: st) (g, ρ) Q ↔ Wp zt k cs ls st (g, ρ) Q := by
  refine wp_nx ?_
  show (if 1000 ≤ (1000 : Nat) then (if (AR a :: st).length ≤ 8 then natC 1000 ls (AR a :: st) (g, ρ) else none) else cal [1000, 1, 0] (AR a :: st) (g, ρ)) = _
  rw [if_pos (Nat.le_refl _), if_pos (by simp only [List.length_cons]; omega)]
  rfl
theorem wp_pfr {i c j a b n0 : Nat} (h : ρ.2.1 a = some (10 + c, n0)) (hf : fI c j = false) : Wp zt k ((.putfield i, [c, j]) :: cs) ls (.inr (some b) :: .inr (some a) :: st) (g, ρ) Q ↔ Wp zt k cs ls st (g, stF ρ a j b) Q := by
  refine wp_nx ?_
  show (match shp (g, ρ) a with
    | some (kd, _) => if kd = 10 + c ∧ fI c j = false then nx ls st (g, wrR ρ.1 a j (some b), ρ.2) else none
    | none => none) = _
  rw [show shp (g, ρ) a = some (10 + c, n0) from h]
  exact if_pos ⟨rfl, hf⟩
theorem wp_qast3 {i : Int} {b d : Nat} (h : kdI ρ b 3) (hd : kdI ρ d 13) : Wp zt k ((.aastore, x) :: cs) ls (.inr (some d) :: .inl i :: .inr (some b) :: st) (g, ρ) Q ↔ (0 ≤ i ∧ i < (lnA ρ b : Int) ∧ i < 65536) ∧ Wp zt k cs ls st (g, wrR ρ.1 b i.toNat (some d), ρ.2) Q := by
  have hl := kdI_ln h
  have hl2 := kdI_ln hd
  by_cases hr : (0 ≤ i ∧ i < (lnA ρ b : Int) ∧ i < 65536)
  · have he : eff zt (.aastore, x) ls (.inr (some d) :: .inl i :: .inr (some b) :: st) (g, ρ) = some (.inl (ls, st, (g, wrR ρ.1 b i.toNat (some d), ρ.2))) := by
      simp only [eff, shp, hl, hl2]
      rw [if_pos (by simpa using hr)]; rfl
    exact ⟨fun q => ⟨hr, (wp_nx he).mp q⟩, fun q => (wp_nx he).mpr q.2⟩
  · refine ⟨fun q => absurd q (wp_no ?_), fun q => absurd q.1 hr⟩
    simp only [eff, shp, hl, hl2]
    rw [if_neg (fun z => hr (by simpa using z))]
theorem nwC_s {t kd n : Nat} : (nwC ρ t kd n).2.1 t = some (kd, n) := if_pos rfl
theorem nwC_o {t kd n x : Nat} (h : x ≠ t) : (nwC ρ t kd n).2.1 x = ρ.2.1 x := if_neg h
theorem nwC_r {t kd n x : Nat} (h : x ≠ t) : (nwC ρ t kd n).1 x = ρ.1 x := by
  funext y
  exact if_neg h
theorem stF_s {a i t : Nat} : (stF ρ a i t).1 a i = some t := if_pos ⟨rfl, rfl⟩
theorem stF_k {a i t y : Nat} (h : y ≠ i) : (stF ρ a i t).1 a y = ρ.1 a y := if_neg (fun z => h z.2)
theorem stF_x {a i t x : Nat} (h : x ≠ a) : (stF ρ a i t).1 x = ρ.1 x := by
  funext y
  exact if_neg (fun z => h z.1)
/-- one row made and put into a field -/
theorem nw_field {q : RI} {ty : Jvm.ClassFile.ArrayType} {a c i j kd t n n0 : Nat} {x0' : List Nat} (hq : eff zt q (some (AR a) :: ls) [AR a] (g, ρ) = nx (some (AR a) :: ls) [AI n, AR a] (g, ρ)) (h : ρ.2.1 a = some (10 + c, n0)) (hf : fI c i = false) (ht : ρ.2.2.1 = t) (hat : a ≠ t) (hn : n < 65536) (hk : Wp zt k cs (some (AR a) :: ls) [] (setRow g t (fun _ => 0), stF (nwC ρ t kd n) a i t) Q) : Wp zt k ((.aload_n 0, x0') :: q :: (.newarray ty, [kd]) :: (.putfield j, [c, i]) :: cs) (some (AR a) :: ls) [] (g, ρ) Q := by
  rw [wp_aln0, wp_nx hq, wp_newa ht hn, wp_pfr (n0 := n0) ((nwC_o hat).trans h) hf]
  exact hk
/-- what a making of n cells at a, with u places, leaves as it was -/
def NwP (g : Nat → Nat → Int) (ρ : Ri) (a n u : Nat) (g' : Nat → Nat → Int) (ρ' : Ri) : Prop := ρ'.2.2.1 = a + n ∧ ρ'.2.2.2 = ρ.2.2.2 + u ∧ ∀ x, x < a → ρ'.1 x = ρ.1 x ∧ ρ'.2.1 x = ρ.2.1 x ∧ g' x = g x
end NEW
section NAI
variable {zt : Nat → Nat} {g : Nat → Nat → Int} {ρ : Ri} {Q : Option AV → Sto → Prop} {a : Nat}
theorem A_init_ok (hs : ρ.2.1 a = some (10, 4)) (ht : ρ.2.2.1 = a + 1) (hQ : ∀ (g' : Nat → Nat → Int) (ρ' : Ri), isAr ρ' a → NwP g ρ a 3 198 g' ρ' → Q none (g', ρ')) : WpM zt 0 [AR a] (g, ρ) Q := by
  rw [m_A_init]
  unfold b_A_init_0
  rw [wp_aln0, wp_obj (by simp)]
  refine nw_field (n := 99) rfl hs rfl ht (by omega) (by omega) ?_
  refine nw_field (t := a + 2) (n := 99) rfl ((nwC_o (by omega)).trans hs) rfl rfl (by omega) (by omega) ?_
  rw [wp_ret]
  refine hQ _ _ ?_ ⟨rfl, ?_, fun x hx => ⟨?_, ?_, ?_⟩⟩
  · have e : ∀ j, ad a j = a + j := fun j => rfl
    unfold isAr
    simp only [e, stF, nwC, wrR]
    refine ⟨?_, ?_, ?_, ?_, ?_⟩ <;> simp [hs]
  · show ρ.2.2.2 + 99 + 99 = ρ.2.2.2 + 198
    omega
  · rw [stF_x (by omega), nwC_r (by omega), stF_x (by omega), nwC_r (by omega)]
  · exact (nwC_o (by omega)).trans (nwC_o (by omega))
  · rw [row_n (by omega), row_n (by omega)]
end NAI
