/-! RULES: what a step asks of the steps behind it (rewriting rules) -/
section WPR
variable {zt : Nat → Nat} {k : Nat} {q : RI} {c : List RI} {ls ls' : LsT} {st st' : List AV} {σ σ' : Sto} {Q : Option AV → Sto → Prop}
theorem run_le : ∀ (n k : Nat) (c : List RI) (ls : LsT) (st : List AV) (σ : Sto) (r : Option AV × Sto), run zt n k c ls st σ = some r → run zt (n + 1) k c ls st σ = some r
  | 0, _, _, _, _, _, _, h => by cases h
  | n + 1, k, [], _, _, _, _, h => by cases h
  | n + 1, k, q :: c, ls, st, σ, r, h => by
    rw [run] at h ⊢
    cases he : eff zt q ls st σ with
    | none => rw [he] at h; cases h
    | some o =>
      rw [he] at h
      match o, h with
      | .inl (ls', st', σ'), h => exact run_le n _ _ _ _ _ _ h
      | .inr (.inl (L, st')), h => exact run_le n _ _ _ _ _ _ h
      | .inr (.inr (.inl (k', as, rest))), h =>
        dsimp only at h ⊢
        cases hc : run zt n k' (P k' 0) (ent k' as) [] σ with
        | none => rw [hc] at h; cases h
        | some r1 =>
          rw [hc] at h
          rw [run_le n _ _ _ _ _ _ hc]
          exact run_le n _ _ _ _ _ _ h
      | .inr (.inr (.inr v)), h => exact h
theorem run_add {n : Nat} (d : Nat) {k : Nat} {c : List RI} {ls : LsT} {st : List AV} {σ : Sto} {r : Option AV × Sto} (h : run zt n k c ls st σ = some r) : run zt (n + d) k c ls st σ = some r := by
  induction d with
  | zero => exact h
  | succ d ih => exact run_le _ _ _ _ _ _ _ ih
theorem run_det {n m k : Nat} {c : List RI} {ls : LsT} {st : List AV} {σ : Sto} {r r2 : Option AV × Sto} (h : run zt n k c ls st σ = some r) (h2 : run zt m k c ls st σ = some r2) : r = r2 := by
  have e1 := run_add m h
  have e2 := run_add n h2
  rw [Nat.add_comm] at e2
  rw [e1] at e2
  exact Option.some.inj e2
theorem wp_nx (h : eff zt q ls st σ = some (.inl (ls', st', σ'))) : Wp zt k (q :: c) ls st σ Q ↔ Wp zt k c ls' st' σ' Q := by
  constructor
  · rintro ⟨n, v, σ1, hr, hq⟩
    cases n with
    | zero => cases hr
    | succ n =>
      rw [run, h] at hr
      exact ⟨n, v, σ1, hr, hq⟩
  · rintro ⟨n, v, σ1, hr, hq⟩
    exact ⟨n + 1, v, σ1, by rw [run, h]; exact hr, hq⟩
theorem wp_jp {L : Nat} (h : eff zt q ls st σ = some (.inr (.inl (L, st')))) : Wp zt k (q :: c) ls st σ Q ↔ Wp zt k (P k L) ls st' σ Q := by
  constructor
  · rintro ⟨n, v, σ1, hr, hq⟩
    cases n with
    | zero => cases hr
    | succ n =>
      rw [run, h] at hr
      exact ⟨n, v, σ1, hr, hq⟩
  · rintro ⟨n, v, σ1, hr, hq⟩
    exact ⟨n + 1, v, σ1, by rw [run, h]; exact hr, hq⟩
theorem wp_rt {v : Option AV} (h : eff zt q ls st σ = some (.inr (.inr (.inr v)))) : Wp zt k (q :: c) ls st σ Q ↔ Q v σ := by
  constructor
  · rintro ⟨n, v, σ1, hr, hq⟩
    cases n with
    | zero => cases hr
    | succ n =>
      rw [run, h] at hr
      cases hr
      exact hq
  · intro hq
    exact ⟨1, v, σ, by rw [run, h], hq⟩
theorem wp_cl {k' : Nat} {as rest : List AV} (h : eff zt q ls st σ = some (.inr (.inr (.inl (k', as, rest))))) : Wp zt k (q :: c) ls st σ Q ↔ WpM zt k' as σ (fun v σ' => Wp zt k c ls (v.toList ++ rest) σ' Q) := by
  constructor
  · rintro ⟨n, v, σ1, hr, hq⟩
    cases n with
    | zero => cases hr
    | succ n =>
      rw [run, h] at hr
      dsimp only at hr
      split at hr
      · next v1 σ2 hc => exact ⟨n, v1, σ2, hc, n, v, σ1, hr, hq⟩
      · cases hr
  · rintro ⟨n, v1, σ2, hc, m, v, σ1, hr, hq⟩
    refine ⟨n + m + 1, v, σ1, ?_, hq⟩
    rw [run, h]
    dsimp only
    rw [run_add m hc]
    dsimp only
    rw [Nat.add_comm n m]
    exact run_add n hr
theorem wp_no (h : eff zt q ls st σ = none) : ¬ Wp zt k (q :: c) ls st σ Q := by
  rintro ⟨n, v, σ1, hr, hq⟩
  cases n with
  | zero => cases hr
  | succ n =>
    rw [run, h] at hr
    cases hr
/-- what holds whatever is asked behind is an equivalence -/
theorem wpm_iff {k' : Nat} {as : List AV} {v0 : Option AV} {σ0 : Sto} (h : ∀ Q : Option AV → Sto → Prop, Q v0 σ0 → WpM zt k' as σ Q) (Q : Option AV → Sto → Prop) : WpM zt k' as σ Q ↔ Q v0 σ0 := by
  refine ⟨fun hw => ?_, h Q⟩
  obtain ⟨n, v, σ1, hr, hq⟩ := hw
  obtain ⟨m, v2, σ2, hr2, hq2⟩ := h (fun v s => v = v0 ∧ s = σ0) ⟨rfl, rfl⟩
  have e := run_det hr hr2
  cases e
  rw [hq2.1, hq2.2] at hq
  exact hq
theorem wpm_mono {k' : Nat} {as : List AV} {Q Q2 : Option AV → Sto → Prop} (h : WpM zt k' as σ Q) (hq : ∀ v s, Q v s → Q2 v s) : WpM zt k' as σ Q2 := by
  obtain ⟨n, v, σ1, hr, h2⟩ := h
  exact ⟨n, v, σ1, hr, hq _ _ h2⟩
theorem wp_mono {Q Q2 : Option AV → Sto → Prop} (h : Wp zt k c ls st σ Q) (hq : ∀ v s, Q v s → Q2 v s) : Wp zt k c ls st σ Q2 := by
  obtain ⟨n, v, σ1, hr, h2⟩ := h
  exact ⟨n, v, σ1, hr, hq _ _ h2⟩
end WPR
def kdI (ρ : Ri) (a kd : Nat) : Prop := ∃ N, ρ.2.1 a = some (kd, N)
def lnA (ρ : Ri) (a : Nat) : Nat := match ρ.2.1 a with
  | some (_, N) => N
  | none => 0
theorem kdI_of {ρ : Ri} {a kd N : Nat} (h : ρ.2.1 a = some (kd, N)) : kdI ρ a kd := ⟨N, h⟩
theorem lnA_of {ρ : Ri} {a kd N : Nat} (h : ρ.2.1 a = some (kd, N)) : lnA ρ a = N := by unfold lnA; rw [h]
theorem kdI_ln {ρ : Ri} {a kd : Nat} (h : kdI ρ a kd) : ρ.2.1 a = some (kd, lnA ρ a) := by
  obtain ⟨N, h⟩ := h
  rw [lnA_of h, h]
def b2 (p : Prop) [Decidable p] : Int := if p then 1 else 0
theorem b2_0 {p : Prop} [Decidable p] : b2 p = 0 ↔ ¬ p := by unfold b2; split <;> simp_all
theorem b2_1 {p : Prop} [Decidable p] : b2 p = 1 ↔ p := by unfold b2; split <;> simp_all
theorem b2_t {p : Prop} [Decidable p] (h : p) : b2 p = 1 := if_pos h
theorem b2_f {p : Prop} [Decidable p] (h : ¬ p) : b2 p = 0 := if_neg h
section WPS
variable {zt : Nat → Nat} {k : Nat} {c : List RI} {ls : LsT} {st : List AV} {g : Nat → Nat → Int} {ρ : Ri} {Q : Option AV → Sto → Prop} {x : List Nat}
theorem wp_il0 {l : LsT} {z : Int} : Wp zt k ((.iload 0, x) :: c) (some (.inl z) :: l) st (g, ρ) Q ↔ Wp zt k c (some (.inl z) :: l) (.inl z :: st) (g, ρ) Q := wp_nx rfl
theorem wp_al0 {l : LsT} {a : Nat} : Wp zt k ((.aload 0, x) :: c) (some (.inr (some a)) :: l) st (g, ρ) Q ↔ Wp zt k c (some (.inr (some a)) :: l) (.inr (some a) :: st) (g, ρ) Q := wp_nx rfl
theorem wp_iln0 {l : LsT} {z : Int} : Wp zt k ((.iload_n 0, x) :: c) (some (.inl z) :: l) st (g, ρ) Q ↔ Wp zt k c (some (.inl z) :: l) (.inl z :: st) (g, ρ) Q := wp_nx rfl
theorem wp_aln0 {l : LsT} {a : Nat} : Wp zt k ((.aload_n 0, x) :: c) (some (.inr (some a)) :: l) st (g, ρ) Q ↔ Wp zt k c (some (.inr (some a)) :: l) (.inr (some a) :: st) (g, ρ) Q := wp_nx rfl
theorem wp_is0 {l : LsT} {o : Option AV} {z : Int} : Wp zt k ((.istore 0, x) :: c) (o :: l) (.inl z :: st) (g, ρ) Q ↔ Wp zt k c (some (.inl z) :: l) st (g, ρ) Q := wp_nx rfl
theorem wp_as0 {l : LsT} {o : Option AV} {a : Nat} : Wp zt k ((.astore 0, x) :: c) (o :: l) (.inr (some a) :: st) (g, ρ) Q ↔ Wp zt k c (some (.inr (some a)) :: l) st (g, ρ) Q := wp_nx rfl
theorem wp_isn0 {l : LsT} {o : Option AV} {z : Int} : Wp zt k ((.istore_n 0, x) :: c) (o :: l) (.inl z :: st) (g, ρ) Q ↔ Wp zt k c (some (.inl z) :: l) st (g, ρ) Q := wp_nx rfl
theorem wp_asn0 {l : LsT} {o : Option AV} {a : Nat} : Wp zt k ((.astore_n 0, x) :: c) (o :: l) (.inr (some a) :: st) (g, ρ) Q ↔ Wp zt k c (some (.inr (some a)) :: l) st (g, ρ) Q := wp_nx rfl
theorem wp_inc0 {l : LsT} {z d : Int} : Wp zt k ((.iinc 0 d, x) :: c) (some (.inl z) :: l) st (g, ρ) Q ↔ Wp zt k c (some (.inl (z + d)) :: l) st (g, ρ) Q := wp_nx rfl
theorem wp_il1 {l0 : Option AV} {l : LsT} {z : Int} : Wp zt k ((.iload 1, x) :: c) (l0 :: some (.inl z) :: l) st (g, ρ) Q ↔ Wp zt k c (l0 :: some (.inl z) :: l) (.inl z :: st) (g, ρ) Q := wp_nx rfl
theorem wp_al1 {l0 : Option AV} {l : LsT} {a : Nat} : Wp zt k ((.aload 1, x) :: c) (l0 :: some (.inr (some a)) :: l) st (g, ρ) Q ↔ Wp zt k c (l0 :: some (.inr (some a)) :: l) (.inr (some a) :: st) (g, ρ) Q := wp_nx rfl
theorem wp_iln1 {l0 : Option AV} {l : LsT} {z : Int} : Wp zt k ((.iload_n 1, x) :: c) (l0 :: some (.inl z) :: l) st (g, ρ) Q ↔ Wp zt k c (l0 :: some (.inl z) :: l) (.inl z :: st) (g, ρ) Q := wp_nx rfl
theorem wp_aln1 {l0 : Option AV} {l : LsT} {a : Nat} : Wp zt k ((.aload_n 1, x) :: c) (l0 :: some (.inr (some a)) :: l) st (g, ρ) Q ↔ Wp zt k c (l0 :: some (.inr (some a)) :: l) (.inr (some a) :: st) (g, ρ) Q := wp_nx rfl
theorem wp_is1 {l0 : Option AV} {l : LsT} {o : Option AV} {z : Int} : Wp zt k ((.istore 1, x) :: c) (l0 :: o :: l) (.inl z :: st) (g, ρ) Q ↔ Wp zt k c (l0 :: some (.inl z) :: l) st (g, ρ) Q := wp_nx rfl
theorem wp_as1 {l0 : Option AV} {l : LsT} {o : Option AV} {a : Nat} : Wp zt k ((.astore 1, x) :: c) (l0 :: o :: l) (.inr (some a) :: st) (g, ρ) Q ↔ Wp zt k c (l0 :: some (.inr (some a)) :: l) st (g, ρ) Q := wp_nx rfl
theorem wp_isn1 {l0 : Option AV} {l : LsT} {o : Option AV} {z : Int} : Wp zt k ((.istore_n 1, x) :: c) (l0 :: o :: l) (.inl z :: st) (g, ρ) Q ↔ Wp zt k c (l0 :: some (.inl z) :: l) st (g, ρ) Q := wp_nx rfl
theorem wp_asn1 {l0 : Option AV} {l : LsT} {o : Option AV} {a : Nat} : Wp zt k ((.astore_n 1, x) :: c) (l0 :: o :: l) (.inr (some a) :: st) (g, ρ) Q ↔ Wp zt k c (l0 :: some (.inr (some a)) :: l) st (g, ρ) Q := wp_nx rfl
theorem wp_inc1 {l0 : Option AV} {l : LsT} {z d : Int} : Wp zt k ((.iinc 1 d, x) :: c) (l0 :: some (.inl z) :: l) st (g, ρ) Q ↔ Wp zt k c (l0 :: some (.inl (z + d)) :: l) st (g, ρ) Q := wp_nx rfl
theorem wp_il2 {l0 l1 : Option AV} {l : LsT} {z : Int} : Wp zt k ((.iload 2, x) :: c) (l0 :: l1 :: some (.inl z) :: l) st (g, ρ) Q ↔ Wp zt k c (l0 :: l1 :: some (.inl z) :: l) (.inl z :: st) (g, ρ) Q := wp_nx rfl
theorem wp_al2 {l0 l1 : Option AV} {l : LsT} {a : Nat} : Wp zt k ((.aload 2, x) :: c) (l0 :: l1 :: some (.inr (some a)) :: l) st (g, ρ) Q ↔ Wp zt k c (l0 :: l1 :: some (.inr (some a)) :: l) (.inr (some a) :: st) (g, ρ) Q := wp_nx rfl
theorem wp_iln2 {l0 l1 : Option AV} {l : LsT} {z : Int} : Wp zt k ((.iload_n 2, x) :: c) (l0 :: l1 :: some (.inl z) :: l) st (g, ρ) Q ↔ Wp zt k c (l0 :: l1 :: some (.inl z) :: l) (.inl z :: st) (g, ρ) Q := wp_nx rfl
theorem wp_aln2 {l0 l1 : Option AV} {l : LsT} {a : Nat} : Wp zt k ((.aload_n 2, x) :: c) (l0 :: l1 :: some (.inr (some a)) :: l) st (g, ρ) Q ↔ Wp zt k c (l0 :: l1 :: some (.inr (some a)) :: l) (.inr (some a) :: st) (g, ρ) Q := wp_nx rfl
theorem wp_is2 {l0 l1 : Option AV} {l : LsT} {o : Option AV} {z : Int} : Wp zt k ((.istore 2, x) :: c) (l0 :: l1 :: o :: l) (.inl z :: st) (g, ρ) Q ↔ Wp zt k c (l0 :: l1 :: some (.inl z) :: l) st (g, ρ) Q := wp_nx rfl
theorem wp_as2 {l0 l1 : Option AV} {l : LsT} {o : Option AV} {a : Nat} : Wp zt k ((.astore 2, x) :: c) (l0 :: l1 :: o :: l) (.inr (some a) :: st) (g, ρ) Q ↔ Wp zt k c (l0 :: l1 :: some (.inr (some a)) :: l) st (g, ρ) Q := wp_nx rfl
theorem wp_isn2 {l0 l1 : Option AV} {l : LsT} {o : Option AV} {z : Int} : Wp zt k ((.istore_n 2, x) :: c) (l0 :: l1 :: o :: l) (.inl z :: st) (g, ρ) Q ↔ Wp zt k c (l0 :: l1 :: some (.inl z) :: l) st (g, ρ) Q := wp_nx rfl
theorem wp_asn2 {l0 l1 : Option AV} {l : LsT} {o : Option AV} {a : Nat} : Wp zt k ((.astore_n 2, x) :: c) (l0 :: l1 :: o :: l) (.inr (some a) :: st) (g, ρ) Q ↔ Wp zt k c (l0 :: l1 :: some (.inr (some a)) :: l) st (g, ρ) Q := wp_nx rfl
theorem wp_inc2 {l0 l1 : Option AV} {l : LsT} {z d : Int} : Wp zt k ((.iinc 2 d, x) :: c) (l0 :: l1 :: some (.inl z) :: l) st (g, ρ) Q ↔ Wp zt k c (l0 :: l1 :: some (.inl (z + d)) :: l) st (g, ρ) Q := wp_nx rfl
theorem wp_il3 {l0 l1 l2 : Option AV} {l : LsT} {z : Int} : Wp zt k ((.iload 3, x) :: c) (l0 :: l1 :: l2 :: some (.inl z) :: l) st (g, ρ) Q ↔ Wp zt k c (l0 :: l1 :: l2 :: some (.inl z) :: l) (.inl z :: st) (g, ρ) Q := wp_nx rfl
theorem wp_al3 {l0 l1 l2 : Option AV} {l : LsT} {a : Nat} : Wp zt k ((.aload 3, x) :: c) (l0 :: l1 :: l2 :: some (.inr (some a)) :: l) st (g, ρ) Q ↔ Wp zt k c (l0 :: l1 :: l2 :: some (.inr (some a)) :: l) (.inr (some a) :: st) (g, ρ) Q := wp_nx rfl
theorem wp_iln3 {l0 l1 l2 : Option AV} {l : LsT} {z : Int} : Wp zt k ((.iload_n 3, x) :: c) (l0 :: l1 :: l2 :: some (.inl z) :: l) st (g, ρ) Q ↔ Wp zt k c (l0 :: l1 :: l2 :: some (.inl z) :: l) (.inl z :: st) (g, ρ) Q := wp_nx rfl
theorem wp_aln3 {l0 l1 l2 : Option AV} {l : LsT} {a : Nat} : Wp zt k ((.aload_n 3, x) :: c) (l0 :: l1 :: l2 :: some (.inr (some a)) :: l) st (g, ρ) Q ↔ Wp zt k c (l0 :: l1 :: l2 :: some (.inr (some a)) :: l) (.inr (some a) :: st) (g, ρ) Q := wp_nx rfl
theorem wp_is3 {l0 l1 l2 : Option AV} {l : LsT} {o : Option AV} {z : Int} : Wp zt k ((.istore 3, x) :: c) (l0 :: l1 :: l2 :: o :: l) (.inl z :: st) (g, ρ) Q ↔ Wp zt k c (l0 :: l1 :: l2 :: some (.inl z) :: l) st (g, ρ) Q := wp_nx rfl
theorem wp_as3 {l0 l1 l2 : Option AV} {l : LsT} {o : Option AV} {a : Nat} : Wp zt k ((.astore 3, x) :: c) (l0 :: l1 :: l2 :: o :: l) (.inr (some a) :: st) (g, ρ) Q ↔ Wp zt k c (l0 :: l1 :: l2 :: some (.inr (some a)) :: l) st (g, ρ) Q := wp_nx rfl
theorem wp_isn3 {l0 l1 l2 : Option AV} {l : LsT} {o : Option AV} {z : Int} : Wp zt k ((.istore_n 3, x) :: c) (l0 :: l1 :: l2 :: o :: l) (.inl z :: st) (g, ρ) Q ↔ Wp zt k c (l0 :: l1 :: l2 :: some (.inl z) :: l) st (g, ρ) Q := wp_nx rfl
theorem wp_asn3 {l0 l1 l2 : Option AV} {l : LsT} {o : Option AV} {a : Nat} : Wp zt k ((.astore_n 3, x) :: c) (l0 :: l1 :: l2 :: o :: l) (.inr (some a) :: st) (g, ρ) Q ↔ Wp zt k c (l0 :: l1 :: l2 :: some (.inr (some a)) :: l) st (g, ρ) Q := wp_nx rfl
theorem wp_inc3 {l0 l1 l2 : Option AV} {l : LsT} {z d : Int} : Wp zt k ((.iinc 3 d, x) :: c) (l0 :: l1 :: l2 :: some (.inl z) :: l) st (g, ρ) Q ↔ Wp zt k c (l0 :: l1 :: l2 :: some (.inl (z + d)) :: l) st (g, ρ) Q := wp_nx rfl
theorem wp_il4 {l0 l1 l2 l3 : Option AV} {l : LsT} {z : Int} : Wp zt k ((.iload 4, x) :: c) (l0 :: l1 :: l2 :: l3 :: some (.inl z) :: l) st (g, ρ) Q ↔ Wp zt k c (l0 :: l1 :: l2 :: l3 :: some (.inl z) :: l) (.inl z :: st) (g, ρ) Q := wp_nx rfl
theorem wp_al4 {l0 l1 l2 l3 : Option AV} {l : LsT} {a : Nat} : Wp zt k ((.aload 4, x) :: c) (l0 :: l1 :: l2 :: l3 :: some (.inr (some a)) :: l) st (g, ρ) Q ↔ Wp zt k c (l0 :: l1 :: l2 :: l3 :: some (.inr (some a)) :: l) (.inr (some a) :: st) (g, ρ) Q := wp_nx rfl
theorem wp_is4 {l0 l1 l2 l3 : Option AV} {l : LsT} {o : Option AV} {z : Int} : Wp zt k ((.istore 4, x) :: c) (l0 :: l1 :: l2 :: l3 :: o :: l) (.inl z :: st) (g, ρ) Q ↔ Wp zt k c (l0 :: l1 :: l2 :: l3 :: some (.inl z) :: l) st (g, ρ) Q := wp_nx rfl
theorem wp_as4 {l0 l1 l2 l3 : Option AV} {l : LsT} {o : Option AV} {a : Nat} : Wp zt k ((.astore 4, x) :: c) (l0 :: l1 :: l2 :: l3 :: o :: l) (.inr (some a) :: st) (g, ρ) Q ↔ Wp zt k c (l0 :: l1 :: l2 :: l3 :: some (.inr (some a)) :: l) st (g, ρ) Q := wp_nx rfl
theorem wp_inc4 {l0 l1 l2 l3 : Option AV} {l : LsT} {z d : Int} : Wp zt k ((.iinc 4 d, x) :: c) (l0 :: l1 :: l2 :: l3 :: some (.inl z) :: l) st (g, ρ) Q ↔ Wp zt k c (l0 :: l1 :: l2 :: l3 :: some (.inl (z + d)) :: l) st (g, ρ) Q := wp_nx rfl
theorem wp_il5 {l0 l1 l2 l3 l4 : Option AV} {l : LsT} {z : Int} : Wp zt k ((.iload 5, x) :: c) (l0 :: l1 :: l2 :: l3 :: l4 :: some (.inl z) :: l) st (g, ρ) Q ↔ Wp zt k c (l0 :: l1 :: l2 :: l3 :: l4 :: some (.inl z) :: l) (.inl z :: st) (g, ρ) Q := wp_nx rfl
theorem wp_al5 {l0 l1 l2 l3 l4 : Option AV} {l : LsT} {a : Nat} : Wp zt k ((.aload 5, x) :: c) (l0 :: l1 :: l2 :: l3 :: l4 :: some (.inr (some a)) :: l) st (g, ρ) Q ↔ Wp zt k c (l0 :: l1 :: l2 :: l3 :: l4 :: some (.inr (some a)) :: l) (.inr (some a) :: st) (g, ρ) Q := wp_nx rfl
theorem wp_is5 {l0 l1 l2 l3 l4 : Option AV} {l : LsT} {o : Option AV} {z : Int} : Wp zt k ((.istore 5, x) :: c) (l0 :: l1 :: l2 :: l3 :: l4 :: o :: l) (.inl z :: st) (g, ρ) Q ↔ Wp zt k c (l0 :: l1 :: l2 :: l3 :: l4 :: some (.inl z) :: l) st (g, ρ) Q := wp_nx rfl
theorem wp_as5 {l0 l1 l2 l3 l4 : Option AV} {l : LsT} {o : Option AV} {a : Nat} : Wp zt k ((.astore 5, x) :: c) (l0 :: l1 :: l2 :: l3 :: l4 :: o :: l) (.inr (some a) :: st) (g, ρ) Q ↔ Wp zt k c (l0 :: l1 :: l2 :: l3 :: l4 :: some (.inr (some a)) :: l) st (g, ρ) Q := wp_nx rfl
theorem wp_inc5 {l0 l1 l2 l3 l4 : Option AV} {l : LsT} {z d : Int} : Wp zt k ((.iinc 5 d, x) :: c) (l0 :: l1 :: l2 :: l3 :: l4 :: some (.inl z) :: l) st (g, ρ) Q ↔ Wp zt k c (l0 :: l1 :: l2 :: l3 :: l4 :: some (.inl (z + d)) :: l) st (g, ρ) Q := wp_nx rfl
theorem wp_il6 {l0 l1 l2 l3 l4 l5 : Option AV} {l : LsT} {z : Int} : Wp zt k ((.iload 6, x) :: c) (l0 :: l1 :: l2 :: l3 :: l4 :: l5 :: some (.inl z) :: l) st (g, ρ) Q ↔ Wp zt k c (l0 :: l1 :: l2 :: l3 :: l4 :: l5 :: some (.inl z) :: l) (.inl z :: st) (g, ρ) Q := wp_nx rfl
theorem wp_al6 {l0 l1 l2 l3 l4 l5 : Option AV} {l : LsT} {a : Nat} : Wp zt k ((.aload 6, x) :: c) (l0 :: l1 :: l2 :: l3 :: l4 :: l5 :: some (.inr (some a)) :: l) st (g, ρ) Q ↔ Wp zt k c (l0 :: l1 :: l2 :: l3 :: l4 :: l5 :: some (.inr (some a)) :: l) (.inr (some a) :: st) (g, ρ) Q := wp_nx rfl
theorem wp_is6 {l0 l1 l2 l3 l4 l5 : Option AV} {l : LsT} {o : Option AV} {z : Int} : Wp zt k ((.istore 6, x) :: c) (l0 :: l1 :: l2 :: l3 :: l4 :: l5 :: o :: l) (.inl z :: st) (g, ρ) Q ↔ Wp zt k c (l0 :: l1 :: l2 :: l3 :: l4 :: l5 :: some (.inl z) :: l) st (g, ρ) Q := wp_nx rfl
theorem wp_as6 {l0 l1 l2 l3 l4 l5 : Option AV} {l : LsT} {o : Option AV} {a : Nat} : Wp zt k ((.astore 6, x) :: c) (l0 :: l1 :: l2 :: l3 :: l4 :: l5 :: o :: l) (.inr (some a) :: st) (g, ρ) Q ↔ Wp zt k c (l0 :: l1 :: l2 :: l3 :: l4 :: l5 :: some (.inr (some a)) :: l) st (g, ρ) Q := wp_nx rfl
theorem wp_inc6 {l0 l1 l2 l3 l4 l5 : Option AV} {l : LsT} {z d : Int} : Wp zt k ((.iinc 6 d, x) :: c) (l0 :: l1 :: l2 :: l3 :: l4 :: l5 :: some (.inl z) :: l) st (g, ρ) Q ↔ Wp zt k c (l0 :: l1 :: l2 :: l3 :: l4 :: l5 :: some (.inl (z + d)) :: l) st (g, ρ) Q := wp_nx rfl
theorem wp_il7 {l0 l1 l2 l3 l4 l5 l6 : Option AV} {l : LsT} {z : Int} : Wp zt k ((.iload 7, x) :: c) (l0 :: l1 :: l2 :: l3 :: l4 :: l5 :: l6 :: some (.inl z) :: l) st (g, ρ) Q ↔ Wp zt k c (l0 :: l1 :: l2 :: l3 :: l4 :: l5 :: l6 :: some (.inl z) :: l) (.inl z :: st) (g, ρ) Q := wp_nx rfl
theorem wp_al7 {l0 l1 l2 l3 l4 l5 l6 : Option AV} {l : LsT} {a : Nat} : Wp zt k ((.aload 7, x) :: c) (l0 :: l1 :: l2 :: l3 :: l4 :: l5 :: l6 :: some (.inr (some a)) :: l) st (g, ρ) Q ↔ Wp zt k c (l0 :: l1 :: l2 :: l3 :: l4 :: l5 :: l6 :: some (.inr (some a)) :: l) (.inr (some a) :: st) (g, ρ) Q := wp_nx rfl
theorem wp_is7 {l0 l1 l2 l3 l4 l5 l6 : Option AV} {l : LsT} {o : Option AV} {z : Int} : Wp zt k ((.istore 7, x) :: c) (l0 :: l1 :: l2 :: l3 :: l4 :: l5 :: l6 :: o :: l) (.inl z :: st) (g, ρ) Q ↔ Wp zt k c (l0 :: l1 :: l2 :: l3 :: l4 :: l5 :: l6 :: some (.inl z) :: l) st (g, ρ) Q := wp_nx rfl
theorem wp_as7 {l0 l1 l2 l3 l4 l5 l6 : Option AV} {l : LsT} {o : Option AV} {a : Nat} : Wp zt k ((.astore 7, x) :: c) (l0 :: l1 :: l2 :: l3 :: l4 :: l5 :: l6 :: o :: l) (.inr (some a) :: st) (g, ρ) Q ↔ Wp zt k c (l0 :: l1 :: l2 :: l3 :: l4 :: l5 :: l6 :: some (.inr (some a)) :: l) st (g, ρ) Q := wp_nx rfl
theorem wp_inc7 {l0 l1 l2 l3 l4 l5 l6 : Option AV} {l : LsT} {z d : Int} : Wp zt k ((.iinc 7 d, x) :: c) (l0 :: l1 :: l2 :: l3 :: l4 :: l5 :: l6 :: some (.inl z) :: l) st (g, ρ) Q ↔ Wp zt k c (l0 :: l1 :: l2 :: l3 :: l4 :: l5 :: l6 :: some (.inl (z + d)) :: l) st (g, ρ) Q := wp_nx rfl
theorem wp_il8 {l0 l1 l2 l3 l4 l5 l6 l7 : Option AV} {l : LsT} {z : Int} : Wp zt k ((.iload 8, x) :: c) (l0 :: l1 :: l2 :: l3 :: l4 :: l5 :: l6 :: l7 :: some (.inl z) :: l) st (g, ρ) Q ↔ Wp zt k c (l0 :: l1 :: l2 :: l3 :: l4 :: l5 :: l6 :: l7 :: some (.inl z) :: l) (.inl z :: st) (g, ρ) Q := wp_nx rfl
theorem wp_al8 {l0 l1 l2 l3 l4 l5 l6 l7 : Option AV} {l : LsT} {a : Nat} : Wp zt k ((.aload 8, x) :: c) (l0 :: l1 :: l2 :: l3 :: l4 :: l5 :: l6 :: l7 :: some (.inr (some a)) :: l) st (g, ρ) Q ↔ Wp zt k c (l0 :: l1 :: l2 :: l3 :: l4 :: l5 :: l6 :: l7 :: some (.inr (some a)) :: l) (.inr (some a) :: st) (g, ρ) Q := wp_nx rfl
theorem wp_is8 {l0 l1 l2 l3 l4 l5 l6 l7 : Option AV} {l : LsT} {o : Option AV} {z : Int} : Wp zt k ((.istore 8, x) :: c) (l0 :: l1 :: l2 :: l3 :: l4 :: l5 :: l6 :: l7 :: o :: l) (.inl z :: st) (g, ρ) Q ↔ Wp zt k c (l0 :: l1 :: l2 :: l3 :: l4 :: l5 :: l6 :: l7 :: some (.inl z) :: l) st (g, ρ) Q := wp_nx rfl
theorem wp_as8 {l0 l1 l2 l3 l4 l5 l6 l7 : Option AV} {l : LsT} {o : Option AV} {a : Nat} : Wp zt k ((.astore 8, x) :: c) (l0 :: l1 :: l2 :: l3 :: l4 :: l5 :: l6 :: l7 :: o :: l) (.inr (some a) :: st) (g, ρ) Q ↔ Wp zt k c (l0 :: l1 :: l2 :: l3 :: l4 :: l5 :: l6 :: l7 :: some (.inr (some a)) :: l) st (g, ρ) Q := wp_nx rfl
theorem wp_inc8 {l0 l1 l2 l3 l4 l5 l6 l7 : Option AV} {l : LsT} {z d : Int} : Wp zt k ((.iinc 8 d, x) :: c) (l0 :: l1 :: l2 :: l3 :: l4 :: l5 :: l6 :: l7 :: some (.inl z) :: l) st (g, ρ) Q ↔ Wp zt k c (l0 :: l1 :: l2 :: l3 :: l4 :: l5 :: l6 :: l7 :: some (.inl (z + d)) :: l) st (g, ρ) Q := wp_nx rfl
theorem wp_il9 {l0 l1 l2 l3 l4 l5 l6 l7 l8 : Option AV} {l : LsT} {z : Int} : Wp zt k ((.iload 9, x) :: c) (l0 :: l1 :: l2 :: l3 :: l4 :: l5 :: l6 :: l7 :: l8 :: some (.inl z) :: l) st (g, ρ) Q ↔ Wp zt k c (l0 :: l1 :: l2 :: l3 :: l4 :: l5 :: l6 :: l7 :: l8 :: some (.inl z) :: l) (.inl z :: st) (g, ρ) Q := wp_nx rfl
theorem wp_al9 {l0 l1 l2 l3 l4 l5 l6 l7 l8 : Option AV} {l : LsT} {a : Nat} : Wp zt k ((.aload 9, x) :: c) (l0 :: l1 :: l2 :: l3 :: l4 :: l5 :: l6 :: l7 :: l8 :: some (.inr (some a)) :: l) st (g, ρ) Q ↔ Wp zt k c (l0 :: l1 :: l2 :: l3 :: l4 :: l5 :: l6 :: l7 :: l8 :: some (.inr (some a)) :: l) (.inr (some a) :: st) (g, ρ) Q := wp_nx rfl
theorem wp_is9 {l0 l1 l2 l3 l4 l5 l6 l7 l8 : Option AV} {l : LsT} {o : Option AV} {z : Int} : Wp zt k ((.istore 9, x) :: c) (l0 :: l1 :: l2 :: l3 :: l4 :: l5 :: l6 :: l7 :: l8 :: o :: l) (.inl z :: st) (g, ρ) Q ↔ Wp zt k c (l0 :: l1 :: l2 :: l3 :: l4 :: l5 :: l6 :: l7 :: l8 :: some (.inl z) :: l) st (g, ρ) Q := wp_nx rfl
theorem wp_as9 {l0 l1 l2 l3 l4 l5 l6 l7 l8 : Option AV} {l : LsT} {o : Option AV} {a : Nat} : Wp zt k ((.astore 9, x) :: c) (l0 :: l1 :: l2 :: l3 :: l4 :: l5 :: l6 :: l7 :: l8 :: o :: l) (.inr (some a) :: st) (g, ρ) Q ↔ Wp zt k c (l0 :: l1 :: l2 :: l3 :: l4 :: l5 :: l6 :: l7 :: l8 :: some (.inr (some a)) :: l) st (g, ρ) Q := wp_nx rfl
theorem wp_inc9 {l0 l1 l2 l3 l4 l5 l6 l7 l8 : Option AV} {l : LsT} {z d : Int} : Wp zt k ((.iinc 9 d, x) :: c) (l0 :: l1 :: l2 :: l3 :: l4 :: l5 :: l6 :: l7 :: l8 :: some (.inl z) :: l) st (g, ρ) Q ↔ Wp zt k c (l0 :: l1 :: l2 :: l3 :: l4 :: l5 :: l6 :: l7 :: l8 :: some (.inl (z + d)) :: l) st (g, ρ) Q := wp_nx rfl
theorem wp_il10 {l0 l1 l2 l3 l4 l5 l6 l7 l8 l9 : Option AV} {l : LsT} {z : Int} : Wp zt k ((.iload 10, x) :: c) (l0 :: l1 :: l2 :: l3 :: l4 :: l5 :: l6 :: l7 :: l8 :: l9 :: some (.inl z) :: l) st (g, ρ) Q ↔ Wp zt k c (l0 :: l1 :: l2 :: l3 :: l4 :: l5 :: l6 :: l7 :: l8 :: l9 :: some (.inl z) :: l) (.inl z :: st) (g, ρ) Q := wp_nx rfl
theorem wp_al10 {l0 l1 l2 l3 l4 l5 l6 l7 l8 l9 : Option AV} {l : LsT} {a : Nat} : Wp zt k ((.aload 10, x) :: c) (l0 :: l1 :: l2 :: l3 :: l4 :: l5 :: l6 :: l7 :: l8 :: l9 :: some (.inr (some a)) :: l) st (g, ρ) Q ↔ Wp zt k c (l0 :: l1 :: l2 :: l3 :: l4 :: l5 :: l6 :: l7 :: l8 :: l9 :: some (.inr (some a)) :: l) (.inr (some a) :: st) (g, ρ) Q := wp_nx rfl
theorem wp_is10 {l0 l1 l2 l3 l4 l5 l6 l7 l8 l9 : Option AV} {l : LsT} {o : Option AV} {z : Int} : Wp zt k ((.istore 10, x) :: c) (l0 :: l1 :: l2 :: l3 :: l4 :: l5 :: l6 :: l7 :: l8 :: l9 :: o :: l) (.inl z :: st) (g, ρ) Q ↔ Wp zt k c (l0 :: l1 :: l2 :: l3 :: l4 :: l5 :: l6 :: l7 :: l8 :: l9 :: some (.inl z) :: l) st (g, ρ) Q := wp_nx rfl
theorem wp_as10 {l0 l1 l2 l3 l4 l5 l6 l7 l8 l9 : Option AV} {l : LsT} {o : Option AV} {a : Nat} : Wp zt k ((.astore 10, x) :: c) (l0 :: l1 :: l2 :: l3 :: l4 :: l5 :: l6 :: l7 :: l8 :: l9 :: o :: l) (.inr (some a) :: st) (g, ρ) Q ↔ Wp zt k c (l0 :: l1 :: l2 :: l3 :: l4 :: l5 :: l6 :: l7 :: l8 :: l9 :: some (.inr (some a)) :: l) st (g, ρ) Q := wp_nx rfl
theorem wp_inc10 {l0 l1 l2 l3 l4 l5 l6 l7 l8 l9 : Option AV} {l : LsT} {z d : Int} : Wp zt k ((.iinc 10 d, x) :: c) (l0 :: l1 :: l2 :: l3 :: l4 :: l5 :: l6 :: l7 :: l8 :: l9 :: some (.inl z) :: l) st (g, ρ) Q ↔ Wp zt k c (l0 :: l1 :: l2 :: l3 :: l4 :: l5 :: l6 :: l7 :: l8 :: l9 :: some (.inl (z + d)) :: l) st (g, ρ) Q := wp_nx rfl
theorem wp_il11 {l0 l1 l2 l3 l4 l5 l6 l7 l8 l9 l10 : Option AV} {l : LsT} {z : Int} : Wp zt k ((.iload 11, x) :: c) (l0 :: l1 :: l2 :: l3 :: l4 :: l5 :: l6 :: l7 :: l8 :: l9 :: l10 :: some (.inl z) :: l) st (g, ρ) Q ↔ Wp zt k c (l0 :: l1 :: l2 :: l3 :: l4 :: l5 :: l6 :: l7 :: l8 :: l9 :: l10 :: some (.inl z) :: l) (.inl z :: st) (g, ρ) Q := wp_nx rfl
theorem wp_al11 {l0 l1 l2 l3 l4 l5 l6 l7 l8 l9 l10 : Option AV} {l : LsT} {a : Nat} : Wp zt k ((.aload 11, x) :: c) (l0 :: l1 :: l2 :: l3 :: l4 :: l5 :: l6 :: l7 :: l8 :: l9 :: l10 :: some (.inr (some a)) :: l) st (g, ρ) Q ↔ Wp zt k c (l0 :: l1 :: l2 :: l3 :: l4 :: l5 :: l6 :: l7 :: l8 :: l9 :: l10 :: some (.inr (some a)) :: l) (.inr (some a) :: st) (g, ρ) Q := wp_nx rfl
theorem wp_is11 {l0 l1 l2 l3 l4 l5 l6 l7 l8 l9 l10 : Option AV} {l : LsT} {o : Option AV} {z : Int} : Wp zt k ((.istore 11, x) :: c) (l0 :: l1 :: l2 :: l3 :: l4 :: l5 :: l6 :: l7 :: l8 :: l9 :: l10 :: o :: l) (.inl z :: st) (g, ρ) Q ↔ Wp zt k c (l0 :: l1 :: l2 :: l3 :: l4 :: l5 :: l6 :: l7 :: l8 :: l9 :: l10 :: some (.inl z) :: l) st (g, ρ) Q := wp_nx rfl
theorem wp_as11 {l0 l1 l2 l3 l4 l5 l6 l7 l8 l9 l10 : Option AV} {l : LsT} {o : Option AV} {a : Nat} : Wp zt k ((.astore 11, x) :: c) (l0 :: l1 :: l2 :: l3 :: l4 :: l5 :: l6 :: l7 :: l8 :: l9 :: l10 :: o :: l) (.inr (some a) :: st) (g, ρ) Q ↔ Wp zt k c (l0 :: l1 :: l2 :: l3 :: l4 :: l5 :: l6 :: l7 :: l8 :: l9 :: l10 :: some (.inr (some a)) :: l) st (g, ρ) Q := wp_nx rfl
theorem wp_inc11 {l0 l1 l2 l3 l4 l5 l6 l7 l8 l9 l10 : Option AV} {l : LsT} {z d : Int} : Wp zt k ((.iinc 11 d, x) :: c) (l0 :: l1 :: l2 :: l3 :: l4 :: l5 :: l6 :: l7 :: l8 :: l9 :: l10 :: some (.inl z) :: l) st (g, ρ) Q ↔ Wp zt k c (l0 :: l1 :: l2 :: l3 :: l4 :: l5 :: l6 :: l7 :: l8 :: l9 :: l10 :: some (.inl (z + d)) :: l) st (g, ρ) Q := wp_nx rfl
theorem wp_il12 {l0 l1 l2 l3 l4 l5 l6 l7 l8 l9 l10 l11 : Option AV} {l : LsT} {z : Int} : Wp zt k ((.iload 12, x) :: c) (l0 :: l1 :: l2 :: l3 :: l4 :: l5 :: l6 :: l7 :: l8 :: l9 :: l10 :: l11 :: some (.inl z) :: l) st (g, ρ) Q ↔ Wp zt k c (l0 :: l1 :: l2 :: l3 :: l4 :: l5 :: l6 :: l7 :: l8 :: l9 :: l10 :: l11 :: some (.inl z) :: l) (.inl z :: st) (g, ρ) Q := wp_nx rfl
theorem wp_al12 {l0 l1 l2 l3 l4 l5 l6 l7 l8 l9 l10 l11 : Option AV} {l : LsT} {a : Nat} : Wp zt k ((.aload 12, x) :: c) (l0 :: l1 :: l2 :: l3 :: l4 :: l5 :: l6 :: l7 :: l8 :: l9 :: l10 :: l11 :: some (.inr (some a)) :: l) st (g, ρ) Q ↔ Wp zt k c (l0 :: l1 :: l2 :: l3 :: l4 :: l5 :: l6 :: l7 :: l8 :: l9 :: l10 :: l11 :: some (.inr (some a)) :: l) (.inr (some a) :: st) (g, ρ) Q := wp_nx rfl
theorem wp_is12 {l0 l1 l2 l3 l4 l5 l6 l7 l8 l9 l10 l11 : Option AV} {l : LsT} {o : Option AV} {z : Int} : Wp zt k ((.istore 12, x) :: c) (l0 :: l1 :: l2 :: l3 :: l4 :: l5 :: l6 :: l7 :: l8 :: l9 :: l10 :: l11 :: o :: l) (.inl z :: st) (g, ρ) Q ↔ Wp zt k c (l0 :: l1 :: l2 :: l3 :: l4 :: l5 :: l6 :: l7 :: l8 :: l9 :: l10 :: l11 :: some (.inl z) :: l) st (g, ρ) Q := wp_nx rfl
theorem wp_as12 {l0 l1 l2 l3 l4 l5 l6 l7 l8 l9 l10 l11 : Option AV} {l : LsT} {o : Option AV} {a : Nat} : Wp zt k ((.astore 12, x) :: c) (l0 :: l1 :: l2 :: l3 :: l4 :: l5 :: l6 :: l7 :: l8 :: l9 :: l10 :: l11 :: o :: l) (.inr (some a) :: st) (g, ρ) Q ↔ Wp zt k c (l0 :: l1 :: l2 :: l3 :: l4 :: l5 :: l6 :: l7 :: l8 :: l9 :: l10 :: l11 :: some (.inr (some a)) :: l) st (g, ρ) Q := wp_nx rfl
theorem wp_inc12 {l0 l1 l2 l3 l4 l5 l6 l7 l8 l9 l10 l11 : Option AV} {l : LsT} {z d : Int} : Wp zt k ((.iinc 12 d, x) :: c) (l0 :: l1 :: l2 :: l3 :: l4 :: l5 :: l6 :: l7 :: l8 :: l9 :: l10 :: l11 :: some (.inl z) :: l) st (g, ρ) Q ↔ Wp zt k c (l0 :: l1 :: l2 :: l3 :: l4 :: l5 :: l6 :: l7 :: l8 :: l9 :: l10 :: l11 :: some (.inl (z + d)) :: l) st (g, ρ) Q := wp_nx rfl
theorem wp_iconst {v : Int} : Wp zt k ((.iconst v, x) :: c) ls st (g, ρ) Q ↔ Wp zt k c ls (.inl v :: st) (g, ρ) Q := wp_nx rfl
theorem wp_bipush {v : Int} : Wp zt k ((.bipush v, x) :: c) ls st (g, ρ) Q ↔ Wp zt k c ls (.inl v :: st) (g, ρ) Q := wp_nx rfl
theorem wp_sipush {v : Int} : Wp zt k ((.sipush v, x) :: c) ls st (g, ρ) Q ↔ Wp zt k c ls (.inl v :: st) (g, ρ) Q := wp_nx rfl
theorem wp_ldc {i v : Nat} : Wp zt k ((.ldc i, [v]) :: c) ls st (g, ρ) Q ↔ Wp zt k c ls (.inl (v : Int) :: st) (g, ρ) Q := wp_nx rfl
theorem wp_iadd {a b : Int} : Wp zt k ((.iadd, x) :: c) ls (.inl b :: .inl a :: st) (g, ρ) Q ↔ Wp zt k c ls (.inl (a + b) :: st) (g, ρ) Q := wp_nx rfl
theorem wp_isub {a b : Int} : Wp zt k ((.isub, x) :: c) ls (.inl b :: .inl a :: st) (g, ρ) Q ↔ Wp zt k c ls (.inl (a - b) :: st) (g, ρ) Q := wp_nx rfl
theorem wp_imul {a b : Int} : Wp zt k ((.imul, x) :: c) ls (.inl b :: .inl a :: st) (g, ρ) Q ↔ Wp zt k c ls (.inl (a * b) :: st) (g, ρ) Q := wp_nx rfl
theorem wp_iand31 {a : Int} : Wp zt k ((.iand, x) :: c) ls (.inl 2147483647 :: .inl a :: st) (g, ρ) Q ↔ Wp zt k c ls (.inl (a % 2147483648) :: st) (g, ρ) Q := wp_nx rfl
theorem wp_ishr {a b : Int} : Wp zt k ((.ishr, x) :: c) ls (.inl b :: .inl a :: st) (g, ρ) Q ↔ Wp zt k c ls (.inl (shrI a b) :: st) (g, ρ) Q := wp_nx rfl
theorem wp_ineg {a : Int} : Wp zt k ((.ineg, x) :: c) ls (.inl a :: st) (g, ρ) Q ↔ Wp zt k c ls (.inl (-a) :: st) (g, ρ) Q := wp_nx rfl
theorem wp_dup {a : AV} : Wp zt k ((.dup, x) :: c) ls (a :: st) (g, ρ) Q ↔ Wp zt k c ls (a :: a :: st) (g, ρ) Q := wp_nx rfl
theorem wp_dup2 {a b : AV} : Wp zt k ((.dup2, x) :: c) ls (b :: a :: st) (g, ρ) Q ↔ Wp zt k c ls (b :: a :: b :: a :: st) (g, ρ) Q := wp_nx rfl
theorem wp_pop {a : AV} : Wp zt k ((.pop, x) :: c) ls (a :: st) (g, ρ) Q ↔ Wp zt k c ls st (g, ρ) Q := wp_nx rfl
theorem wp_goto {o : Int} {L : Nat} : Wp zt k ((.goto o, [L]) :: c) ls st (g, ρ) Q ↔ Wp zt k (P k L) ls st (g, ρ) Q := wp_jp rfl
theorem wp_nop {L : Nat} : Wp zt k ((.nop, [L]) :: c) ls st (g, ρ) Q ↔ Wp zt k (P k L) ls st (g, ρ) Q := wp_jp rfl
theorem wp_iceq {a b : Int} {o : Int} {L : Nat} : Wp zt k ((.if_icmp .eq o, [L]) :: c) ls (.inl b :: .inl a :: st) (g, ρ) Q ↔ (a = b ∨ ((-2147483648 ≤ a ∧ a < 2147483648) ∧ (-2147483648 ≤ b ∧ b < 2147483648))) ∧ (if a = b then Wp zt k (P k L) ls st (g, ρ) Q else Wp zt k c ls st (g, ρ) Q) := by
  by_cases h : a = b
  · rw [if_pos h]
    exact ⟨fun q => ⟨Or.inl h, (wp_jp (by simp only [eff, cj]; rw [if_pos h]; rfl)).mp q⟩, fun q => (wp_jp (by simp only [eff, cj]; rw [if_pos h]; rfl)).mpr q.2⟩
  · rw [if_neg h]
    by_cases hr : rng a ∧ rng b
    · exact ⟨fun q => ⟨Or.inr hr, (wp_nx (by simp only [eff, cj]; rw [if_neg h, if_pos hr]; rfl)).mp q⟩, fun q => (wp_nx (by simp only [eff, cj]; rw [if_neg h, if_pos hr]; rfl)).mpr q.2⟩
    · exact ⟨fun q => absurd q (wp_no (by simp only [eff, cj]; rw [if_neg h, if_neg hr])), fun q => absurd (q.1.resolve_left h) (fun z => hr z)⟩
theorem wp_izeq {a : Int} {o : Int} {L : Nat} : Wp zt k ((.ifCond .eq o, [L]) :: c) ls (.inl a :: st) (g, ρ) Q ↔ (a = 0 ∨ (-2147483648 ≤ a ∧ a < 2147483648)) ∧ (if a = 0 then Wp zt k (P k L) ls st (g, ρ) Q else Wp zt k c ls st (g, ρ) Q) := by
  by_cases h : a = 0
  · rw [if_pos h]
    exact ⟨fun q => ⟨Or.inl h, (wp_jp (by simp only [eff, cj]; rw [if_pos h]; rfl)).mp q⟩, fun q => (wp_jp (by simp only [eff, cj]; rw [if_pos h]; rfl)).mpr q.2⟩
  · rw [if_neg h]
    by_cases hr : rng a ∧ rng 0
    · exact ⟨fun q => ⟨Or.inr hr.1, (wp_nx (by simp only [eff, cj]; rw [if_neg h, if_pos hr]; rfl)).mp q⟩, fun q => (wp_nx (by simp only [eff, cj]; rw [if_neg h, if_pos hr]; rfl)).mpr q.2⟩
    · exact ⟨fun q => absurd q (wp_no (by simp only [eff, cj]; rw [if_neg h, if_neg hr])), fun q => absurd (q.1.resolve_left h) (fun z => hr ⟨z, by decide⟩)⟩
theorem wp_icne {a b : Int} {o : Int} {L : Nat} : Wp zt k ((.if_icmp .ne o, [L]) :: c) ls (.inl b :: .inl a :: st) (g, ρ) Q ↔ (a = b ∨ ((-2147483648 ≤ a ∧ a < 2147483648) ∧ (-2147483648 ≤ b ∧ b < 2147483648))) ∧ (if ¬ a = b then Wp zt k (P k L) ls st (g, ρ) Q else Wp zt k c ls st (g, ρ) Q) := by
  by_cases h : a = b
  · rw [if_neg (not_not_intro h)]
    exact ⟨fun q => ⟨Or.inl h, (wp_nx (by simp only [eff, cj]; rw [if_pos h]; rfl)).mp q⟩, fun q => (wp_nx (by simp only [eff, cj]; rw [if_pos h]; rfl)).mpr q.2⟩
  · rw [if_pos h]
    by_cases hr : rng a ∧ rng b
    · exact ⟨fun q => ⟨Or.inr hr, (wp_jp (by simp only [eff, cj]; rw [if_neg h, if_pos hr]; rfl)).mp q⟩, fun q => (wp_jp (by simp only [eff, cj]; rw [if_neg h, if_pos hr]; rfl)).mpr q.2⟩
    · exact ⟨fun q => absurd q (wp_no (by simp only [eff, cj]; rw [if_neg h, if_neg hr])), fun q => absurd (q.1.resolve_left h) (fun z => hr z)⟩
theorem wp_izne {a : Int} {o : Int} {L : Nat} : Wp zt k ((.ifCond .ne o, [L]) :: c) ls (.inl a :: st) (g, ρ) Q ↔ (a = 0 ∨ (-2147483648 ≤ a ∧ a < 2147483648)) ∧ (if ¬ a = 0 then Wp zt k (P k L) ls st (g, ρ) Q else Wp zt k c ls st (g, ρ) Q) := by
  by_cases h : a = 0
  · rw [if_neg (not_not_intro h)]
    exact ⟨fun q => ⟨Or.inl h, (wp_nx (by simp only [eff, cj]; rw [if_pos h]; rfl)).mp q⟩, fun q => (wp_nx (by simp only [eff, cj]; rw [if_pos h]; rfl)).mpr q.2⟩
  · rw [if_pos h]
    by_cases hr : rng a ∧ rng 0
    · exact ⟨fun q => ⟨Or.inr hr.1, (wp_jp (by simp only [eff, cj]; rw [if_neg h, if_pos hr]; rfl)).mp q⟩, fun q => (wp_jp (by simp only [eff, cj]; rw [if_neg h, if_pos hr]; rfl)).mpr q.2⟩
    · exact ⟨fun q => absurd q (wp_no (by simp only [eff, cj]; rw [if_neg h, if_neg hr])), fun q => absurd (q.1.resolve_left h) (fun z => hr ⟨z, by decide⟩)⟩
theorem wp_iclt {a b : Int} {o : Int} {L : Nat} : Wp zt k ((.if_icmp .lt o, [L]) :: c) ls (.inl b :: .inl a :: st) (g, ρ) Q ↔ ((-2147483648 ≤ a ∧ a < 2147483648) ∧ (-2147483648 ≤ b ∧ b < 2147483648)) ∧ (if a < b then Wp zt k (P k L) ls st (g, ρ) Q else Wp zt k c ls st (g, ρ) Q) := by
  by_cases hr : rng a ∧ rng b
  · by_cases h : a < b
    · rw [if_pos h]
      exact ⟨fun q => ⟨hr, (wp_jp (by simp only [eff, cj]; rw [if_pos hr, if_pos h]; rfl)).mp q⟩, fun q => (wp_jp (by simp only [eff, cj]; rw [if_pos hr, if_pos h]; rfl)).mpr q.2⟩
    · rw [if_neg h]
      exact ⟨fun q => ⟨hr, (wp_nx (by simp only [eff, cj]; rw [if_pos hr, if_neg h]; rfl)).mp q⟩, fun q => (wp_nx (by simp only [eff, cj]; rw [if_pos hr, if_neg h]; rfl)).mpr q.2⟩
  · exact ⟨fun q => absurd q (wp_no (by simp only [eff, cj]; rw [if_neg hr])), fun q => absurd q.1 (fun z => hr z)⟩
theorem wp_izlt {a : Int} {o : Int} {L : Nat} : Wp zt k ((.ifCond .lt o, [L]) :: c) ls (.inl a :: st) (g, ρ) Q ↔ (-2147483648 ≤ a ∧ a < 2147483648) ∧ (if a < 0 then Wp zt k (P k L) ls st (g, ρ) Q else Wp zt k c ls st (g, ρ) Q) := by
  by_cases hr : rng a ∧ rng 0
  · by_cases h : a < 0
    · rw [if_pos h]
      exact ⟨fun q => ⟨hr.1, (wp_jp (by simp only [eff, cj]; rw [if_pos hr, if_pos h]; rfl)).mp q⟩, fun q => (wp_jp (by simp only [eff, cj]; rw [if_pos hr, if_pos h]; rfl)).mpr q.2⟩
    · rw [if_neg h]
      exact ⟨fun q => ⟨hr.1, (wp_nx (by simp only [eff, cj]; rw [if_pos hr, if_neg h]; rfl)).mp q⟩, fun q => (wp_nx (by simp only [eff, cj]; rw [if_pos hr, if_neg h]; rfl)).mpr q.2⟩
  · exact ⟨fun q => absurd q (wp_no (by simp only [eff, cj]; rw [if_neg hr])), fun q => absurd q.1 (fun z => hr ⟨z, by decide⟩)⟩
theorem wp_icge {a b : Int} {o : Int} {L : Nat} : Wp zt k ((.if_icmp .ge o, [L]) :: c) ls (.inl b :: .inl a :: st) (g, ρ) Q ↔ ((-2147483648 ≤ a ∧ a < 2147483648) ∧ (-2147483648 ≤ b ∧ b < 2147483648)) ∧ (if b ≤ a then Wp zt k (P k L) ls st (g, ρ) Q else Wp zt k c ls st (g, ρ) Q) := by
  by_cases hr : rng a ∧ rng b
  · by_cases h : b ≤ a
    · rw [if_pos h]
      exact ⟨fun q => ⟨hr, (wp_jp (by simp only [eff, cj]; rw [if_pos hr, if_pos h]; rfl)).mp q⟩, fun q => (wp_jp (by simp only [eff, cj]; rw [if_pos hr, if_pos h]; rfl)).mpr q.2⟩
    · rw [if_neg h]
      exact ⟨fun q => ⟨hr, (wp_nx (by simp only [eff, cj]; rw [if_pos hr, if_neg h]; rfl)).mp q⟩, fun q => (wp_nx (by simp only [eff, cj]; rw [if_pos hr, if_neg h]; rfl)).mpr q.2⟩
  · exact ⟨fun q => absurd q (wp_no (by simp only [eff, cj]; rw [if_neg hr])), fun q => absurd q.1 (fun z => hr z)⟩
theorem wp_izge {a : Int} {o : Int} {L : Nat} : Wp zt k ((.ifCond .ge o, [L]) :: c) ls (.inl a :: st) (g, ρ) Q ↔ (-2147483648 ≤ a ∧ a < 2147483648) ∧ (if 0 ≤ a then Wp zt k (P k L) ls st (g, ρ) Q else Wp zt k c ls st (g, ρ) Q) := by
  by_cases hr : rng a ∧ rng 0
  · by_cases h : 0 ≤ a
    · rw [if_pos h]
      exact ⟨fun q => ⟨hr.1, (wp_jp (by simp only [eff, cj]; rw [if_pos hr, if_pos h]; rfl)).mp q⟩, fun q => (wp_jp (by simp only [eff, cj]; rw [if_pos hr, if_pos h]; rfl)).mpr q.2⟩
    · rw [if_neg h]
      exact ⟨fun q => ⟨hr.1, (wp_nx (by simp only [eff, cj]; rw [if_pos hr, if_neg h]; rfl)).mp q⟩, fun q => (wp_nx (by simp only [eff, cj]; rw [if_pos hr, if_neg h]; rfl)).mpr q.2⟩
  · exact ⟨fun q => absurd q (wp_no (by simp only [eff, cj]; rw [if_neg hr])), fun q => absurd q.1 (fun z => hr ⟨z, by decide⟩)⟩
theorem wp_icgt {a b : Int} {o : Int} {L : Nat} : Wp zt k ((.if_icmp .gt o, [L]) :: c) ls (.inl b :: .inl a :: st) (g, ρ) Q ↔ ((-2147483648 ≤ a ∧ a < 2147483648) ∧ (-2147483648 ≤ b ∧ b < 2147483648)) ∧ (if b < a then Wp zt k (P k L) ls st (g, ρ) Q else Wp zt k c ls st (g, ρ) Q) := by
  by_cases hr : rng a ∧ rng b
  · by_cases h : b < a
    · rw [if_pos h]
      exact ⟨fun q => ⟨hr, (wp_jp (by simp only [eff, cj]; rw [if_pos hr, if_pos h]; rfl)).mp q⟩, fun q => (wp_jp (by simp only [eff, cj]; rw [if_pos hr, if_pos h]; rfl)).mpr q.2⟩
    · rw [if_neg h]
      exact ⟨fun q => ⟨hr, (wp_nx (by simp only [eff, cj]; rw [if_pos hr, if_neg h]; rfl)).mp q⟩, fun q => (wp_nx (by simp only [eff, cj]; rw [if_pos hr, if_neg h]; rfl)).mpr q.2⟩
  · exact ⟨fun q => absurd q (wp_no (by simp only [eff, cj]; rw [if_neg hr])), fun q => absurd q.1 (fun z => hr z)⟩
theorem wp_izgt {a : Int} {o : Int} {L : Nat} : Wp zt k ((.ifCond .gt o, [L]) :: c) ls (.inl a :: st) (g, ρ) Q ↔ (-2147483648 ≤ a ∧ a < 2147483648) ∧ (if 0 < a then Wp zt k (P k L) ls st (g, ρ) Q else Wp zt k c ls st (g, ρ) Q) := by
  by_cases hr : rng a ∧ rng 0
  · by_cases h : 0 < a
    · rw [if_pos h]
      exact ⟨fun q => ⟨hr.1, (wp_jp (by simp only [eff, cj]; rw [if_pos hr, if_pos h]; rfl)).mp q⟩, fun q => (wp_jp (by simp only [eff, cj]; rw [if_pos hr, if_pos h]; rfl)).mpr q.2⟩
    · rw [if_neg h]
      exact ⟨fun q => ⟨hr.1, (wp_nx (by simp only [eff, cj]; rw [if_pos hr, if_neg h]; rfl)).mp q⟩, fun q => (wp_nx (by simp only [eff, cj]; rw [if_pos hr, if_neg h]; rfl)).mpr q.2⟩
  · exact ⟨fun q => absurd q (wp_no (by simp only [eff, cj]; rw [if_neg hr])), fun q => absurd q.1 (fun z => hr ⟨z, by decide⟩)⟩
theorem wp_icle {a b : Int} {o : Int} {L : Nat} : Wp zt k ((.if_icmp .le o, [L]) :: c) ls (.inl b :: .inl a :: st) (g, ρ) Q ↔ ((-2147483648 ≤ a ∧ a < 2147483648) ∧ (-2147483648 ≤ b ∧ b < 2147483648)) ∧ (if a ≤ b then Wp zt k (P k L) ls st (g, ρ) Q else Wp zt k c ls st (g, ρ) Q) := by
  by_cases hr : rng a ∧ rng b
  · by_cases h : a ≤ b
    · rw [if_pos h]
      exact ⟨fun q => ⟨hr, (wp_jp (by simp only [eff, cj]; rw [if_pos hr, if_pos h]; rfl)).mp q⟩, fun q => (wp_jp (by simp only [eff, cj]; rw [if_pos hr, if_pos h]; rfl)).mpr q.2⟩
    · rw [if_neg h]
      exact ⟨fun q => ⟨hr, (wp_nx (by simp only [eff, cj]; rw [if_pos hr, if_neg h]; rfl)).mp q⟩, fun q => (wp_nx (by simp only [eff, cj]; rw [if_pos hr, if_neg h]; rfl)).mpr q.2⟩
  · exact ⟨fun q => absurd q (wp_no (by simp only [eff, cj]; rw [if_neg hr])), fun q => absurd q.1 (fun z => hr z)⟩
theorem wp_izle {a : Int} {o : Int} {L : Nat} : Wp zt k ((.ifCond .le o, [L]) :: c) ls (.inl a :: st) (g, ρ) Q ↔ (-2147483648 ≤ a ∧ a < 2147483648) ∧ (if a ≤ 0 then Wp zt k (P k L) ls st (g, ρ) Q else Wp zt k c ls st (g, ρ) Q) := by
  by_cases hr : rng a ∧ rng 0
  · by_cases h : a ≤ 0
    · rw [if_pos h]
      exact ⟨fun q => ⟨hr.1, (wp_jp (by simp only [eff, cj]; rw [if_pos hr, if_pos h]; rfl)).mp q⟩, fun q => (wp_jp (by simp only [eff, cj]; rw [if_pos hr, if_pos h]; rfl)).mpr q.2⟩
    · rw [if_neg h]
      exact ⟨fun q => ⟨hr.1, (wp_nx (by simp only [eff, cj]; rw [if_pos hr, if_neg h]; rfl)).mp q⟩, fun q => (wp_nx (by simp only [eff, cj]; rw [if_pos hr, if_neg h]; rfl)).mpr q.2⟩
  · exact ⟨fun q => absurd q (wp_no (by simp only [eff, cj]; rw [if_neg hr])), fun q => absurd q.1 (fun z => hr ⟨z, by decide⟩)⟩
theorem wp_idiv {a b : Int} : Wp zt k ((.idiv, x) :: c) ls (.inl b :: .inl a :: st) (g, ρ) Q ↔ ((-2147483648 ≤ a ∧ a < 2147483648) ∧ 0 < b ∧ (-2147483648 ≤ b ∧ b < 2147483648)) ∧ Wp zt k c ls (.inl (a.tdiv b) :: st) (g, ρ) Q := by
  by_cases hr : (-2147483648 ≤ a ∧ a < 2147483648) ∧ 0 < b ∧ (-2147483648 ≤ b ∧ b < 2147483648)
  · exact ⟨fun q => ⟨hr, (wp_nx (by simp only [eff, bin]; rw [if_pos hr]; rfl)).mp q⟩, fun q => (wp_nx (by simp only [eff, bin]; rw [if_pos hr]; rfl)).mpr q.2⟩
  · exact ⟨fun q => absurd q (wp_no (by simp only [eff, bin]; rw [if_neg hr])), fun q => absurd q.1 hr⟩
theorem wp_irem {a b : Int} : Wp zt k ((.irem, x) :: c) ls (.inl b :: .inl a :: st) (g, ρ) Q ↔ (0 ≤ a ∧ (-2147483648 ≤ a ∧ a < 2147483648) ∧ 0 < b ∧ (-2147483648 ≤ b ∧ b < 2147483648)) ∧ Wp zt k c ls (.inl (a % b) :: st) (g, ρ) Q := by
  by_cases hr : 0 ≤ a ∧ (-2147483648 ≤ a ∧ a < 2147483648) ∧ 0 < b ∧ (-2147483648 ≤ b ∧ b < 2147483648)
  · exact ⟨fun q => ⟨hr, (wp_nx (by simp only [eff, bin]; rw [if_pos hr]; rfl)).mp q⟩, fun q => (wp_nx (by simp only [eff, bin]; rw [if_pos hr]; rfl)).mpr q.2⟩
  · exact ⟨fun q => absurd q (wp_no (by simp only [eff, bin]; rw [if_neg hr])), fun q => absurd q.1 hr⟩
theorem wp_abs {a : Int} {i : Nat} (hs : st.length ≤ 7) : Wp zt k ((.invokestatic i, [1002, 1, 0]) :: c) ls (.inl a :: st) (g, ρ) Q ↔ ((-2147483648 ≤ a ∧ a < 2147483648) ∧ a ≠ -2147483648) ∧ Wp zt k c ls (.inl (a.natAbs : Int) :: st) (g, ρ) Q := by
  by_cases hr : rng a ∧ a ≠ -2147483648
  · have he : eff zt (.invokestatic i, [1002, 1, 0]) ls (.inl a :: st) (g, ρ) = some (.inl (ls, .inl (a.natAbs : Int) :: st, (g, ρ))) := by
      simp only [eff, x0, natC]
      rw [if_pos (by decide), if_pos (by simp only [List.length_cons]; omega), if_neg (by decide), if_neg (by decide), if_pos (by decide), if_pos hr]; rfl
    exact ⟨fun q => ⟨hr, (wp_nx he).mp q⟩, fun q => (wp_nx he).mpr q.2⟩
  · refine ⟨fun q => absurd q (wp_no ?_), fun q => absurd q.1 hr⟩
    simp only [eff, x0, natC]
    rw [if_pos (by decide), if_pos (by simp only [List.length_cons]; omega), if_neg (by decide), if_neg (by decide), if_pos (by decide), if_neg hr]
theorem wp_min {a b : Int} {i : Nat} (hs : st.length ≤ 6) : Wp zt k ((.invokestatic i, [1003, 2, 0]) :: c) ls (.inl b :: .inl a :: st) (g, ρ) Q ↔ ((-2147483648 ≤ a ∧ a < 2147483648) ∧ (-2147483648 ≤ b ∧ b < 2147483648)) ∧ Wp zt k c ls (.inl (min a b) :: st) (g, ρ) Q := by
  by_cases hr : rng a ∧ rng b
  · have he : eff zt (.invokestatic i, [1003, 2, 0]) ls (.inl b :: .inl a :: st) (g, ρ) = some (.inl (ls, .inl (min a b) :: st, (g, ρ))) := by
      simp only [eff, x0, natC, bin]
      rw [if_pos (by decide), if_pos (by simp only [List.length_cons]; omega), if_neg (by decide), if_neg (by decide), if_neg (by decide), if_pos (by decide), if_pos hr]; rfl
    exact ⟨fun q => ⟨hr, (wp_nx he).mp q⟩, fun q => (wp_nx he).mpr q.2⟩
  · refine ⟨fun q => absurd q (wp_no ?_), fun q => absurd q.1 hr⟩
    simp only [eff, x0, natC, bin]
    rw [if_pos (by decide), if_pos (by simp only [List.length_cons]; omega), if_neg (by decide), if_neg (by decide), if_neg (by decide), if_pos (by decide), if_neg hr]
theorem wp_max {a b : Int} {i : Nat} (hs : st.length ≤ 6) : Wp zt k ((.invokestatic i, [1004, 2, 0]) :: c) ls (.inl b :: .inl a :: st) (g, ρ) Q ↔ ((-2147483648 ≤ a ∧ a < 2147483648) ∧ (-2147483648 ≤ b ∧ b < 2147483648)) ∧ Wp zt k c ls (.inl (max a b) :: st) (g, ρ) Q := by
  by_cases hr : rng a ∧ rng b
  · have he : eff zt (.invokestatic i, [1004, 2, 0]) ls (.inl b :: .inl a :: st) (g, ρ) = some (.inl (ls, .inl (max a b) :: st, (g, ρ))) := by
      simp only [eff, x0, natC, bin]
      rw [if_pos (by decide), if_pos (by simp only [List.length_cons]; omega), if_neg (by decide), if_neg (by decide), if_neg (by decide), if_neg (by decide), if_pos (by decide), if_pos hr]; rfl
    exact ⟨fun q => ⟨hr, (wp_nx he).mp q⟩, fun q => (wp_nx he).mpr q.2⟩
  · refine ⟨fun q => absurd q (wp_no ?_), fun q => absurd q.1 hr⟩
    simp only [eff, x0, natC, bin]
    rw [if_pos (by decide), if_pos (by simp only [List.length_cons]; omega), if_neg (by decide), if_neg (by decide), if_neg (by decide), if_neg (by decide), if_pos (by decide), if_neg hr]
theorem wp_ret : Wp zt k ((.return_, x) :: c) ls [] (g, ρ) Q ↔ Q none (g, ρ) := wp_rt rfl
theorem wp_iret {z : Int} : Wp zt k ((.ireturn, [0]) :: c) ls [.inl z] (g, ρ) Q ↔ Q (some (.inl z)) (g, ρ) := wp_rt rfl
theorem wp_zret {z : Int} : Wp zt k ((.ireturn, [1]) :: c) ls [.inl z] (g, ρ) Q ↔ (z = 0 ∨ z = 1) ∧ Q (some (.inl z)) (g, ρ) := by
  have he : eff zt (.ireturn, [1]) ls [.inl z] (g, ρ) = if (1 : Nat) = 0 ∨ z = 0 ∨ z = 1 then some (.inr (.inr (.inr (some (.inl z))))) else none := rfl
  by_cases h : z = 0 ∨ z = 1
  · rw [if_pos (Or.inr h)] at he
    exact ⟨fun q => ⟨h, (wp_rt he).mp q⟩, fun q => (wp_rt he).mpr q.2⟩
  · rw [if_neg (fun (w : (1 : Nat) = 0 ∨ z = 0 ∨ z = 1) => w.elim (by decide) h)] at he
    exact ⟨fun q => absurd q (wp_no he), fun q => absurd q.1 h⟩
theorem gf_0_0 {i a b : Nat} (h : kdI ρ a 10) (hb : ρ.1 a 0 = some b) : Wp zt k ((.getfield i, [0, 0]) :: c) ls (.inr (some a) :: st) (g, ρ) Q ↔ Wp zt k c ls (.inr (some b) :: st) (g, ρ) Q := by
  obtain ⟨N, h⟩ := h
  exact wp_nx (by simp only [eff, shp, h]; rw [← hb]; rfl)
theorem pf_0_0 {i a b : Nat} (h : kdI ρ a 10) : Wp zt k ((.putfield i, [0, 0]) :: c) ls (.inr (some b) :: .inr (some a) :: st) (g, ρ) Q ↔ Wp zt k c ls st (g, wrR ρ.1 a 0 (some b), ρ.2) Q := by
  obtain ⟨N, h⟩ := h
  exact wp_nx (by simp only [eff, shp, h]; rfl)
theorem gf_0_1 {i a b : Nat} (h : kdI ρ a 10) (hb : ρ.1 a 1 = some b) : Wp zt k ((.getfield i, [0, 1]) :: c) ls (.inr (some a) :: st) (g, ρ) Q ↔ Wp zt k c ls (.inr (some b) :: st) (g, ρ) Q := by
  obtain ⟨N, h⟩ := h
  exact wp_nx (by simp only [eff, shp, h]; rw [← hb]; rfl)
theorem pf_0_1 {i a b : Nat} (h : kdI ρ a 10) : Wp zt k ((.putfield i, [0, 1]) :: c) ls (.inr (some b) :: .inr (some a) :: st) (g, ρ) Q ↔ Wp zt k c ls st (g, wrR ρ.1 a 1 (some b), ρ.2) Q := by
  obtain ⟨N, h⟩ := h
  exact wp_nx (by simp only [eff, shp, h]; rfl)
theorem gf_0_2 {i a : Nat} (h : kdI ρ a 10) : Wp zt k ((.getfield i, [0, 2]) :: c) ls (.inr (some a) :: st) (g, ρ) Q ↔ Wp zt k c ls (.inl (g a 2) :: st) (g, ρ) Q := by
  obtain ⟨N, h⟩ := h
  exact wp_nx (by simp only [eff, shp, h]; rfl)
theorem pf_0_2 {i a : Nat} {v : Int} (h : kdI ρ a 10) : Wp zt k ((.putfield i, [0, 2]) :: c) ls (.inl v :: .inr (some a) :: st) (g, ρ) Q ↔ Wp zt k c ls st (wrI g a 2 v, ρ) Q := by
  obtain ⟨N, h⟩ := h
  exact wp_nx (by simp only [eff, shp, h]; rfl)
theorem gf_0_3 {i a : Nat} (h : kdI ρ a 10) : Wp zt k ((.getfield i, [0, 3]) :: c) ls (.inr (some a) :: st) (g, ρ) Q ↔ Wp zt k c ls (.inl (g a 3) :: st) (g, ρ) Q := by
  obtain ⟨N, h⟩ := h
  exact wp_nx (by simp only [eff, shp, h]; rfl)
theorem pf_0_3 {i a : Nat} {v : Int} (h : kdI ρ a 10) : Wp zt k ((.putfield i, [0, 3]) :: c) ls (.inl v :: .inr (some a) :: st) (g, ρ) Q ↔ Wp zt k c ls st (wrI g a 3 v, ρ) Q := by
  obtain ⟨N, h⟩ := h
  exact wp_nx (by simp only [eff, shp, h]; rfl)
theorem gf_1_0 {i a b : Nat} (h : kdI ρ a 11) (hb : ρ.1 a 0 = some b) : Wp zt k ((.getfield i, [1, 0]) :: c) ls (.inr (some a) :: st) (g, ρ) Q ↔ Wp zt k c ls (.inr (some b) :: st) (g, ρ) Q := by
  obtain ⟨N, h⟩ := h
  exact wp_nx (by simp only [eff, shp, h]; rw [← hb]; rfl)
theorem pf_1_0 {i a b : Nat} (h : kdI ρ a 11) : Wp zt k ((.putfield i, [1, 0]) :: c) ls (.inr (some b) :: .inr (some a) :: st) (g, ρ) Q ↔ Wp zt k c ls st (g, wrR ρ.1 a 0 (some b), ρ.2) Q := by
  obtain ⟨N, h⟩ := h
  exact wp_nx (by simp only [eff, shp, h]; rfl)
theorem gf_1_1 {i a b : Nat} (h : kdI ρ a 11) (hb : ρ.1 a 1 = some b) : Wp zt k ((.getfield i, [1, 1]) :: c) ls (.inr (some a) :: st) (g, ρ) Q ↔ Wp zt k c ls (.inr (some b) :: st) (g, ρ) Q := by
  obtain ⟨N, h⟩ := h
  exact wp_nx (by simp only [eff, shp, h]; rw [← hb]; rfl)
theorem pf_1_1 {i a b : Nat} (h : kdI ρ a 11) : Wp zt k ((.putfield i, [1, 1]) :: c) ls (.inr (some b) :: .inr (some a) :: st) (g, ρ) Q ↔ Wp zt k c ls st (g, wrR ρ.1 a 1 (some b), ρ.2) Q := by
  obtain ⟨N, h⟩ := h
  exact wp_nx (by simp only [eff, shp, h]; rfl)
theorem gf_1_2 {i a b : Nat} (h : kdI ρ a 11) (hb : ρ.1 a 2 = some b) : Wp zt k ((.getfield i, [1, 2]) :: c) ls (.inr (some a) :: st) (g, ρ) Q ↔ Wp zt k c ls (.inr (some b) :: st) (g, ρ) Q := by
  obtain ⟨N, h⟩ := h
  exact wp_nx (by simp only [eff, shp, h]; rw [← hb]; rfl)
theorem pf_1_2 {i a b : Nat} (h : kdI ρ a 11) : Wp zt k ((.putfield i, [1, 2]) :: c) ls (.inr (some b) :: .inr (some a) :: st) (g, ρ) Q ↔ Wp zt k c ls st (g, wrR ρ.1 a 2 (some b), ρ.2) Q := by
  obtain ⟨N, h⟩ := h
  exact wp_nx (by simp only [eff, shp, h]; rfl)
theorem gf_1_3 {i a b : Nat} (h : kdI ρ a 11) (hb : ρ.1 a 3 = some b) : Wp zt k ((.getfield i, [1, 3]) :: c) ls (.inr (some a) :: st) (g, ρ) Q ↔ Wp zt k c ls (.inr (some b) :: st) (g, ρ) Q := by
  obtain ⟨N, h⟩ := h
  exact wp_nx (by simp only [eff, shp, h]; rw [← hb]; rfl)
theorem pf_1_3 {i a b : Nat} (h : kdI ρ a 11) : Wp zt k ((.putfield i, [1, 3]) :: c) ls (.inr (some b) :: .inr (some a) :: st) (g, ρ) Q ↔ Wp zt k c ls st (g, wrR ρ.1 a 3 (some b), ρ.2) Q := by
  obtain ⟨N, h⟩ := h
  exact wp_nx (by simp only [eff, shp, h]; rfl)
theorem gf_1_4 {i a b : Nat} (h : kdI ρ a 11) (hb : ρ.1 a 4 = some b) : Wp zt k ((.getfield i, [1, 4]) :: c) ls (.inr (some a) :: st) (g, ρ) Q ↔ Wp zt k c ls (.inr (some b) :: st) (g, ρ) Q := by
  obtain ⟨N, h⟩ := h
  exact wp_nx (by simp only [eff, shp, h]; rw [← hb]; rfl)
theorem pf_1_4 {i a b : Nat} (h : kdI ρ a 11) : Wp zt k ((.putfield i, [1, 4]) :: c) ls (.inr (some b) :: .inr (some a) :: st) (g, ρ) Q ↔ Wp zt k c ls st (g, wrR ρ.1 a 4 (some b), ρ.2) Q := by
  obtain ⟨N, h⟩ := h
  exact wp_nx (by simp only [eff, shp, h]; rfl)
theorem gf_1_5 {i a b : Nat} (h : kdI ρ a 11) (hb : ρ.1 a 5 = some b) : Wp zt k ((.getfield i, [1, 5]) :: c) ls (.inr (some a) :: st) (g, ρ) Q ↔ Wp zt k c ls (.inr (some b) :: st) (g, ρ) Q := by
  obtain ⟨N, h⟩ := h
  exact wp_nx (by simp only [eff, shp, h]; rw [← hb]; rfl)
theorem pf_1_5 {i a b : Nat} (h : kdI ρ a 11) : Wp zt k ((.putfield i, [1, 5]) :: c) ls (.inr (some b) :: .inr (some a) :: st) (g, ρ) Q ↔ Wp zt k c ls st (g, wrR ρ.1 a 5 (some b), ρ.2) Q := by
  obtain ⟨N, h⟩ := h
  exact wp_nx (by simp only [eff, shp, h]; rfl)
theorem gf_1_6 {i a : Nat} (h : kdI ρ a 11) : Wp zt k ((.getfield i, [1, 6]) :: c) ls (.inr (some a) :: st) (g, ρ) Q ↔ Wp zt k c ls (.inl (g a 6) :: st) (g, ρ) Q := by
  obtain ⟨N, h⟩ := h
  exact wp_nx (by simp only [eff, shp, h]; rfl)
theorem pf_1_6 {i a : Nat} {v : Int} (h : kdI ρ a 11) : Wp zt k ((.putfield i, [1, 6]) :: c) ls (.inl v :: .inr (some a) :: st) (g, ρ) Q ↔ Wp zt k c ls st (wrI g a 6 v, ρ) Q := by
  obtain ⟨N, h⟩ := h
  exact wp_nx (by simp only [eff, shp, h]; rfl)
theorem gf_1_7 {i a : Nat} (h : kdI ρ a 11) : Wp zt k ((.getfield i, [1, 7]) :: c) ls (.inr (some a) :: st) (g, ρ) Q ↔ Wp zt k c ls (.inl (g a 7) :: st) (g, ρ) Q := by
  obtain ⟨N, h⟩ := h
  exact wp_nx (by simp only [eff, shp, h]; rfl)
theorem pf_1_7 {i a : Nat} {v : Int} (h : kdI ρ a 11) : Wp zt k ((.putfield i, [1, 7]) :: c) ls (.inl v :: .inr (some a) :: st) (g, ρ) Q ↔ Wp zt k c ls st (wrI g a 7 v, ρ) Q := by
  obtain ⟨N, h⟩ := h
  exact wp_nx (by simp only [eff, shp, h]; rfl)
theorem gf_1_8 {i a : Nat} (h : kdI ρ a 11) : Wp zt k ((.getfield i, [1, 8]) :: c) ls (.inr (some a) :: st) (g, ρ) Q ↔ Wp zt k c ls (.inl (g a 8) :: st) (g, ρ) Q := by
  obtain ⟨N, h⟩ := h
  exact wp_nx (by simp only [eff, shp, h]; rfl)
theorem pf_1_8 {i a : Nat} {v : Int} (h : kdI ρ a 11) : Wp zt k ((.putfield i, [1, 8]) :: c) ls (.inl v :: .inr (some a) :: st) (g, ρ) Q ↔ Wp zt k c ls st (wrI g a 8 v, ρ) Q := by
  obtain ⟨N, h⟩ := h
  exact wp_nx (by simp only [eff, shp, h]; rfl)
theorem gf_2_0 {i a : Nat} (h : kdI ρ a 12) : Wp zt k ((.getfield i, [2, 0]) :: c) ls (.inr (some a) :: st) (g, ρ) Q ↔ Wp zt k c ls (.inl (g a 0) :: st) (g, ρ) Q := by
  obtain ⟨N, h⟩ := h
  exact wp_nx (by simp only [eff, shp, h]; rfl)
theorem pf_2_0 {i a : Nat} {v : Int} (h : kdI ρ a 12) : Wp zt k ((.putfield i, [2, 0]) :: c) ls (.inl v :: .inr (some a) :: st) (g, ρ) Q ↔ Wp zt k c ls st (wrI g a 0 v, ρ) Q := by
  obtain ⟨N, h⟩ := h
  exact wp_nx (by simp only [eff, shp, h]; rfl)
theorem gf_2_1 {i a b : Nat} (h : kdI ρ a 12) (hb : ρ.1 a 1 = some b) : Wp zt k ((.getfield i, [2, 1]) :: c) ls (.inr (some a) :: st) (g, ρ) Q ↔ Wp zt k c ls (.inr (some b) :: st) (g, ρ) Q := by
  obtain ⟨N, h⟩ := h
  exact wp_nx (by simp only [eff, shp, h]; rw [← hb]; rfl)
theorem pf_2_1 {i a b : Nat} (h : kdI ρ a 12) : Wp zt k ((.putfield i, [2, 1]) :: c) ls (.inr (some b) :: .inr (some a) :: st) (g, ρ) Q ↔ Wp zt k c ls st (g, wrR ρ.1 a 1 (some b), ρ.2) Q := by
  obtain ⟨N, h⟩ := h
  exact wp_nx (by simp only [eff, shp, h]; rfl)
theorem gf_2_2 {i a : Nat} (h : kdI ρ a 12) : Wp zt k ((.getfield i, [2, 2]) :: c) ls (.inr (some a) :: st) (g, ρ) Q ↔ Wp zt k c ls (.inl (g a 2) :: st) (g, ρ) Q := by
  obtain ⟨N, h⟩ := h
  exact wp_nx (by simp only [eff, shp, h]; rfl)
theorem pf_2_2 {i a : Nat} {v : Int} (h : kdI ρ a 12) : Wp zt k ((.putfield i, [2, 2]) :: c) ls (.inl v :: .inr (some a) :: st) (g, ρ) Q ↔ Wp zt k c ls st (wrI g a 2 v, ρ) Q := by
  obtain ⟨N, h⟩ := h
  exact wp_nx (by simp only [eff, shp, h]; rfl)
theorem gf_2_3 {i a : Nat} (h : kdI ρ a 12) : Wp zt k ((.getfield i, [2, 3]) :: c) ls (.inr (some a) :: st) (g, ρ) Q ↔ Wp zt k c ls (.inl (g a 3) :: st) (g, ρ) Q := by
  obtain ⟨N, h⟩ := h
  exact wp_nx (by simp only [eff, shp, h]; rfl)
theorem pf_2_3 {i a : Nat} {v : Int} (h : kdI ρ a 12) : Wp zt k ((.putfield i, [2, 3]) :: c) ls (.inl v :: .inr (some a) :: st) (g, ρ) Q ↔ Wp zt k c ls st (wrI g a 3 v, ρ) Q := by
  obtain ⟨N, h⟩ := h
  exact wp_nx (by simp only [eff, shp, h]; rfl)
theorem gf_3_0 {i a : Nat} (h : kdI ρ a 13) : Wp zt k ((.getfield i, [3, 0]) :: c) ls (.inr (some a) :: st) (g, ρ) Q ↔ Wp zt k c ls (.inl (g a 0) :: st) (g, ρ) Q := by
  obtain ⟨N, h⟩ := h
  exact wp_nx (by simp only [eff, shp, h]; rfl)
theorem pf_3_0 {i a : Nat} {v : Int} (h : kdI ρ a 13) : Wp zt k ((.putfield i, [3, 0]) :: c) ls (.inl v :: .inr (some a) :: st) (g, ρ) Q ↔ Wp zt k c ls st (wrI g a 0 v, ρ) Q := by
  obtain ⟨N, h⟩ := h
  exact wp_nx (by simp only [eff, shp, h]; rfl)
theorem gf_3_1 {i a b : Nat} (h : kdI ρ a 13) (hb : ρ.1 a 1 = some b) : Wp zt k ((.getfield i, [3, 1]) :: c) ls (.inr (some a) :: st) (g, ρ) Q ↔ Wp zt k c ls (.inr (some b) :: st) (g, ρ) Q := by
  obtain ⟨N, h⟩ := h
  exact wp_nx (by simp only [eff, shp, h]; rw [← hb]; rfl)
theorem pf_3_1 {i a b : Nat} (h : kdI ρ a 13) : Wp zt k ((.putfield i, [3, 1]) :: c) ls (.inr (some b) :: .inr (some a) :: st) (g, ρ) Q ↔ Wp zt k c ls st (g, wrR ρ.1 a 1 (some b), ρ.2) Q := by
  obtain ⟨N, h⟩ := h
  exact wp_nx (by simp only [eff, shp, h]; rfl)
theorem gf_3_2 {i a b : Nat} (h : kdI ρ a 13) (hb : ρ.1 a 2 = some b) : Wp zt k ((.getfield i, [3, 2]) :: c) ls (.inr (some a) :: st) (g, ρ) Q ↔ Wp zt k c ls (.inr (some b) :: st) (g, ρ) Q := by
  obtain ⟨N, h⟩ := h
  exact wp_nx (by simp only [eff, shp, h]; rw [← hb]; rfl)
theorem pf_3_2 {i a b : Nat} (h : kdI ρ a 13) : Wp zt k ((.putfield i, [3, 2]) :: c) ls (.inr (some b) :: .inr (some a) :: st) (g, ρ) Q ↔ Wp zt k c ls st (g, wrR ρ.1 a 2 (some b), ρ.2) Q := by
  obtain ⟨N, h⟩ := h
  exact wp_nx (by simp only [eff, shp, h]; rfl)
theorem gf_3_3 {i a b : Nat} (h : kdI ρ a 13) (hb : ρ.1 a 3 = some b) : Wp zt k ((.getfield i, [3, 3]) :: c) ls (.inr (some a) :: st) (g, ρ) Q ↔ Wp zt k c ls (.inr (some b) :: st) (g, ρ) Q := by
  obtain ⟨N, h⟩ := h
  exact wp_nx (by simp only [eff, shp, h]; rw [← hb]; rfl)
theorem pf_3_3 {i a b : Nat} (h : kdI ρ a 13) : Wp zt k ((.putfield i, [3, 3]) :: c) ls (.inr (some b) :: .inr (some a) :: st) (g, ρ) Q ↔ Wp zt k c ls st (g, wrR ρ.1 a 3 (some b), ρ.2) Q := by
  obtain ⟨N, h⟩ := h
  exact wp_nx (by simp only [eff, shp, h]; rfl)
theorem gf_3_4 {i a b : Nat} (h : kdI ρ a 13) (hb : ρ.1 a 4 = some b) : Wp zt k ((.getfield i, [3, 4]) :: c) ls (.inr (some a) :: st) (g, ρ) Q ↔ Wp zt k c ls (.inr (some b) :: st) (g, ρ) Q := by
  obtain ⟨N, h⟩ := h
  exact wp_nx (by simp only [eff, shp, h]; rw [← hb]; rfl)
theorem pf_3_4 {i a b : Nat} (h : kdI ρ a 13) : Wp zt k ((.putfield i, [3, 4]) :: c) ls (.inr (some b) :: .inr (some a) :: st) (g, ρ) Q ↔ Wp zt k c ls st (g, wrR ρ.1 a 4 (some b), ρ.2) Q := by
  obtain ⟨N, h⟩ := h
  exact wp_nx (by simp only [eff, shp, h]; rfl)
theorem gf_3_5 {i a : Nat} (h : kdI ρ a 13) : Wp zt k ((.getfield i, [3, 5]) :: c) ls (.inr (some a) :: st) (g, ρ) Q ↔ Wp zt k c ls (.inl (g a 5) :: st) (g, ρ) Q := by
  obtain ⟨N, h⟩ := h
  exact wp_nx (by simp only [eff, shp, h]; rfl)
theorem pf_3_5 {i a : Nat} {v : Int} (h : kdI ρ a 13) : Wp zt k ((.putfield i, [3, 5]) :: c) ls (.inl v :: .inr (some a) :: st) (g, ρ) Q ↔ Wp zt k c ls st (wrI g a 5 v, ρ) Q := by
  obtain ⟨N, h⟩ := h
  exact wp_nx (by simp only [eff, shp, h]; rfl)
theorem gf_3_6 {i a b : Nat} (h : kdI ρ a 13) (hb : ρ.1 a 6 = some b) : Wp zt k ((.getfield i, [3, 6]) :: c) ls (.inr (some a) :: st) (g, ρ) Q ↔ Wp zt k c ls (.inr (some b) :: st) (g, ρ) Q := by
  obtain ⟨N, h⟩ := h
  exact wp_nx (by simp only [eff, shp, h]; rw [← hb]; rfl)
theorem pf_3_6 {i a b : Nat} (h : kdI ρ a 13) : Wp zt k ((.putfield i, [3, 6]) :: c) ls (.inr (some b) :: .inr (some a) :: st) (g, ρ) Q ↔ Wp zt k c ls st (g, wrR ρ.1 a 6 (some b), ρ.2) Q := by
  obtain ⟨N, h⟩ := h
  exact wp_nx (by simp only [eff, shp, h]; rfl)
theorem gf_3_7 {i a b : Nat} (h : kdI ρ a 13) (hb : ρ.1 a 7 = some b) : Wp zt k ((.getfield i, [3, 7]) :: c) ls (.inr (some a) :: st) (g, ρ) Q ↔ Wp zt k c ls (.inr (some b) :: st) (g, ρ) Q := by
  obtain ⟨N, h⟩ := h
  exact wp_nx (by simp only [eff, shp, h]; rw [← hb]; rfl)
theorem pf_3_7 {i a b : Nat} (h : kdI ρ a 13) : Wp zt k ((.putfield i, [3, 7]) :: c) ls (.inr (some b) :: .inr (some a) :: st) (g, ρ) Q ↔ Wp zt k c ls st (g, wrR ρ.1 a 7 (some b), ρ.2) Q := by
  obtain ⟨N, h⟩ := h
  exact wp_nx (by simp only [eff, shp, h]; rfl)
theorem gf_3_8 {i a : Nat} (h : kdI ρ a 13) : Wp zt k ((.getfield i, [3, 8]) :: c) ls (.inr (some a) :: st) (g, ρ) Q ↔ Wp zt k c ls (.inl (g a 8) :: st) (g, ρ) Q := by
  obtain ⟨N, h⟩ := h
  exact wp_nx (by simp only [eff, shp, h]; rfl)
theorem pf_3_8 {i a : Nat} {v : Int} (h : kdI ρ a 13) : Wp zt k ((.putfield i, [3, 8]) :: c) ls (.inl v :: .inr (some a) :: st) (g, ρ) Q ↔ Wp zt k c ls st (wrI g a 8 v, ρ) Q := by
  obtain ⟨N, h⟩ := h
  exact wp_nx (by simp only [eff, shp, h]; rfl)
theorem gf_3_9 {i a b : Nat} (h : kdI ρ a 13) (hb : ρ.1 a 9 = some b) : Wp zt k ((.getfield i, [3, 9]) :: c) ls (.inr (some a) :: st) (g, ρ) Q ↔ Wp zt k c ls (.inr (some b) :: st) (g, ρ) Q := by
  obtain ⟨N, h⟩ := h
  exact wp_nx (by simp only [eff, shp, h]; rw [← hb]; rfl)
theorem pf_3_9 {i a b : Nat} (h : kdI ρ a 13) : Wp zt k ((.putfield i, [3, 9]) :: c) ls (.inr (some b) :: .inr (some a) :: st) (g, ρ) Q ↔ Wp zt k c ls st (g, wrR ρ.1 a 9 (some b), ρ.2) Q := by
  obtain ⟨N, h⟩ := h
  exact wp_nx (by simp only [eff, shp, h]; rfl)
theorem gf_3_10 {i a b : Nat} (h : kdI ρ a 13) (hb : ρ.1 a 10 = some b) : Wp zt k ((.getfield i, [3, 10]) :: c) ls (.inr (some a) :: st) (g, ρ) Q ↔ Wp zt k c ls (.inr (some b) :: st) (g, ρ) Q := by
  obtain ⟨N, h⟩ := h
  exact wp_nx (by simp only [eff, shp, h]; rw [← hb]; rfl)
theorem pf_3_10 {i a b : Nat} (h : kdI ρ a 13) : Wp zt k ((.putfield i, [3, 10]) :: c) ls (.inr (some b) :: .inr (some a) :: st) (g, ρ) Q ↔ Wp zt k c ls st (g, wrR ρ.1 a 10 (some b), ρ.2) Q := by
  obtain ⟨N, h⟩ := h
  exact wp_nx (by simp only [eff, shp, h]; rfl)
theorem gf_4_0 {i a b : Nat} (h : kdI ρ a 14) (hb : ρ.1 a 0 = some b) : Wp zt k ((.getfield i, [4, 0]) :: c) ls (.inr (some a) :: st) (g, ρ) Q ↔ Wp zt k c ls (.inr (some b) :: st) (g, ρ) Q := by
  obtain ⟨N, h⟩ := h
  exact wp_nx (by simp only [eff, shp, h]; rw [← hb]; rfl)
theorem pf_4_0 {i a b : Nat} (h : kdI ρ a 14) : Wp zt k ((.putfield i, [4, 0]) :: c) ls (.inr (some b) :: .inr (some a) :: st) (g, ρ) Q ↔ Wp zt k c ls st (g, wrR ρ.1 a 0 (some b), ρ.2) Q := by
  obtain ⟨N, h⟩ := h
  exact wp_nx (by simp only [eff, shp, h]; rfl)
theorem gf_4_1 {i a b : Nat} (h : kdI ρ a 14) (hb : ρ.1 a 1 = some b) : Wp zt k ((.getfield i, [4, 1]) :: c) ls (.inr (some a) :: st) (g, ρ) Q ↔ Wp zt k c ls (.inr (some b) :: st) (g, ρ) Q := by
  obtain ⟨N, h⟩ := h
  exact wp_nx (by simp only [eff, shp, h]; rw [← hb]; rfl)
theorem pf_4_1 {i a b : Nat} (h : kdI ρ a 14) : Wp zt k ((.putfield i, [4, 1]) :: c) ls (.inr (some b) :: .inr (some a) :: st) (g, ρ) Q ↔ Wp zt k c ls st (g, wrR ρ.1 a 1 (some b), ρ.2) Q := by
  obtain ⟨N, h⟩ := h
  exact wp_nx (by simp only [eff, shp, h]; rfl)
theorem gf_4_2 {i a b : Nat} (h : kdI ρ a 14) (hb : ρ.1 a 2 = some b) : Wp zt k ((.getfield i, [4, 2]) :: c) ls (.inr (some a) :: st) (g, ρ) Q ↔ Wp zt k c ls (.inr (some b) :: st) (g, ρ) Q := by
  obtain ⟨N, h⟩ := h
  exact wp_nx (by simp only [eff, shp, h]; rw [← hb]; rfl)
theorem pf_4_2 {i a b : Nat} (h : kdI ρ a 14) : Wp zt k ((.putfield i, [4, 2]) :: c) ls (.inr (some b) :: .inr (some a) :: st) (g, ρ) Q ↔ Wp zt k c ls st (g, wrR ρ.1 a 2 (some b), ρ.2) Q := by
  obtain ⟨N, h⟩ := h
  exact wp_nx (by simp only [eff, shp, h]; rfl)
theorem gf_5_0 {i a b : Nat} (h : kdI ρ a 15) (hb : ρ.1 a 0 = some b) : Wp zt k ((.getfield i, [5, 0]) :: c) ls (.inr (some a) :: st) (g, ρ) Q ↔ Wp zt k c ls (.inr (some b) :: st) (g, ρ) Q := by
  obtain ⟨N, h⟩ := h
  exact wp_nx (by simp only [eff, shp, h]; rw [← hb]; rfl)
theorem pf_5_0 {i a b : Nat} (h : kdI ρ a 15) : Wp zt k ((.putfield i, [5, 0]) :: c) ls (.inr (some b) :: .inr (some a) :: st) (g, ρ) Q ↔ Wp zt k c ls st (g, wrR ρ.1 a 0 (some b), ρ.2) Q := by
  obtain ⟨N, h⟩ := h
  exact wp_nx (by simp only [eff, shp, h]; rfl)
theorem gf_5_1 {i a b : Nat} (h : kdI ρ a 15) (hb : ρ.1 a 1 = some b) : Wp zt k ((.getfield i, [5, 1]) :: c) ls (.inr (some a) :: st) (g, ρ) Q ↔ Wp zt k c ls (.inr (some b) :: st) (g, ρ) Q := by
  obtain ⟨N, h⟩ := h
  exact wp_nx (by simp only [eff, shp, h]; rw [← hb]; rfl)
theorem pf_5_1 {i a b : Nat} (h : kdI ρ a 15) : Wp zt k ((.putfield i, [5, 1]) :: c) ls (.inr (some b) :: .inr (some a) :: st) (g, ρ) Q ↔ Wp zt k c ls st (g, wrR ρ.1 a 1 (some b), ρ.2) Q := by
  obtain ⟨N, h⟩ := h
  exact wp_nx (by simp only [eff, shp, h]; rfl)
theorem gf_5_2 {i a : Nat} (h : kdI ρ a 15) : Wp zt k ((.getfield i, [5, 2]) :: c) ls (.inr (some a) :: st) (g, ρ) Q ↔ Wp zt k c ls (.inl (g a 2) :: st) (g, ρ) Q := by
  obtain ⟨N, h⟩ := h
  exact wp_nx (by simp only [eff, shp, h]; rfl)
theorem pf_5_2 {i a : Nat} {v : Int} (h : kdI ρ a 15) : Wp zt k ((.putfield i, [5, 2]) :: c) ls (.inl v :: .inr (some a) :: st) (g, ρ) Q ↔ Wp zt k c ls st (wrI g a 2 v, ρ) Q := by
  obtain ⟨N, h⟩ := h
  exact wp_nx (by simp only [eff, shp, h]; rfl)
theorem gf_5_3 {i a b : Nat} (h : kdI ρ a 15) (hb : ρ.1 a 3 = some b) : Wp zt k ((.getfield i, [5, 3]) :: c) ls (.inr (some a) :: st) (g, ρ) Q ↔ Wp zt k c ls (.inr (some b) :: st) (g, ρ) Q := by
  obtain ⟨N, h⟩ := h
  exact wp_nx (by simp only [eff, shp, h]; rw [← hb]; rfl)
theorem pf_5_3 {i a b : Nat} (h : kdI ρ a 15) : Wp zt k ((.putfield i, [5, 3]) :: c) ls (.inr (some b) :: .inr (some a) :: st) (g, ρ) Q ↔ Wp zt k c ls st (g, wrR ρ.1 a 3 (some b), ρ.2) Q := by
  obtain ⟨N, h⟩ := h
  exact wp_nx (by simp only [eff, shp, h]; rfl)
theorem gf_5_4 {i a b : Nat} (h : kdI ρ a 15) (hb : ρ.1 a 4 = some b) : Wp zt k ((.getfield i, [5, 4]) :: c) ls (.inr (some a) :: st) (g, ρ) Q ↔ Wp zt k c ls (.inr (some b) :: st) (g, ρ) Q := by
  obtain ⟨N, h⟩ := h
  exact wp_nx (by simp only [eff, shp, h]; rw [← hb]; rfl)
theorem pf_5_4 {i a b : Nat} (h : kdI ρ a 15) : Wp zt k ((.putfield i, [5, 4]) :: c) ls (.inr (some b) :: .inr (some a) :: st) (g, ρ) Q ↔ Wp zt k c ls st (g, wrR ρ.1 a 4 (some b), ρ.2) Q := by
  obtain ⟨N, h⟩ := h
  exact wp_nx (by simp only [eff, shp, h]; rfl)
theorem gf_5_5 {i a b : Nat} (h : kdI ρ a 15) (hb : ρ.1 a 5 = some b) : Wp zt k ((.getfield i, [5, 5]) :: c) ls (.inr (some a) :: st) (g, ρ) Q ↔ Wp zt k c ls (.inr (some b) :: st) (g, ρ) Q := by
  obtain ⟨N, h⟩ := h
  exact wp_nx (by simp only [eff, shp, h]; rw [← hb]; rfl)
theorem pf_5_5 {i a b : Nat} (h : kdI ρ a 15) : Wp zt k ((.putfield i, [5, 5]) :: c) ls (.inr (some b) :: .inr (some a) :: st) (g, ρ) Q ↔ Wp zt k c ls st (g, wrR ρ.1 a 5 (some b), ρ.2) Q := by
  obtain ⟨N, h⟩ := h
  exact wp_nx (by simp only [eff, shp, h]; rfl)
theorem gf_5_6 {i a b : Nat} (h : kdI ρ a 15) (hb : ρ.1 a 6 = some b) : Wp zt k ((.getfield i, [5, 6]) :: c) ls (.inr (some a) :: st) (g, ρ) Q ↔ Wp zt k c ls (.inr (some b) :: st) (g, ρ) Q := by
  obtain ⟨N, h⟩ := h
  exact wp_nx (by simp only [eff, shp, h]; rw [← hb]; rfl)
theorem pf_5_6 {i a b : Nat} (h : kdI ρ a 15) : Wp zt k ((.putfield i, [5, 6]) :: c) ls (.inr (some b) :: .inr (some a) :: st) (g, ρ) Q ↔ Wp zt k c ls st (g, wrR ρ.1 a 6 (some b), ρ.2) Q := by
  obtain ⟨N, h⟩ := h
  exact wp_nx (by simp only [eff, shp, h]; rfl)
theorem gf_5_7 {i a b : Nat} (h : kdI ρ a 15) (hb : ρ.1 a 7 = some b) : Wp zt k ((.getfield i, [5, 7]) :: c) ls (.inr (some a) :: st) (g, ρ) Q ↔ Wp zt k c ls (.inr (some b) :: st) (g, ρ) Q := by
  obtain ⟨N, h⟩ := h
  exact wp_nx (by simp only [eff, shp, h]; rw [← hb]; rfl)
theorem pf_5_7 {i a b : Nat} (h : kdI ρ a 15) : Wp zt k ((.putfield i, [5, 7]) :: c) ls (.inr (some b) :: .inr (some a) :: st) (g, ρ) Q ↔ Wp zt k c ls st (g, wrR ρ.1 a 7 (some b), ρ.2) Q := by
  obtain ⟨N, h⟩ := h
  exact wp_nx (by simp only [eff, shp, h]; rfl)
theorem gf_5_8 {i a : Nat} (h : kdI ρ a 15) : Wp zt k ((.getfield i, [5, 8]) :: c) ls (.inr (some a) :: st) (g, ρ) Q ↔ Wp zt k c ls (.inl (g a 8) :: st) (g, ρ) Q := by
  obtain ⟨N, h⟩ := h
  exact wp_nx (by simp only [eff, shp, h]; rfl)
theorem pf_5_8 {i a : Nat} {v : Int} (h : kdI ρ a 15) : Wp zt k ((.putfield i, [5, 8]) :: c) ls (.inl v :: .inr (some a) :: st) (g, ρ) Q ↔ Wp zt k c ls st (wrI g a 8 v, ρ) Q := by
  obtain ⟨N, h⟩ := h
  exact wp_nx (by simp only [eff, shp, h]; rfl)
theorem wp_iald {i : Int} {b : Nat} (h : kdI ρ b 0) : Wp zt k ((.iaload, x) :: c) ls (.inl i :: .inr (some b) :: st) (g, ρ) Q ↔ (0 ≤ i ∧ i < (lnA ρ b : Int) ∧ i < 65536) ∧ Wp zt k c ls (.inl (g b i.toNat) :: st) (g, ρ) Q := by
  have hl := kdI_ln h
  by_cases hr : (0 ≤ i ∧ i < (lnA ρ b : Int) ∧ i < 65536)
  · have he : eff zt (.iaload, x) ls (.inl i :: .inr (some b) :: st) (g, ρ) = some (.inl (ls, (.inl (g b i.toNat) :: st), (g, ρ))) := by
      simp only [eff, aldI, shp, hl]
      rw [if_pos (by simpa using hr)]; rfl
    exact ⟨fun q => ⟨hr, (wp_nx he).mp q⟩, fun q => (wp_nx he).mpr q.2⟩
  · refine ⟨fun q => absurd q (wp_no ?_), fun q => absurd q.1 hr⟩
    simp only [eff, aldI, shp, hl]
    rw [if_neg (fun z => hr (by simpa using z))]
theorem wp_iald4 {i : Int} {b : Nat} (h : kdI ρ b 4) : Wp zt k ((.iaload, x) :: c) ls (.inl i :: .inr (some b) :: st) (g, ρ) Q ↔ (0 ≤ i ∧ i < (lnA ρ b : Int) ∧ i < 65536) ∧ Wp zt k c ls (.inl (g b i.toNat) :: st) (g, ρ) Q := by
  have hl := kdI_ln h
  by_cases hr : (0 ≤ i ∧ i < (lnA ρ b : Int) ∧ i < 65536)
  · have he : eff zt (.iaload, x) ls (.inl i :: .inr (some b) :: st) (g, ρ) = some (.inl (ls, (.inl (g b i.toNat) :: st), (g, ρ))) := by
      simp only [eff, aldI, shp, hl]
      rw [if_pos (by simpa using hr)]; rfl
    exact ⟨fun q => ⟨hr, (wp_nx he).mp q⟩, fun q => (wp_nx he).mpr q.2⟩
  · refine ⟨fun q => absurd q (wp_no ?_), fun q => absurd q.1 hr⟩
    simp only [eff, aldI, shp, hl]
    rw [if_neg (fun z => hr (by simpa using z))]
theorem wp_bald {i : Int} {b : Nat} (h : kdI ρ b 1) : Wp zt k ((.baload, x) :: c) ls (.inl i :: .inr (some b) :: st) (g, ρ) Q ↔ (0 ≤ i ∧ i < (lnA ρ b : Int) ∧ i < 65536) ∧ Wp zt k c ls (.inl (g b i.toNat) :: st) (g, ρ) Q := by
  have hl := kdI_ln h
  by_cases hr : (0 ≤ i ∧ i < (lnA ρ b : Int) ∧ i < 65536)
  · have he : eff zt (.baload, x) ls (.inl i :: .inr (some b) :: st) (g, ρ) = some (.inl (ls, (.inl (g b i.toNat) :: st), (g, ρ))) := by
      simp only [eff, aldI, shp, hl]
      rw [if_pos (by simpa using hr)]; rfl
    exact ⟨fun q => ⟨hr, (wp_nx he).mp q⟩, fun q => (wp_nx he).mpr q.2⟩
  · refine ⟨fun q => absurd q (wp_no ?_), fun q => absurd q.1 hr⟩
    simp only [eff, aldI, shp, hl]
    rw [if_neg (fun z => hr (by simpa using z))]
theorem wp_iast {i v : Int} {b : Nat} (h : kdI ρ b 0) : Wp zt k ((.iastore, x) :: c) ls (.inl v :: .inl i :: .inr (some b) :: st) (g, ρ) Q ↔ (0 ≤ i ∧ i < (lnA ρ b : Int) ∧ i < 65536) ∧ Wp zt k c ls st (wrI g b i.toNat v, ρ) Q := by
  have hl := kdI_ln h
  by_cases hr : (0 ≤ i ∧ i < (lnA ρ b : Int) ∧ i < 65536)
  · have he : eff zt (.iastore, x) ls (.inl v :: .inl i :: .inr (some b) :: st) (g, ρ) = some (.inl (ls, st, (wrI g b i.toNat v, ρ))) := by
      simp only [eff, aldI, shp, hl]
      rw [if_pos (by simpa using hr)]; rfl
    exact ⟨fun q => ⟨hr, (wp_nx he).mp q⟩, fun q => (wp_nx he).mpr q.2⟩
  · refine ⟨fun q => absurd q (wp_no ?_), fun q => absurd q.1 hr⟩
    simp only [eff, aldI, shp, hl]
    rw [if_neg (fun z => hr (by simpa using z))]
theorem wp_bast {i v : Int} {b : Nat} (h : kdI ρ b 1) : Wp zt k ((.bastore, x) :: c) ls (.inl v :: .inl i :: .inr (some b) :: st) (g, ρ) Q ↔ (0 ≤ i ∧ i < (lnA ρ b : Int) ∧ i < 65536 ∧ (v = 0 ∨ v = 1)) ∧ Wp zt k c ls st (wrI g b i.toNat v, ρ) Q := by
  have hl := kdI_ln h
  by_cases hr : (0 ≤ i ∧ i < (lnA ρ b : Int) ∧ i < 65536 ∧ (v = 0 ∨ v = 1))
  · have he : eff zt (.bastore, x) ls (.inl v :: .inl i :: .inr (some b) :: st) (g, ρ) = some (.inl (ls, st, (wrI g b i.toNat v, ρ))) := by
      simp only [eff, aldI, shp, hl]
      rw [if_pos (by simpa using hr)]; rfl
    exact ⟨fun q => ⟨hr, (wp_nx he).mp q⟩, fun q => (wp_nx he).mpr q.2⟩
  · refine ⟨fun q => absurd q (wp_no ?_), fun q => absurd q.1 hr⟩
    simp only [eff, aldI, shp, hl]
    rw [if_neg (fun z => hr (by simpa using z))]
theorem wp_qald2 {i : Int} {b : Nat} (h : kdI ρ b 2) : Wp zt k ((.aaload, x) :: c) ls (.inl i :: .inr (some b) :: st) (g, ρ) Q ↔ (0 ≤ i ∧ i < (lnA ρ b : Int) ∧ i < 65536) ∧ Wp zt k c ls (.inr (ρ.1 b i.toNat) :: st) (g, ρ) Q := by
  have hl := kdI_ln h
  by_cases hr : (0 ≤ i ∧ i < (lnA ρ b : Int) ∧ i < 65536)
  · have he : eff zt (.aaload, x) ls (.inl i :: .inr (some b) :: st) (g, ρ) = some (.inl (ls, (.inr (ρ.1 b i.toNat) :: st), (g, ρ))) := by
      simp only [eff, aldI, shp, hl]
      rw [if_pos (by simpa using hr)]; rfl
    exact ⟨fun q => ⟨hr, (wp_nx he).mp q⟩, fun q => (wp_nx he).mpr q.2⟩
  · refine ⟨fun q => absurd q (wp_no ?_), fun q => absurd q.1 hr⟩
    simp only [eff, aldI, shp, hl]
    rw [if_neg (fun z => hr (by simpa using z))]
theorem wp_qald3 {i : Int} {b : Nat} (h : kdI ρ b 3) : Wp zt k ((.aaload, x) :: c) ls (.inl i :: .inr (some b) :: st) (g, ρ) Q ↔ (0 ≤ i ∧ i < (lnA ρ b : Int) ∧ i < 65536) ∧ Wp zt k c ls (.inr (ρ.1 b i.toNat) :: st) (g, ρ) Q := by
  have hl := kdI_ln h
  by_cases hr : (0 ≤ i ∧ i < (lnA ρ b : Int) ∧ i < 65536)
  · have he : eff zt (.aaload, x) ls (.inl i :: .inr (some b) :: st) (g, ρ) = some (.inl (ls, (.inr (ρ.1 b i.toNat) :: st), (g, ρ))) := by
      simp only [eff, aldI, shp, hl]
      rw [if_pos (by simpa using hr)]; rfl
    exact ⟨fun q => ⟨hr, (wp_nx he).mp q⟩, fun q => (wp_nx he).mpr q.2⟩
  · refine ⟨fun q => absurd q (wp_no ?_), fun q => absurd q.1 hr⟩
    simp only [eff, aldI, shp, hl]
    rw [if_neg (fun z => hr (by simpa using z))]
theorem wp_alen {b kd : Nat} (h : kdI ρ b kd) (hk : kd ≤ 4) : Wp zt k ((.arraylength, x) :: c) ls (.inr (some b) :: st) (g, ρ) Q ↔ Wp zt k c ls (.inl (lnA ρ b : Int) :: st) (g, ρ) Q := by
  have hl := kdI_ln h
  exact wp_nx (by simp only [eff, shp, hl]; rw [if_pos hk]; rfl)
theorem wp_cs1 {i k2 : Nat} {v0 : AV} (hk : k2 < 1000) (hs : st.length ≤ 7) : Wp zt k ((.invokestatic i, [k2, 1, 0]) :: c) ls (v0 :: st) (g, ρ) Q ↔ WpM zt k2 [v0] (g, ρ) (fun v s => Wp zt k c ls (v.toList ++ st) s Q) := wp_cl (by show (if 1000 ≤ k2 then _ else cal _ _ _) = _; rw [if_neg (show ¬ 1000 ≤ k2 by omega)]; simp only [cal]; rw [if_pos ⟨by simp only [List.length_cons]; omega, by simp only [List.length_cons]; omega, rfl⟩]; rfl)
theorem wp_cv1 {i k2 rk b : Nat} (hk : k2 < 1000) (hb : kdI ρ b rk) (hs : st.length ≤ 7) : Wp zt k ((.invokevirtual i, [k2, 1, rk]) :: c) ls (.inr (some b) :: st) (g, ρ) Q ↔ WpM zt k2 [.inr (some b)] (g, ρ) (fun v s => Wp zt k c ls (v.toList ++ st) s Q) := wp_cl (by obtain ⟨N, hN⟩ := hb; simp only [eff]; simp only [cal]; rw [if_pos ⟨by simp only [List.length_cons]; omega, by simp only [List.length_cons]; omega, by show rcB (g, ρ) rk (.inr (some b) :: _) = true; simp only [rcB, shp, hN, beq_self_eq_true, Bool.or_true]⟩]; rfl)
theorem wp_ci1 {i k2 rk b : Nat} (hk : k2 < 1000) (hb : kdI ρ b rk) (hs : st.length ≤ 7) : Wp zt k ((.invokespecial i, [k2, 1, rk]) :: c) ls (.inr (some b) :: st) (g, ρ) Q ↔ WpM zt k2 [.inr (some b)] (g, ρ) (fun v s => Wp zt k c ls (v.toList ++ st) s Q) := wp_cl (by obtain ⟨N, hN⟩ := hb; show (if 1000 ≤ k2 then _ else cal _ _ _) = _; rw [if_neg (show ¬ 1000 ≤ k2 by omega)]; simp only [cal]; rw [if_pos ⟨by simp only [List.length_cons]; omega, by simp only [List.length_cons]; omega, by show rcB (g, ρ) rk (.inr (some b) :: _) = true; simp only [rcB, shp, hN, beq_self_eq_true, Bool.or_true]⟩]; rfl)
theorem wp_cs2 {i k2 : Nat} {v0 v1 : AV} (hk : k2 < 1000) (hs : st.length ≤ 7) : Wp zt k ((.invokestatic i, [k2, 2, 0]) :: c) ls (v1 :: v0 :: st) (g, ρ) Q ↔ WpM zt k2 [v0, v1] (g, ρ) (fun v s => Wp zt k c ls (v.toList ++ st) s Q) := wp_cl (by show (if 1000 ≤ k2 then _ else cal _ _ _) = _; rw [if_neg (show ¬ 1000 ≤ k2 by omega)]; simp only [cal]; rw [if_pos ⟨by simp only [List.length_cons]; omega, by simp only [List.length_cons]; omega, rfl⟩]; rfl)
theorem wp_cv2 {i k2 rk b : Nat} {v1 : AV} (hk : k2 < 1000) (hb : kdI ρ b rk) (hs : st.length ≤ 7) : Wp zt k ((.invokevirtual i, [k2, 2, rk]) :: c) ls (v1 :: .inr (some b) :: st) (g, ρ) Q ↔ WpM zt k2 [.inr (some b), v1] (g, ρ) (fun v s => Wp zt k c ls (v.toList ++ st) s Q) := wp_cl (by obtain ⟨N, hN⟩ := hb; simp only [eff]; simp only [cal]; rw [if_pos ⟨by simp only [List.length_cons]; omega, by simp only [List.length_cons]; omega, by show rcB (g, ρ) rk (.inr (some b) :: _) = true; simp only [rcB, shp, hN, beq_self_eq_true, Bool.or_true]⟩]; rfl)
theorem wp_ci2 {i k2 rk b : Nat} {v1 : AV} (hk : k2 < 1000) (hb : kdI ρ b rk) (hs : st.length ≤ 7) : Wp zt k ((.invokespecial i, [k2, 2, rk]) :: c) ls (v1 :: .inr (some b) :: st) (g, ρ) Q ↔ WpM zt k2 [.inr (some b), v1] (g, ρ) (fun v s => Wp zt k c ls (v.toList ++ st) s Q) := wp_cl (by obtain ⟨N, hN⟩ := hb; show (if 1000 ≤ k2 then _ else cal _ _ _) = _; rw [if_neg (show ¬ 1000 ≤ k2 by omega)]; simp only [cal]; rw [if_pos ⟨by simp only [List.length_cons]; omega, by simp only [List.length_cons]; omega, by show rcB (g, ρ) rk (.inr (some b) :: _) = true; simp only [rcB, shp, hN, beq_self_eq_true, Bool.or_true]⟩]; rfl)
theorem wp_cs3 {i k2 : Nat} {v0 v1 v2 : AV} (hk : k2 < 1000) (hs : st.length ≤ 7) : Wp zt k ((.invokestatic i, [k2, 3, 0]) :: c) ls (v2 :: v1 :: v0 :: st) (g, ρ) Q ↔ WpM zt k2 [v0, v1, v2] (g, ρ) (fun v s => Wp zt k c ls (v.toList ++ st) s Q) := wp_cl (by show (if 1000 ≤ k2 then _ else cal _ _ _) = _; rw [if_neg (show ¬ 1000 ≤ k2 by omega)]; simp only [cal]; rw [if_pos ⟨by simp only [List.length_cons]; omega, by simp only [List.length_cons]; omega, rfl⟩]; rfl)
theorem wp_cv3 {i k2 rk b : Nat} {v1 v2 : AV} (hk : k2 < 1000) (hb : kdI ρ b rk) (hs : st.length ≤ 7) : Wp zt k ((.invokevirtual i, [k2, 3, rk]) :: c) ls (v2 :: v1 :: .inr (some b) :: st) (g, ρ) Q ↔ WpM zt k2 [.inr (some b), v1, v2] (g, ρ) (fun v s => Wp zt k c ls (v.toList ++ st) s Q) := wp_cl (by obtain ⟨N, hN⟩ := hb; simp only [eff]; simp only [cal]; rw [if_pos ⟨by simp only [List.length_cons]; omega, by simp only [List.length_cons]; omega, by show rcB (g, ρ) rk (.inr (some b) :: _) = true; simp only [rcB, shp, hN, beq_self_eq_true, Bool.or_true]⟩]; rfl)
theorem wp_ci3 {i k2 rk b : Nat} {v1 v2 : AV} (hk : k2 < 1000) (hb : kdI ρ b rk) (hs : st.length ≤ 7) : Wp zt k ((.invokespecial i, [k2, 3, rk]) :: c) ls (v2 :: v1 :: .inr (some b) :: st) (g, ρ) Q ↔ WpM zt k2 [.inr (some b), v1, v2] (g, ρ) (fun v s => Wp zt k c ls (v.toList ++ st) s Q) := wp_cl (by obtain ⟨N, hN⟩ := hb; show (if 1000 ≤ k2 then _ else cal _ _ _) = _; rw [if_neg (show ¬ 1000 ≤ k2 by omega)]; simp only [cal]; rw [if_pos ⟨by simp only [List.length_cons]; omega, by simp only [List.length_cons]; omega, by show rcB (g, ρ) rk (.inr (some b) :: _) = true; simp only [rcB, shp, hN, beq_self_eq_true, Bool.or_true]⟩]; rfl)
theorem wp_cs4 {i k2 : Nat} {v0 v1 v2 v3 : AV} (hk : k2 < 1000) (hs : st.length ≤ 7) : Wp zt k ((.invokestatic i, [k2, 4, 0]) :: c) ls (v3 :: v2 :: v1 :: v0 :: st) (g, ρ) Q ↔ WpM zt k2 [v0, v1, v2, v3] (g, ρ) (fun v s => Wp zt k c ls (v.toList ++ st) s Q) := wp_cl (by show (if 1000 ≤ k2 then _ else cal _ _ _) = _; rw [if_neg (show ¬ 1000 ≤ k2 by omega)]; simp only [cal]; rw [if_pos ⟨by simp only [List.length_cons]; omega, by simp only [List.length_cons]; omega, rfl⟩]; rfl)
theorem wp_cv4 {i k2 rk b : Nat} {v1 v2 v3 : AV} (hk : k2 < 1000) (hb : kdI ρ b rk) (hs : st.length ≤ 7) : Wp zt k ((.invokevirtual i, [k2, 4, rk]) :: c) ls (v3 :: v2 :: v1 :: .inr (some b) :: st) (g, ρ) Q ↔ WpM zt k2 [.inr (some b), v1, v2, v3] (g, ρ) (fun v s => Wp zt k c ls (v.toList ++ st) s Q) := wp_cl (by obtain ⟨N, hN⟩ := hb; simp only [eff]; simp only [cal]; rw [if_pos ⟨by simp only [List.length_cons]; omega, by simp only [List.length_cons]; omega, by show rcB (g, ρ) rk (.inr (some b) :: _) = true; simp only [rcB, shp, hN, beq_self_eq_true, Bool.or_true]⟩]; rfl)
theorem wp_ci4 {i k2 rk b : Nat} {v1 v2 v3 : AV} (hk : k2 < 1000) (hb : kdI ρ b rk) (hs : st.length ≤ 7) : Wp zt k ((.invokespecial i, [k2, 4, rk]) :: c) ls (v3 :: v2 :: v1 :: .inr (some b) :: st) (g, ρ) Q ↔ WpM zt k2 [.inr (some b), v1, v2, v3] (g, ρ) (fun v s => Wp zt k c ls (v.toList ++ st) s Q) := wp_cl (by obtain ⟨N, hN⟩ := hb; show (if 1000 ≤ k2 then _ else cal _ _ _) = _; rw [if_neg (show ¬ 1000 ≤ k2 by omega)]; simp only [cal]; rw [if_pos ⟨by simp only [List.length_cons]; omega, by simp only [List.length_cons]; omega, by show rcB (g, ρ) rk (.inr (some b) :: _) = true; simp only [rcB, shp, hN, beq_self_eq_true, Bool.or_true]⟩]; rfl)
theorem wp_cs5 {i k2 : Nat} {v0 v1 v2 v3 v4 : AV} (hk : k2 < 1000) (hs : st.length ≤ 7) : Wp zt k ((.invokestatic i, [k2, 5, 0]) :: c) ls (v4 :: v3 :: v2 :: v1 :: v0 :: st) (g, ρ) Q ↔ WpM zt k2 [v0, v1, v2, v3, v4] (g, ρ) (fun v s => Wp zt k c ls (v.toList ++ st) s Q) := wp_cl (by show (if 1000 ≤ k2 then _ else cal _ _ _) = _; rw [if_neg (show ¬ 1000 ≤ k2 by omega)]; simp only [cal]; rw [if_pos ⟨by simp only [List.length_cons]; omega, by simp only [List.length_cons]; omega, rfl⟩]; rfl)
theorem wp_cv5 {i k2 rk b : Nat} {v1 v2 v3 v4 : AV} (hk : k2 < 1000) (hb : kdI ρ b rk) (hs : st.length ≤ 7) : Wp zt k ((.invokevirtual i, [k2, 5, rk]) :: c) ls (v4 :: v3 :: v2 :: v1 :: .inr (some b) :: st) (g, ρ) Q ↔ WpM zt k2 [.inr (some b), v1, v2, v3, v4] (g, ρ) (fun v s => Wp zt k c ls (v.toList ++ st) s Q) := wp_cl (by obtain ⟨N, hN⟩ := hb; simp only [eff]; simp only [cal]; rw [if_pos ⟨by simp only [List.length_cons]; omega, by simp only [List.length_cons]; omega, by show rcB (g, ρ) rk (.inr (some b) :: _) = true; simp only [rcB, shp, hN, beq_self_eq_true, Bool.or_true]⟩]; rfl)
theorem wp_ci5 {i k2 rk b : Nat} {v1 v2 v3 v4 : AV} (hk : k2 < 1000) (hb : kdI ρ b rk) (hs : st.length ≤ 7) : Wp zt k ((.invokespecial i, [k2, 5, rk]) :: c) ls (v4 :: v3 :: v2 :: v1 :: .inr (some b) :: st) (g, ρ) Q ↔ WpM zt k2 [.inr (some b), v1, v2, v3, v4] (g, ρ) (fun v s => Wp zt k c ls (v.toList ++ st) s Q) := wp_cl (by obtain ⟨N, hN⟩ := hb; show (if 1000 ≤ k2 then _ else cal _ _ _) = _; rw [if_neg (show ¬ 1000 ≤ k2 by omega)]; simp only [cal]; rw [if_pos ⟨by simp only [List.length_cons]; omega, by simp only [List.length_cons]; omega, by show rcB (g, ρ) rk (.inr (some b) :: _) = true; simp only [rcB, shp, hN, beq_self_eq_true, Bool.or_true]⟩]; rfl)
theorem wp_cs6 {i k2 : Nat} {v0 v1 v2 v3 v4 v5 : AV} (hk : k2 < 1000) (hs : st.length ≤ 7) : Wp zt k ((.invokestatic i, [k2, 6, 0]) :: c) ls (v5 :: v4 :: v3 :: v2 :: v1 :: v0 :: st) (g, ρ) Q ↔ WpM zt k2 [v0, v1, v2, v3, v4, v5] (g, ρ) (fun v s => Wp zt k c ls (v.toList ++ st) s Q) := wp_cl (by show (if 1000 ≤ k2 then _ else cal _ _ _) = _; rw [if_neg (show ¬ 1000 ≤ k2 by omega)]; simp only [cal]; rw [if_pos ⟨by simp only [List.length_cons]; omega, by simp only [List.length_cons]; omega, rfl⟩]; rfl)
theorem wp_cv6 {i k2 rk b : Nat} {v1 v2 v3 v4 v5 : AV} (hk : k2 < 1000) (hb : kdI ρ b rk) (hs : st.length ≤ 7) : Wp zt k ((.invokevirtual i, [k2, 6, rk]) :: c) ls (v5 :: v4 :: v3 :: v2 :: v1 :: .inr (some b) :: st) (g, ρ) Q ↔ WpM zt k2 [.inr (some b), v1, v2, v3, v4, v5] (g, ρ) (fun v s => Wp zt k c ls (v.toList ++ st) s Q) := wp_cl (by obtain ⟨N, hN⟩ := hb; simp only [eff]; simp only [cal]; rw [if_pos ⟨by simp only [List.length_cons]; omega, by simp only [List.length_cons]; omega, by show rcB (g, ρ) rk (.inr (some b) :: _) = true; simp only [rcB, shp, hN, beq_self_eq_true, Bool.or_true]⟩]; rfl)
theorem wp_ci6 {i k2 rk b : Nat} {v1 v2 v3 v4 v5 : AV} (hk : k2 < 1000) (hb : kdI ρ b rk) (hs : st.length ≤ 7) : Wp zt k ((.invokespecial i, [k2, 6, rk]) :: c) ls (v5 :: v4 :: v3 :: v2 :: v1 :: .inr (some b) :: st) (g, ρ) Q ↔ WpM zt k2 [.inr (some b), v1, v2, v3, v4, v5] (g, ρ) (fun v s => Wp zt k c ls (v.toList ++ st) s Q) := wp_cl (by obtain ⟨N, hN⟩ := hb; show (if 1000 ≤ k2 then _ else cal _ _ _) = _; rw [if_neg (show ¬ 1000 ≤ k2 by omega)]; simp only [cal]; rw [if_pos ⟨by simp only [List.length_cons]; omega, by simp only [List.length_cons]; omega, by show rcB (g, ρ) rk (.inr (some b) :: _) = true; simp only [rcB, shp, hN, beq_self_eq_true, Bool.or_true]⟩]; rfl)
theorem wp_cs7 {i k2 : Nat} {v0 v1 v2 v3 v4 v5 v6 : AV} (hk : k2 < 1000) (hs : st.length ≤ 7) : Wp zt k ((.invokestatic i, [k2, 7, 0]) :: c) ls (v6 :: v5 :: v4 :: v3 :: v2 :: v1 :: v0 :: st) (g, ρ) Q ↔ WpM zt k2 [v0, v1, v2, v3, v4, v5, v6] (g, ρ) (fun v s => Wp zt k c ls (v.toList ++ st) s Q) := wp_cl (by show (if 1000 ≤ k2 then _ else cal _ _ _) = _; rw [if_neg (show ¬ 1000 ≤ k2 by omega)]; simp only [cal]; rw [if_pos ⟨by simp only [List.length_cons]; omega, by simp only [List.length_cons]; omega, rfl⟩]; rfl)
theorem wp_cv7 {i k2 rk b : Nat} {v1 v2 v3 v4 v5 v6 : AV} (hk : k2 < 1000) (hb : kdI ρ b rk) (hs : st.length ≤ 7) : Wp zt k ((.invokevirtual i, [k2, 7, rk]) :: c) ls (v6 :: v5 :: v4 :: v3 :: v2 :: v1 :: .inr (some b) :: st) (g, ρ) Q ↔ WpM zt k2 [.inr (some b), v1, v2, v3, v4, v5, v6] (g, ρ) (fun v s => Wp zt k c ls (v.toList ++ st) s Q) := wp_cl (by obtain ⟨N, hN⟩ := hb; simp only [eff]; simp only [cal]; rw [if_pos ⟨by simp only [List.length_cons]; omega, by simp only [List.length_cons]; omega, by show rcB (g, ρ) rk (.inr (some b) :: _) = true; simp only [rcB, shp, hN, beq_self_eq_true, Bool.or_true]⟩]; rfl)
theorem wp_ci7 {i k2 rk b : Nat} {v1 v2 v3 v4 v5 v6 : AV} (hk : k2 < 1000) (hb : kdI ρ b rk) (hs : st.length ≤ 7) : Wp zt k ((.invokespecial i, [k2, 7, rk]) :: c) ls (v6 :: v5 :: v4 :: v3 :: v2 :: v1 :: .inr (some b) :: st) (g, ρ) Q ↔ WpM zt k2 [.inr (some b), v1, v2, v3, v4, v5, v6] (g, ρ) (fun v s => Wp zt k c ls (v.toList ++ st) s Q) := wp_cl (by obtain ⟨N, hN⟩ := hb; show (if 1000 ≤ k2 then _ else cal _ _ _) = _; rw [if_neg (show ¬ 1000 ≤ k2 by omega)]; simp only [cal]; rw [if_pos ⟨by simp only [List.length_cons]; omega, by simp only [List.length_cons]; omega, by show rcB (g, ρ) rk (.inr (some b) :: _) = true; simp only [rcB, shp, hN, beq_self_eq_true, Bool.or_true]⟩]; rfl)
end WPS
