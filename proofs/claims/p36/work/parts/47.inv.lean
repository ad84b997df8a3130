/-! what an effect tells of its instruction; jumps -/
section INV
variable {p : Program} {l : Launch} {e : Env} {R : Room} {s : State} {m : MethodId} {args : Array Value} {below : List Frame} {meth : Method} {c : Code} {H : Heap} {locs : List Loc} {cells slots : Nat} {Q : State → Prop}
variable {D : va_G} {cA : Nat → ClassId} {b0 : Nat} {zt : Nat → Nat} {k pc pc' : Nat} {lsA : Array Slot} {ls ls' : LsT} {st st' : List AV} {σ σ' : Sto} {x : List Nat}
set_option maxHeartbeats 8000000 in
theorem eff_mono {q : RI} (h : eff zt q ls st σ = some (.inl (ls', st', σ'))) : topS σ ≤ topS σ' ∧ usdS σ ≤ usdS σ' := by
  obtain ⟨i, y⟩ := q
  cases i
  case if_icmp cc off =>
    simp only [eff] at h
    split at h
    · rcases cj_nx h with e0 | e0
      · cases e0; exact ⟨Nat.le_refl _, Nat.le_refl _⟩
      · cases e0
    · cases h
  case ifCond cc off =>
    simp only [eff] at h
    split at h
    · rcases cj_nx h with e0 | e0
      · cases e0; exact ⟨Nat.le_refl _, Nat.le_refl _⟩
      · cases e0
    · cases h
  all_goals first
    | (cases h; done)
    | (simp only [eff, ldI, ldR, stI, stR, bin, nx, jp, natC, cal, aldI] at h
       (repeat' split at h)
       all_goals first
         | (cases h; done)
         | (cases h; exact ⟨Nat.le_refl _, Nat.le_refl _⟩)
         | (cases h; exact ⟨Nat.le_succ _, Nat.le_add_right _ _⟩))
theorem run_mono : ∀ (n k : Nat) (c : List RI) (ls : LsT) (st : List AV) (σ : Sto) (v : Option AV) (σ' : Sto), run zt n k c ls st σ = some (v, σ') → topS σ ≤ topS σ' ∧ usdS σ ≤ usdS σ'
  | 0, _, _, _, _, _, _, _, h => by cases h
  | n + 1, k, [], _, _, _, _, _, h => by cases h
  | n + 1, k, q :: c, ls, st, σ, v, σ', h => by
    simp only [run] at h
    split at h
    · cases h
    · next ls' st' σ1 hef =>
      have h1 := eff_mono hef
      have h2 := run_mono n _ _ _ _ _ _ _ h
      exact ⟨Nat.le_trans h1.1 h2.1, Nat.le_trans h1.2 h2.2⟩
    · exact run_mono n _ _ _ _ _ _ _ h
    · split at h
      · next hc =>
        have h1 := run_mono n _ _ _ _ _ _ _ hc
        have h2 := run_mono n _ _ _ _ _ _ _ h
        exact ⟨Nat.le_trans h1.1 h2.1, Nat.le_trans h1.2 h2.2⟩
      · cases h
    · cases h
      exact ⟨Nat.le_refl _, Nat.le_refl _⟩
set_option maxHeartbeats 8000000 in
theorem eff_ret {q : RI} {v : Option AV} (h : eff zt q ls st σ = some (.inr (.inr (.inr v)))) : (q.1 = .ireturn ∧ ∃ z, st = [.inl z] ∧ v = some (.inl z) ∧ (x0 q.2 = 0 ∨ z = 0 ∨ z = 1)) ∨ (q.1 = .return_ ∧ st = [] ∧ v = none) := by
  obtain ⟨i, y⟩ := q
  cases i
  case if_icmp cc off =>
    simp only [eff] at h
    split at h
    · rcases cj_nx h with e0 | e0 <;> cases e0
    · cases h
  case ifCond cc off =>
    simp only [eff] at h
    split at h
    · rcases cj_nx h with e0 | e0 <;> cases e0
    · cases h
  case ireturn =>
    simp only [eff] at h
    split at h
    · next z =>
      split at h
      · next hh =>
        cases h
        exact Or.inl ⟨rfl, z, rfl, rfl, hh⟩
      · cases h
    · cases h
  case return_ =>
    simp only [eff] at h
    split at h
    · cases h
      exact Or.inr ⟨rfl, rfl, rfl⟩
    · cases h
  all_goals first
    | (cases h; done)
    | (simp only [eff, ldI, ldR, stI, stR, bin, nx, jp, natC, cal, aldI] at h
       (repeat' split at h)
       all_goals (cases h; done))
set_option maxHeartbeats 8000000 in
theorem eff_cal {q : RI} {k' : Nat} {as rest : List AV} (h : eff zt q ls st σ = some (.inr (.inr (.inl (k', as, rest))))) : cal q.2 st σ = some (.inr (.inr (.inl (k', as, rest)))) ∧ ((∃ i, q.1 = .invokevirtual i) ∨ (∃ i, q.1 = .invokestatic i ∧ ¬ 1000 ≤ x0 q.2) ∨ ∃ i, q.1 = .invokespecial i ∧ ¬ 1000 ≤ x0 q.2) := by
  obtain ⟨i, y⟩ := q
  cases i
  case if_icmp cc off =>
    simp only [eff] at h
    split at h
    · rcases cj_nx h with e0 | e0 <;> cases e0
    · cases h
  case ifCond cc off =>
    simp only [eff] at h
    split at h
    · rcases cj_nx h with e0 | e0 <;> cases e0
    · cases h
  case invokevirtual i => exact ⟨h, Or.inl ⟨i, rfl⟩⟩
  case invokestatic i =>
    simp only [eff] at h
    split at h
    · simp only [bin, nx, natC] at h
      (repeat' split at h)
      all_goals (cases h; done)
    · next hk => exact ⟨h, Or.inr (Or.inl ⟨i, rfl, hk⟩)⟩
  case invokespecial i =>
    simp only [eff] at h
    split at h
    · simp only [bin, nx, natC] at h
      (repeat' split at h)
      all_goals (cases h; done)
    · next hk => exact ⟨h, Or.inr (Or.inr ⟨i, rfl, hk⟩)⟩
  all_goals first
    | (cases h; done)
    | (simp only [eff, ldI, ldR, stI, stR, bin, nx, jp, aldI] at h
       (repeat' split at h)
       all_goals (cases h; done))
theorem swB_get : ∀ (os : List Int) (Ls : List Nat), swB k pc os Ls = true → ∀ (j L : Nat), Ls[j]? = some L → ∃ o, os[j]? = some o ∧ tgB k pc o L = true
  | [], [], _, _, _, h => by simp at h
  | [], _ :: _, h, _, _, _ => Bool.noConfusion h
  | _ :: _, [], h, _, _, _ => Bool.noConfusion h
  | o :: os, L0 :: Ls, h, 0, L, hj => by
    simp only [swB, Bool.and_eq_true] at h
    cases hj
    exact ⟨o, rfl, h.1⟩
  | o :: os, L0 :: Ls, h, j + 1, L, hj => by
    simp only [swB, Bool.and_eq_true] at h
    exact swB_get os Ls h.2 j L hj
set_option maxHeartbeats 8000000 in
theorem s_jump {q : RI} {len L : Nat} (C : Cx D cA p s args m meth c k) (hd : decode (byM k) pc = .ok (q.1, len)) (hlen : isSw q.1 = true ∨ len = lenI q.1) (hnn : isNop q.1 = false) (he : exI k pc q = true) (hef : eff zt q ls st σ = some (.inr (.inl (L, st')))) :
    (lbM k).contains L = true ∧ (W p l e R s m args below meth c H locs cells slots Q (F0 m L lsA (st'.map con)) → W p l e R s m args below meth c H locs cells slots Q (F0 m pc lsA (st.map con))) := by
  have C0 := C
  obtain ⟨hx, hb, hmc, hown, hts, hin, hK, hT⟩ := C
  obtain ⟨i, y⟩ := q
  cases i
  case nop => cases hnn
  case goto off =>
    have hl3 : len = 3 := hlen.resolve_left (fun h => Bool.noConfusion h)
    subst hl3
    cases (show some (Sum.inr (Sum.inl (x0 y, st))) = _ from hef)
    have he2 : tgB k pc off (x0 y) = true := he
    unfold tgB at he2
    rw [Bool.and_eq_true] at he2
    exact ⟨he2.2, fun hk => lv_goto hx hb hd (of_decide_eq_true he2.1) hk⟩
  case if_icmp cc off =>
    have hl3 : len = 3 := hlen.resolve_left (fun h => Bool.noConfusion h)
    subst hl3
    have he2 : tgB k pc off (x0 y) = true := he
    unfold tgB at he2
    rw [Bool.and_eq_true] at he2
    simp only [eff] at hef
    split at hef
    · next b a st2 =>
      rcases cj_nx hef with e0 | e0
      · cases e0
      · cases e0
        exact ⟨he2.2, fun hk => c_icmp C0 hef hd (of_decide_eq_true he2.1) (fun _ => hk) (fun q => by cases q)⟩
    · cases hef
  case ifCond cc off =>
    have hl3 : len = 3 := hlen.resolve_left (fun h => Bool.noConfusion h)
    subst hl3
    have he2 : tgB k pc off (x0 y) = true := he
    unfold tgB at he2
    rw [Bool.and_eq_true] at he2
    simp only [eff] at hef
    split at hef
    · next a st2 =>
      rcases cj_nx hef with e0 | e0
      · cases e0
      · cases e0
        exact ⟨he2.2, fun hk => c_ifc C0 hef hd (of_decide_eq_true he2.1) (fun _ => hk) (fun q => by cases q)⟩
    · cases hef
  case tableswitch d lo hi offs =>
    have he2 : swB k pc (d :: offs.toList) y = true := he
    have hg := swB_get _ _ he2
    simp only [eff, jp] at hef
    split at hef
    · next a st2 dl ts =>
      split at hef
      · next hr =>
        split at hef
        · next hout =>
          cases hef
          obtain ⟨o, ho, ht⟩ := hg 0 L rfl
          cases ho
          unfold tgB at ht
          rw [Bool.and_eq_true] at ht
          exact ⟨ht.2, fun hk => lv_tableOut hx hb hd (by rw [z_toInt hr]; exact hout) (of_decide_eq_true ht.1) hk⟩
        · next hin2 =>
          split at hef
          · next L0 hL0 =>
            cases hef
            obtain ⟨o, ho, ht⟩ := hg ((a - lo).toNat + 1) L hL0
            unfold tgB at ht
            rw [Bool.and_eq_true] at ht
            refine ⟨ht.2, fun hk => lv_tableIn hx hb hd (by rw [z_toInt hr]; omega) (by rw [z_toInt hr]; omega) (off := o) ?_ (of_decide_eq_true ht.1) hk⟩
            rw [z_toInt hr, ← Array.getElem?_toList]
            exact ho
          · cases hef
      · cases hef
    · cases hef
  all_goals first
    | (cases hef; done)
    | (simp only [eff, ldI, ldR, stI, stR, bin, nx, natC, cal, aldI] at hef
       (repeat' split at hef)
       all_goals (cases hef; done))
end INV
