/-! the law over states is sound -/
def reO (σ : Sto) : Out → Out
  | .inl (ls', st', _) => .inl (ls', st', σ)
  | .inr r => .inr r
section XSD
variable {zt : Nat → Nat} {g g0 g1 : Nat → Nat → Int} {ρ ρ0 ρ1 : Ri} {L : Nat} {X : XV} {h : Nat → Nat} {Q : Option AV → Sto → Prop}
theorem eff_pure {q : RI} {ls : LsT} {st : List AV} {σ0 σ : Sto} {o : Out} (hp : pureB q = true) (hsh : ∀ a, (∃ v, shp σ0 a = some v) → shp σ a = shp σ0 a ∧ σ.1 a = σ0.1 a) (h : eff zt q ls st σ0 = some o) : eff zt q ls st σ = some (reO σ o) := by
  obtain ⟨i, y⟩ := q
  have hsv : ∀ {a : Nat} {v : Nat × Nat}, shp σ0 a = some v → shp σ a = some v ∧ σ.1 a = σ0.1 a := fun {a} {v} e => ⟨(hsh a ⟨v, e⟩).1.trans e, (hsh a ⟨v, e⟩).2⟩
  have nxo : ∀ {ls' : LsT} {st' : List AV}, nx ls' st' σ0 = some o → nx ls' st' σ = some (reO σ o) := fun {ls'} {st'} e => by cases e; rfl
  have jpo : ∀ {L : Nat} {st' : List AV}, jp L st' = some o → jp L st' = some (reO σ o) := fun {ls'} {st'} e => by cases e; rfl
  have ldi : ∀ j, ldI ls j st σ0 = some o → ldI ls j st σ = some (reO σ o) := fun j e => by
    unfold ldI at e ⊢
    rcases hl : lget ls j with _ | (z | r) <;> rw [hl] at e
    · cases e
    · exact nxo e
    · cases e
  have ldr : ∀ j, ldR ls j st σ0 = some o → ldR ls j st σ = some (reO σ o) := fun j e => by
    unfold ldR at e ⊢
    rcases hl : lget ls j with _ | (z | _ | r) <;> rw [hl] at e
    · cases e
    · cases e
    · cases e
    · exact nxo e
  have sti : ∀ j, stI ls j st σ0 = some o → stI ls j st σ = some (reO σ o) := fun j e => by
    rcases st with _ | ⟨z | r, t⟩
    · cases e
    · exact nxo e
    · cases e
  have bn : ∀ f : Int → Int → Option Int, bin f ls st σ0 = some o → bin f ls st σ = some (reO σ o) := fun f e => by
    rcases st with _ | ⟨b | r, _ | ⟨a | r2, t⟩⟩
    · cases e
    · cases e
    · unfold bin at e ⊢
      dsimp only at e ⊢
      cases hf : f a b with
      | none => rw [hf] at e; cases e
      | some z => rw [hf] at e; exact nxo e
    · cases e
    · cases e
    · cases e
    · cases e
  have cjo : ∀ (cc : Jvm.ClassFile.Cond) (a b : Int) (Lb : Nat) (t : List AV), cj cc a b (jp Lb t) (nx ls t σ0) = some o → cj cc a b (jp Lb t) (nx ls t σ) = some (reO σ o) := fun cc a b Lb t e => by
    unfold cj at e ⊢
    cases cc
    · dsimp only at e ⊢
      split at e
      · next hc => rw [if_pos hc]; exact jpo e
      · next hc =>
        rw [if_neg hc]
        split at e
        · next hr => rw [if_pos hr]; exact nxo e
        · cases e
    · dsimp only at e ⊢
      split at e
      · next hc => rw [if_pos hc]; exact nxo e
      · next hc =>
        rw [if_neg hc]
        split at e
        · next hr => rw [if_pos hr]; exact jpo e
        · cases e
    all_goals
      dsimp only at e ⊢
      split at e
      · next hr =>
        rw [if_pos hr]
        split at e
        · next hc => rw [if_pos hc]; exact jpo e
        · next hc => rw [if_neg hc]; exact nxo e
      · cases e
  have calo : ∀ x, cal x st σ0 = some o → (∀ k na rk, x = [k, na, rk] → rk = 0) → cal x st σ = some (reO σ o) := fun x e hr => by
    unfold cal at e ⊢
    split at e
    · next k na rk =>
      split at e
      · next hc =>
        have h0 := hr k na rk rfl
        subst h0
        cases e
        rw [if_pos ⟨hc.1, hc.2.1, rfl⟩]
        rfl
      · cases e
    · cases e
  cases i <;> first | (cases hp; done) | skip
  case aload j => exact ldr j h
  case aload_n j => exact ldr j.val h
  case iload j => exact ldi j h
  case iload_n j => exact ldi j.val h
  case istore j => exact sti j h
  case istore_n j => exact sti j.val h
  case iconst v => exact nxo h
  case bipush v => exact nxo h
  case sipush v => exact nxo h
  case ldc v => exact nxo h
  case iadd => exact bn (fun a b => some (a + b)) h
  case isub => exact bn (fun a b => some (a - b)) h
  case imul => exact bn (fun a b => some (a * b)) h
  case iand => exact bn (fun a b => if b = 2147483647 then some (a % 2147483648) else none) h
  case ishr => exact bn (fun a b => some (shrI a b)) h
  case irem => exact bn (fun a b => if 0 ≤ a ∧ rng a ∧ 0 < b ∧ rng b then some (a % b) else none) h
  case iinc j d =>
    simp only [eff] at h ⊢
    rcases hl : lget ls j with _ | (z | r) <;> rw [hl] at h
    · cases h
    · exact nxo h
    · cases h
  case nop => exact jpo h
  case goto v => exact jpo h
  case if_icmp cc off =>
    rcases st with _ | ⟨b | r, _ | ⟨a | r2, t⟩⟩
    · cases h
    · cases h
    · exact cjo cc a b _ t h
    · cases h
    · cases h
    · cases h
    · cases h
  case ifCond cc off =>
    rcases st with _ | ⟨b | r, t⟩
    · cases h
    · exact cjo cc b 0 _ t h
    · cases h
  case iaload =>
    have e : aldI (fun kd => kd == 0 || kd == 4) ls st σ0 = some o := h
    show aldI (fun kd => kd == 0 || kd == 4) ls st σ = some (reO σ o)
    unfold aldI at e ⊢
    split at e
    · next i a t =>
      split at e
      · next kd N hs =>
        obtain ⟨e1, e2⟩ := hsv hs
        rw [e1]
        dsimp only
        rw [e2]
        split at e
        · next hc => rw [if_pos hc]; exact nxo e
        · cases e
      · cases e
    · cases e
  case arraylength =>
    simp only [eff] at h ⊢
    split at h
    · next a t =>
      split at h
      · next kd N hs =>
        obtain ⟨e1, e2⟩ := hsv hs
        rw [e1]
        dsimp only
        split at h
        · next hc => rw [if_pos hc]; exact nxo h
        · cases h
      · cases h
    · cases h
  case invokestatic i =>
    have hk : x0 y < 1000 := of_decide_eq_true hp
    have e : (if 1000 ≤ x0 y then (if st.length ≤ 8 then natC (x0 y) ls st σ0 else none) else cal y st σ0) = some o := h
    show (if 1000 ≤ x0 y then (if st.length ≤ 8 then natC (x0 y) ls st σ else none) else cal y st σ) = some (reO σ o)
    rw [if_neg (by omega)] at e ⊢
    unfold cal at e ⊢
    split at e
    · next k na rk =>
      split at e
      · next hc =>
        cases e
        have h4 : rcB σ rk (List.take na st).reverse = true := by
          have h3 := hc.2.2
          unfold rcB at h3 ⊢
          rw [Bool.or_eq_true] at h3 ⊢
          rcases h3 with h3 | h3
          · exact Or.inl h3
          · refine Or.inr ?_
            split at h3
            · next b t heq =>
              split at h3
              · next kd N hs =>
                rw [(hsv hs).1]
                exact h3
              · cases h3
            · cases h3
        rw [if_pos ⟨hc.1, hc.2.1, h4⟩]
        rfl
      · cases e
    · cases e
  case ireturn =>
    rcases st with _ | ⟨b | r, _ | ⟨a, t⟩⟩
    · cases h
    · have e : (if x0 y = 0 ∨ b = 0 ∨ b = 1 then some (Sum.inr (Sum.inr (Sum.inr (some (.inl b) : Option AV))) : Out) else none) = some o := h
      show (if x0 y = 0 ∨ b = 0 ∨ b = 1 then some (Sum.inr (Sum.inr (Sum.inr (some (.inl b) : Option AV))) : Out) else none) = some (reO σ o)
      split at e
      · next hc =>
        rw [if_pos hc]
        cases e
        rfl
      · cases e
    · cases h
    · cases h
    · cases h
/-- what holds between two calls -/
def LX (g0 : Nat → Nat → Int) (ρ0 : Ri) (L : Nat) (X : XV) (h : Nat → Nat) (g : Nat → Nat → Int) (ρ : Ri) : Prop := WFX X ∧ RepC g ρ L h X ∧ ρ.2 = ρ0.2 ∧ ∀ x, x < L → g x = g0 x
theorem LX.zr (hI : LX g0 ρ0 L X h g1 ρ1) (hZ : zrI g0 ρ0 zt L) : zrI g1 ρ1 zt L := by
  obtain ⟨-, -, h2, hg⟩ := hI
  obtain ⟨z, z0, z1, z2, z3, z4⟩ := hZ
  exact ⟨z, zr_low (by rw [h2]) (hg _ (z 0 (by omega))) z0, zr_low (by rw [h2]) (hg _ (z 1 (by omega))) z1, zr_low (by rw [h2]) (hg _ (z 2 (by omega))) z2, zr_low (by rw [h2]) (hg _ (z 3 (by omega))) z3, zr_low (by rw [h2]) (hg _ (z 4 (by omega))) z4⟩
theorem LX.c {X' : XV} {h' : Nat → Nat} {g' : Nat → Nat → Int} {ρ' : Ri} (hI : LX g0 ρ0 L X h g1 ρ1) (hW : WFX X') (hR : RepC g' ρ' L h' X') (hF : Fr L g1 ρ1 g' ρ') : LX g0 ρ0 L X' h' g' ρ' :=
  ⟨hW, hR, hF.1.trans hI.2.2.1, fun x hx => ((hF.2 x (Or.inl hx)).2).trans (hI.2.2.2 x hx)⟩
def QX (g0 : Nat → Nat → Int) (ρ0 : Ri) (L : Nat) (v : Option AV) (X' : XV) : Option AV → Sto → Prop := fun v2 σ2 => v2 = v ∧ ∃ h', LX g0 ρ0 L X' h' σ2.1 σ2.2
set_option maxHeartbeats 4000000 in
theorem cal0_ok (hI : LX g0 ρ0 L X h g1 ρ1) (hZ : zrI g0 ρ0 zt L) {k : Nat}  {r : Int} {X' : XV} (hc : cal0 k  X = some (r, X')) : WpM zt k [AR L] (g1, ρ1) (QX g0 ρ0 L (some (AI r)) X') := by
  have hZ1 := hI.zr hZ
  obtain ⟨hW, hC, -, -⟩ := id hI
  unfold cal0 at hc
  by_cases hk : k = 63
  · rw [if_pos hk] at hc
    subst hk
    have e := Option.some.inj hc
    obtain rfl : r = (sUndo X).1 := (congrArg Prod.fst e).symm
    obtain rfl : X' = (sUndo X).2 := (congrArg Prod.snd e).symm
    exact c_undo hC hW  (fun g' ρ' h' y1 y2 => ⟨rfl, h', hI.c (sUndo_wf hW) y1 y2⟩)
  rw [if_neg hk] at hc
  by_cases hk : k = 65
  · rw [if_pos hk] at hc
    subst hk
    have e := Option.some.inj hc
    obtain rfl : r = (sLoad X).1 := (congrArg Prod.fst e).symm
    obtain rfl : X' = (sLoad X).2 := (congrArg Prod.snd e).symm
    exact c_load hC hW  (fun g' ρ' h' y1 y2 => ⟨rfl, h', hI.c (sLoad_wf hW) y1 y2⟩)
  rw [if_neg hk] at hc
  by_cases hk : k = 59
  · rw [if_pos hk] at hc
    subst hk
    have e := Option.some.inj hc
    obtain rfl : r = (sFinish X).1 := (congrArg Prod.fst e).symm
    obtain rfl : X' = (sFinish X).2 := (congrArg Prod.snd e).symm
    exact c_finish hC hW  (fun g' ρ' h' y1 y2 => ⟨rfl, h', hI.c (sFinish_wf hW) y1 y2⟩)
  rw [if_neg hk] at hc
  by_cases hk : k = 78
  · rw [if_pos hk] at hc
    subst hk
    cases hc
    exact c_drawnSum hC hW  (fun g' ρ' h' y1 y2 => ⟨rfl, h', hI.c hW y1 y2⟩)
  rw [if_neg hk] at hc
  cases hc
set_option maxHeartbeats 4000000 in
theorem cal1_ok (hI : LX g0 ρ0 L X h g1 ρ1) (hZ : zrI g0 ρ0 zt L) {k : Nat} {x : Int} (hx : rng x) {r : Int} {X' : XV} (hc : cal1 k x X = some (r, X')) : WpM zt k [AR L, AI x] (g1, ρ1) (QX g0 ρ0 L (some (AI r)) X') := by
  have hZ1 := hI.zr hZ
  obtain ⟨hW, hC, -, -⟩ := id hI
  unfold cal1 at hc
  by_cases hk : k = 66
  · rw [if_pos hk] at hc
    subst hk
    cases hc
    exact c_count hC hW hx (fun g' ρ' h' y1 y2 => ⟨rfl, h', hI.c hW y1 y2⟩)
  rw [if_neg hk] at hc
  by_cases hk : k = 70
  · rw [if_pos hk] at hc
    subst hk
    cases hc
    exact c_number hC hW hx (fun g' ρ' h' y1 y2 => ⟨rfl, h', hI.c hW y1 y2⟩)
  rw [if_neg hk] at hc
  by_cases hk : k = 74
  · rw [if_pos hk] at hc
    subst hk
    cases hc
    exact c_least hC hW hx (fun g' ρ' h' y1 y2 => ⟨rfl, h', hI.c hW y1 y2⟩)
  rw [if_neg hk] at hc
  by_cases hk : k = 76
  · rw [if_pos hk] at hc
    subst hk
    cases hc
    exact c_why hC hW hx (fun g' ρ' h' y1 y2 => ⟨rfl, h', hI.c hW y1 y2⟩)
  rw [if_neg hk] at hc
  by_cases hk : k = 77
  · rw [if_pos hk] at hc
    subst hk
    cases hc
    exact c_fault hC hW hx (fun g' ρ' h' y1 y2 => ⟨rfl, h', hI.c hW y1 y2⟩)
  rw [if_neg hk] at hc
  by_cases hk : k = 79
  · rw [if_pos hk] at hc
    subst hk
    cases hc
    exact c_speedFor hC hW hZ1 hx (fun g' ρ' h' y1 y2 => ⟨rfl, h', hI.c hW y1 y2⟩)
  rw [if_neg hk] at hc
  by_cases hk : k = 54
  · rw [if_pos hk] at hc
    subst hk
    have e := Option.some.inj hc
    obtain rfl : r = (sRemove x X).1 := (congrArg Prod.fst e).symm
    obtain rfl : X' = (sRemove x X).2 := (congrArg Prod.snd e).symm
    exact c_remove hC hW hx (fun g' ρ' h' y1 y2 => ⟨rfl, h', hI.c (sRemove_wf hW) y1 y2⟩)
  rw [if_neg hk] at hc
  by_cases hk : k = 60
  · rw [if_pos hk] at hc
    subst hk
    have e := Option.some.inj hc
    obtain rfl : r = (sBreathe x X).1 := (congrArg Prod.fst e).symm
    obtain rfl : X' = (sBreathe x X).2 := (congrArg Prod.snd e).symm
    exact c_breathe hC hW hx (fun g' ρ' h' y1 y2 => ⟨rfl, h', hI.c (sBreathe_wf hW) y1 y2⟩)
  rw [if_neg hk] at hc
  by_cases hk : k = 61
  · rw [if_pos hk] at hc
    subst hk
    have e := Option.some.inj hc
    obtain rfl : r = (sTake x X).1 := (congrArg Prod.fst e).symm
    obtain rfl : X' = (sTake x X).2 := (congrArg Prod.snd e).symm
    exact c_take hC hW hx (fun g' ρ' h' y1 y2 => ⟨rfl, h', hI.c (sTake_wf hW) y1 y2⟩)
  rw [if_neg hk] at hc
  by_cases hk : k = 62
  · rw [if_pos hk] at hc
    subst hk
    have e := Option.some.inj hc
    obtain rfl : r = (sRestore x X).1 := (congrArg Prod.fst e).symm
    obtain rfl : X' = (sRestore x X).2 := (congrArg Prod.snd e).symm
    exact c_restore hC hW hx (fun g' ρ' h' y1 y2 => ⟨rfl, h', hI.c (sRestore_wf hW) y1 y2⟩)
  rw [if_neg hk] at hc
  by_cases hk : k = 64
  · rw [if_pos hk] at hc
    subst hk
    have e := Option.some.inj hc
    obtain rfl : r = (sAppend x X).1 := (congrArg Prod.fst e).symm
    obtain rfl : X' = (sAppend x X).2 := (congrArg Prod.snd e).symm
    exact c_append hC hW hx (fun g' ρ' h' y1 y2 => ⟨rfl, h', hI.c (sAppend_wf hW) y1 y2⟩)
  rw [if_neg hk] at hc
  cases hc
set_option maxHeartbeats 4000000 in
theorem cal2_ok (hI : LX g0 ρ0 L X h g1 ρ1) (hZ : zrI g0 ρ0 zt L) {k : Nat} {x y : Int} (hx : rng x) (hy : rng y) {r : Int} {X' : XV} (hc : cal2 k x y X = some (r, X')) : WpM zt k [AR L, AI x, AI y] (g1, ρ1) (QX g0 ρ0 L (some (AI r)) X') := by
  have hZ1 := hI.zr hZ
  obtain ⟨hW, hC, -, -⟩ := id hI
  unfold cal2 at hc
  by_cases hk : k = 67
  · rw [if_pos hk] at hc
    subst hk
    cases hc
    exact c_mouth hC hW hx hy (fun g' ρ' h' y1 y2 => ⟨rfl, h', hI.c hW y1 y2⟩)
  rw [if_neg hk] at hc
  by_cases hk : k = 68
  · rw [if_pos hk] at hc
    subst hk
    cases hc
    exact c_jump hC hW hx hy (fun g' ρ' h' y1 y2 => ⟨rfl, h', hI.c hW y1 y2⟩)
  rw [if_neg hk] at hc
  by_cases hk : k = 69
  · rw [if_pos hk] at hc
    subst hk
    cases hc
    exact c_sound hC hW hx hy (fun g' ρ' h' y1 y2 => ⟨rfl, h', hI.c hW y1 y2⟩)
  rw [if_neg hk] at hc
  by_cases hk : k = 71
  · rw [if_pos hk] at hc
    subst hk
    cases hc
    exact c_segment hC hW hx hy (fun g' ρ' h' y1 y2 => ⟨rfl, h', hI.c hW y1 y2⟩)
  rw [if_neg hk] at hc
  by_cases hk : k = 72
  · rw [if_pos hk] at hc
    subst hk
    cases hc
    exact c_frame hC hW hx hy (fun g' ρ' h' y1 y2 => ⟨rfl, h', hI.c hW y1 y2⟩)
  rw [if_neg hk] at hc
  by_cases hk : k = 73
  · rw [if_pos hk] at hc
    subst hk
    cases hc
    exact c_wrongness hC hW hx hy (fun g' ρ' h' y1 y2 => ⟨rfl, h', hI.c hW y1 y2⟩)
  rw [if_neg hk] at hc
  by_cases hk : k = 75
  · rw [if_pos hk] at hc
    subst hk
    cases hc
    exact c_leastWith hC hW hx hy (fun g' ρ' h' y1 y2 => ⟨rfl, h', hI.c hW y1 y2⟩)
  rw [if_neg hk] at hc
  by_cases hk : k = 80
  · rw [if_pos hk] at hc
    subst hk
    cases hc
    exact c_nearest hC hW hx hy (fun g' ρ' h' y1 y2 => ⟨rfl, h', hI.c hW y1 y2⟩)
  rw [if_neg hk] at hc
  by_cases hk : k = 49
  · rw [if_pos hk] at hc
    subst hk
    have e := Option.some.inj hc
    obtain rfl : r = (sAddMouth x y X).1 := (congrArg Prod.fst e).symm
    obtain rfl : X' = (sAddMouth x y X).2 := (congrArg Prod.snd e).symm
    exact c_addMouth hC hW hx hy (fun g' ρ' h' y1 y2 => ⟨rfl, h', hI.c (sAddMouth_wf hW) y1 y2⟩)
  rw [if_neg hk] at hc
  by_cases hk : k = 56
  · rw [if_pos hk] at hc
    subst hk
    have e := Option.some.inj hc
    obtain rfl : r = (sPut 9 x y X).1 := (congrArg Prod.fst e).symm
    obtain rfl : X' = (sPut 9 x y X).2 := (congrArg Prod.snd e).symm
    exact c_pin hC hW hx hy (fun g' ρ' h' y1 y2 => ⟨rfl, h', hI.c (sPut_wf (Or.inl rfl) hW) y1 y2⟩)
  rw [if_neg hk] at hc
  by_cases hk : k = 57
  · rw [if_pos hk] at hc
    subst hk
    have e := Option.some.inj hc
    obtain rfl : r = (sPut 10 x y X).1 := (congrArg Prod.fst e).symm
    obtain rfl : X' = (sPut 10 x y X).2 := (congrArg Prod.snd e).symm
    exact c_draw hC hW hx hy (fun g' ρ' h' y1 y2 => ⟨rfl, h', hI.c (sPut_wf (Or.inr rfl) hW) y1 y2⟩)
  rw [if_neg hk] at hc
  by_cases hk : k = 58
  · rw [if_pos hk] at hc
    subst hk
    have e := Option.some.inj hc
    obtain rfl : r = (sBetween x y X).1 := (congrArg Prod.fst e).symm
    obtain rfl : X' = (sBetween x y X).2 := (congrArg Prod.snd e).symm
    exact c_between hC hW hx hy (fun g' ρ' h' y1 y2 => ⟨rfl, h', hI.c (sBetween_wf hW) y1 y2⟩)
  rw [if_neg hk] at hc
  by_cases hk : k = 55
  · rw [if_pos hk] at hc
    subst hk
    have e := Option.some.inj hc
    obtain rfl : r = (sStretch x y X).1 := (congrArg Prod.fst e).symm
    obtain rfl : X' = (sStretch x y X).2 := (congrArg Prod.snd e).symm
    exact c_stretch hC hW hx hy (fun g' ρ' h' y1 y2 => ⟨rfl, h', hI.c (sStretch_wf hW) y1 y2⟩)
  rw [if_neg hk] at hc
  by_cases hk : k = 52
  · rw [if_pos hk] at hc
    subst hk
    have e := Option.some.inj hc
    obtain rfl : r = (sSetNumber x y X).1 := (congrArg Prod.fst e).symm
    obtain rfl : X' = (sSetNumber x y X).2 := (congrArg Prod.snd e).symm
    exact c_setNumber hC hW hZ1 hx hy (fun g' ρ' h' y1 y2 => ⟨rfl, h', hI.c (sSetNumber_wf hW) y1 y2⟩)
  rw [if_neg hk] at hc
  cases hc
set_option maxHeartbeats 4000000 in
theorem cal3_ok (hI : LX g0 ρ0 L X h g1 ρ1) (hZ : zrI g0 ρ0 zt L) {k : Nat} {x y z : Int} (hx : rng x) (hy : rng y) (hz : rng z) {r : Int} {X' : XV} (hc : cal3 k x y z X = some (r, X')) : WpM zt k [AR L, AI x, AI y, AI z] (g1, ρ1) (QX g0 ρ0 L (some (AI r)) X') := by
  have hZ1 := hI.zr hZ
  obtain ⟨hW, hC, -, -⟩ := id hI
  unfold cal3 at hc
  by_cases hk : k = 50
  · rw [if_pos hk] at hc
    subst hk
    have e := Option.some.inj hc
    obtain rfl : r = (sSetMouth x y z X).1 := (congrArg Prod.fst e).symm
    obtain rfl : X' = (sSetMouth x y z X).2 := (congrArg Prod.snd e).symm
    exact c_setMouth hC hW hx hy hz (fun g' ρ' h' y1 y2 => ⟨rfl, h', hI.c (sSetMouth_wf hW) y1 y2⟩)
  rw [if_neg hk] at hc
  by_cases hk : k = 51
  · rw [if_pos hk] at hc
    subst hk
    have e := Option.some.inj hc
    obtain rfl : r = (sSetSound x y z X).1 := (congrArg Prod.fst e).symm
    obtain rfl : X' = (sSetSound x y z X).2 := (congrArg Prod.snd e).symm
    exact c_setSound hC hW hZ1 hx hy hz (fun g' ρ' h' y1 y2 => ⟨rfl, h', hI.c (sSetSound_wf hW) y1 y2⟩)
  rw [if_neg hk] at hc
  by_cases hk : k = 53
  · rw [if_pos hk] at hc
    subst hk
    have e := Option.some.inj hc
    obtain rfl : r = (sInsert x y z X).1 := (congrArg Prod.fst e).symm
    obtain rfl : X' = (sInsert x y z X).2 := (congrArg Prod.snd e).symm
    exact c_insert hC hW hx hy hz (fun g' ρ' h' y1 y2 => ⟨rfl, h', hI.c (sInsert_wf hW) y1 y2⟩)
  rw [if_neg hk] at hc
  cases hc
theorem calX_ok (hI : LX g0 ρ0 L X h g1 ρ1) (hZ : zrI g0 ρ0 zt L) {k : Nat} {as : List AV} {r : Int} {X' : XV} (hc : calX L k as X = some (r, X')) : WpM zt k as (g1, ρ1) (QX g0 ρ0 L (some (AI r)) X') ∧ ∃ t, as = AR L :: t := by
  unfold calX at hc
  split at hc
  · split at hc
    · next hq =>
      subst hq
      exact ⟨cal0_ok hI hZ hc, _, rfl⟩
    · cases hc
  · split at hc
    · next hq =>
      obtain ⟨rfl, h1⟩ := hq
      exact ⟨cal1_ok hI hZ h1 hc, _, rfl⟩
    · cases hc
  · split at hc
    · next hq =>
      obtain ⟨rfl, h1, h2⟩ := hq
      exact ⟨cal2_ok hI hZ h1 h2 hc, _, rfl⟩
    · cases hc
  · split at hc
    · next hq =>
      obtain ⟨rfl, h1, h2, h3⟩ := hq
      exact ⟨cal3_ok hI hZ h1 h2 h3 hc, _, rfl⟩
    · cases hc
  · cases hc
theorem xsnd {σ0 : Sto} (hsh : ∀ a, (∃ v, shp σ0 a = some v) → a < L ∧ ρ0.2.1 a = shp σ0 a ∧ g0 a = σ0.1 a) (hZ : zrI g0 ρ0 zt L) : ∀ (n k : Nat) (c : List RI) (ls : LsT) (st : List AV) (X : XV) (v : Option AV) (X' : XV), xrun zt L σ0 n k c ls st X = some (v, X') →
    ∀ (h : Nat → Nat) (g : Nat → Nat → Int) (ρ : Ri), LX g0 ρ0 L X h g ρ → Wp zt k c ls st (g, ρ) (QX g0 ρ0 L v X')
  | 0, _, _, _, _, _, _, _, hr => by cases hr
  | n + 1, k, [], _, _, _, _, _, hr => by cases hr
  | n + 1, k, q :: c, ls, st, X, v, X', hr => by
    intro h g ρ hI
    rw [xrun] at hr
    by_cases hv : isV q.1 = true
    · rw [if_pos hv] at hr
      obtain ⟨i, y⟩ := q
      cases i <;> first | (cases hv; done) | skip
      next i =>
      match y, hr with
      | [k', na, rk], hr =>
        dsimp only at hr
        by_cases hc : rk = 15 ∧ na ≤ st.length ∧ st.length ≤ na + 7
        · rw [if_pos hc] at hr
          cases ha : calX L k' (st.take na).reverse X with
          | none => rw [ha] at hr; cases hr
          | some w =>
            obtain ⟨r, X1⟩ := w
            rw [ha] at hr
            dsimp only at hr
            obtain ⟨hw, t, ht⟩ := calX_ok hI hZ ha
            have he : eff zt (.invokevirtual i, [k', na, rk]) ls st (g, ρ) = some (.inr (.inr (.inl (k', (st.take na).reverse, st.drop na)))) := by
              show cal [k', na, rk] st (g, ρ) = _
              unfold cal
              refine if_pos ⟨hc.2.1, hc.2.2, ?_⟩
              obtain ⟨N, hN⟩ := qlf_kd hI.2.1.1.1
              unfold rcB
              rw [ht, hc.1]
              show ((15 : Nat) == 0 || (match shp (g, ρ) L with
                | some (kd, _) => kd == 15
                | none => false)) = true
              rw [show shp (g, ρ) L = some (15, N) from hN]
              rfl
            refine (wp_cl he).mpr (wpm_mono hw (fun v2 σ2 hq => ?_))
            obtain ⟨rfl, h2, hI2⟩ := hq
            exact xsnd hsh hZ n k c ls _ X1 v X' hr h2 σ2.1 σ2.2 hI2
        · rw [if_neg hc] at hr; cases hr
      | [], hr => cases hr
      | [_], hr => cases hr
      | [_, _], hr => cases hr
      | _ :: _ :: _ :: _ :: _, hr => cases hr
    · rw [if_neg hv] at hr
      by_cases hp : pureB q = true
      · rw [if_pos hp] at hr
        have hsh2 : ∀ a, (∃ v, shp σ0 a = some v) → shp (g, ρ) a = shp σ0 a ∧ g a = σ0.1 a := fun a ha => by
          obtain ⟨e1, e2, e3⟩ := hsh a ha
          refine ⟨?_, (hI.2.2.2 a e1).trans e3⟩
          show ρ.2.1 a = _
          rw [hI.2.2.1]
          exact e2
        cases he : eff zt q ls st σ0 with
        | none => rw [he] at hr; cases hr
        | some o =>
          have he2 := eff_pure hp (σ := (g, ρ)) hsh2 he
          rw [he] at hr
          match o, he2, hr with
          | .inl (ls', st', σ'), he2, hr => exact (wp_nx he2).mpr (xsnd hsh hZ n _ _ _ _ _ _ _ hr h g ρ hI)
          | .inr (.inl (L', st')), he2, hr => exact (wp_jp he2).mpr (xsnd hsh hZ n _ _ _ _ _ _ _ hr h g ρ hI)
          | .inr (.inr (.inl (k', as, rest))), he2, hr =>
            dsimp only at hr
            cases hc : xrun zt L σ0 n k' (P k' 0) (ent k' as) [] X with
            | none => rw [hc] at hr; cases hr
            | some r1 =>
              obtain ⟨v1, X1⟩ := r1
              rw [hc] at hr
              dsimp only at hr
              refine (wp_cl he2).mpr (wpm_mono (xsnd hsh hZ n _ _ _ _ _ _ _ hc h g ρ hI) (fun v2 σ2 hq => ?_))
              obtain ⟨rfl, h2, hI2⟩ := hq
              exact xsnd hsh hZ n _ _ _ _ _ _ _ hr h2 σ2.1 σ2.2 hI2
          | .inr (.inr (.inr v0)), he2, hr =>
            cases hr
            exact (wp_rt he2).mpr ⟨rfl, h, hI⟩
      · rw [if_neg hp] at hr; cases hr
end XSD
