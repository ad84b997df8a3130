/-! THE LAW OVER STATES: the law's code, with the class's answers in place of the class's code -/
noncomputable def cal0 (k : Nat) (X : XV) : Option (Int × XV) := if k = 63 then some (sUndo X) else if k = 65 then some (sLoad X) else if k = 59 then some (sFinish X) else if k = 78 then some (sDrawnSum X, X) else none
noncomputable def cal1 (k : Nat) (x : Int) (X : XV) : Option (Int × XV) := if k = 66 then some (sCount x X, X) else if k = 70 then some (sNumber x X, X) else if k = 74 then some (sLeast x X, X) else if k = 76 then some (sWhy x X, X) else if k = 77 then some (sFault x X, X) else if k = 79 then some (sSpeedFor x X, X) else if k = 54 then some (sRemove x X) else if k = 60 then some (sBreathe x X) else if k = 61 then some (sTake x X) else if k = 62 then some (sRestore x X) else if k = 64 then some (sAppend x X) else none
noncomputable def cal2 (k : Nat) (x y : Int) (X : XV) : Option (Int × XV) := if k = 67 then some (sMouth x y X, X) else if k = 68 then some (sJump x y X, X) else if k = 69 then some (sSound x y X, X) else if k = 71 then some (sSegment x y X, X) else if k = 72 then some (sFrame x y X, X) else if k = 73 then some (sWrong x y X, X) else if k = 75 then some (sLeastWith x y X, X) else if k = 80 then some (sNearest x y X, X) else if k = 49 then some (sAddMouth x y X) else if k = 56 then some (sPut 9 x y X) else if k = 57 then some (sPut 10 x y X) else if k = 58 then some (sBetween x y X) else if k = 55 then some (sStretch x y X) else if k = 52 then some (sSetNumber x y X) else none
noncomputable def cal3 (k : Nat) (x y z : Int) (X : XV) : Option (Int × XV) := if k = 50 then some (sSetMouth x y z X) else if k = 51 then some (sSetSound x y z X) else if k = 53 then some (sInsert x y z X) else none
noncomputable def calX (L k : Nat) (as : List AV) (X : XV) : Option (Int × XV) := match as with
  | [.inr (some a)] => if a = L then cal0 k X else none
  | [.inr (some a), .inl x] => if a = L ∧ rng x then cal1 k x X else none
  | [.inr (some a), .inl x, .inl y] => if a = L ∧ rng x ∧ rng y then cal2 k x y X else none
  | [.inr (some a), .inl x, .inl y, .inl z] => if a = L ∧ rng x ∧ rng y ∧ rng z then cal3 k x y z X else none
  | _ => none
def isV : Instr → Bool
  | .invokevirtual _ => true
  | _ => false
def pureB (q : RI) : Bool := match q.1 with
  | .aload _ | .aload_n _ | .iload _ | .iload_n _ | .istore _ | .istore_n _ | .iconst _ | .bipush _ | .sipush _ | .ldc _ | .iadd | .isub | .imul | .iand | .ishr | .irem | .iinc _ _ | .nop | .goto _ | .if_icmp _ _ | .ifCond _ _ | .iaload | .arraylength | .ireturn => true
  | .invokestatic _ => decide (x0 q.2 < 1000)
  | _ => false
noncomputable def xrun (zt : Nat → Nat) (L : Nat) (σ0 : Sto) : Nat → Nat → List RI → LsT → List AV → XV → Option (Option AV × XV)
  | 0, _, _, _, _, _ => none
  | n + 1, k, c, ls, st, X => match c with
    | [] => none
    | q :: c => if isV q.1 = true then (match q.2 with
        | [k', na, rk] => if rk = 15 ∧ na ≤ st.length ∧ st.length ≤ na + 7 then (match calX L k' (st.take na).reverse X with
            | some (r, X') => xrun zt L σ0 n k c ls (.inl r :: st.drop na) X'
            | none => none) else none
        | _ => none)
      else if pureB q = true then (match eff zt q ls st σ0 with
        | none => none
        | some (.inl (ls', st', _)) => xrun zt L σ0 n k c ls' st' X
        | some (.inr (.inl (L', st'))) => xrun zt L σ0 n k (P k L') ls st' X
        | some (.inr (.inr (.inl (k', as, rest)))) => (match xrun zt L σ0 n k' (P k' 0) (ent k' as) [] X with
          | some (v, X') => xrun zt L σ0 n k c ls (v.toList ++ rest) X'
          | none => none)
        | some (.inr (.inr (.inr v))) => some (v, X))
      else none
def Xp (zt : Nat → Nat) (L : Nat) (σ0 : Sto) (k : Nat) (c : List RI) (ls : LsT) (st : List AV) (X : XV) (Q : Option AV → XV → Prop) : Prop := ∃ n v X', xrun zt L σ0 n k c ls st X = some (v, X') ∧ Q v X'
def XpM (zt : Nat → Nat) (L : Nat) (σ0 : Sto) (k : Nat) (as : List AV) (X : XV) (Q : Option AV → XV → Prop) : Prop := Xp zt L σ0 k (P k 0) (ent k as) [] X Q
section XPR
variable {zt : Nat → Nat} {L : Nat} {σ0 : Sto} {k : Nat} {q : RI} {c : List RI} {ls ls' : LsT} {st st' : List AV} {σ' : Sto} {X : XV} {Q : Option AV → XV → Prop}
theorem xrun_le : ∀ (n k : Nat) (c : List RI) (ls : LsT) (st : List AV) (X : XV) (r : Option AV × XV), xrun zt L σ0 n k c ls st X = some r → xrun zt L σ0 (n + 1) k c ls st X = some r
  | 0, _, _, _, _, _, _, h => by cases h
  | n + 1, k, [], _, _, _, _, h => by cases h
  | n + 1, k, q :: c, ls, st, X, r, h => by
    rw [xrun] at h ⊢
    by_cases hv : isV q.1 = true
    · rw [if_pos hv] at h ⊢
      match hq : q.2, h with
      | [k', na, rk], h =>
        dsimp only at h ⊢
        by_cases hc : rk = 15 ∧ na ≤ st.length ∧ st.length ≤ na + 7
        · rw [if_pos hc] at h ⊢
          cases ha : calX L k' (st.take na).reverse X with
          | none => rw [ha] at h; cases h
          | some w =>
            rw [ha] at h
            exact xrun_le n _ _ _ _ _ _ h
        · rw [if_neg hc] at h; cases h
      | [], h => cases h
      | [_], h => cases h
      | [_, _], h => cases h
      | _ :: _ :: _ :: _ :: _, h => cases h
    · rw [if_neg hv] at h ⊢
      by_cases hp : pureB q = true
      · rw [if_pos hp] at h ⊢
        cases he : eff zt q ls st σ0 with
        | none => rw [he] at h; cases h
        | some o =>
          rw [he] at h
          match o, h with
          | .inl (ls', st', σ'), h => exact xrun_le n _ _ _ _ _ _ h
          | .inr (.inl (L', st')), h => exact xrun_le n _ _ _ _ _ _ h
          | .inr (.inr (.inl (k', as, rest))), h =>
            dsimp only at h ⊢
            cases hc : xrun zt L σ0 n k' (P k' 0) (ent k' as) [] X with
            | none => rw [hc] at h; cases h
            | some r1 =>
              rw [hc] at h
              rw [xrun_le n _ _ _ _ _ _ hc]
              exact xrun_le n _ _ _ _ _ _ h
          | .inr (.inr (.inr v)), h => exact h
      · rw [if_neg hp] at h; cases h
theorem xrun_add {n : Nat} (d : Nat) {r : Option AV × XV} (h : xrun zt L σ0 n k c ls st X = some r) : xrun zt L σ0 (n + d) k c ls st X = some r := by
  induction d with
  | zero => exact h
  | succ d ih => exact xrun_le _ _ _ _ _ _ _ ih
theorem xrun_det {n m : Nat} {r r2 : Option AV × XV} (h : xrun zt L σ0 n k c ls st X = some r) (h2 : xrun zt L σ0 m k c ls st X = some r2) : r = r2 := by
  have e1 := xrun_add m h
  have e2 := xrun_add n h2
  rw [Nat.add_comm] at e2
  rw [e1] at e2
  exact Option.some.inj e2
theorem xrun_p {n : Nat} (hv : isV q.1 = false) (hp : pureB q = true) : xrun zt L σ0 (n + 1) k (q :: c) ls st X = (match eff zt q ls st σ0 with
        | none => none
        | some (.inl (ls', st', _)) => xrun zt L σ0 n k c ls' st' X
        | some (.inr (.inl (L', st'))) => xrun zt L σ0 n k (P k L') ls st' X
        | some (.inr (.inr (.inl (k', as, rest)))) => (match xrun zt L σ0 n k' (P k' 0) (ent k' as) [] X with
          | some (v, X') => xrun zt L σ0 n k c ls (v.toList ++ rest) X'
          | none => none)
        | some (.inr (.inr (.inr v))) => some (v, X)) := by
  rw [xrun]
  rw [if_neg (by rw [hv]; decide), if_pos hp]
theorem xp_nx (hv : isV q.1 = false) (hp : pureB q = true) (h : eff zt q ls st σ0 = some (.inl (ls', st', σ'))) : Xp zt L σ0 k (q :: c) ls st X Q ↔ Xp zt L σ0 k c ls' st' X Q := by
  constructor
  · rintro ⟨n, v, σ1, hr, hq⟩
    cases n with
    | zero => cases hr
    | succ n =>
      rw [xrun_p hv hp, h] at hr
      exact ⟨n, v, σ1, hr, hq⟩
  · rintro ⟨n, v, σ1, hr, hq⟩
    exact ⟨n + 1, v, σ1, by rw [xrun_p hv hp, h]; exact hr, hq⟩
theorem xp_jp (hv : isV q.1 = false) (hp : pureB q = true) {L' : Nat} (h : eff zt q ls st σ0 = some (.inr (.inl (L', st')))) : Xp zt L σ0 k (q :: c) ls st X Q ↔ Xp zt L σ0 k (P k L') ls st' X Q := by
  constructor
  · rintro ⟨n, v, σ1, hr, hq⟩
    cases n with
    | zero => cases hr
    | succ n =>
      rw [xrun_p hv hp, h] at hr
      exact ⟨n, v, σ1, hr, hq⟩
  · rintro ⟨n, v, σ1, hr, hq⟩
    exact ⟨n + 1, v, σ1, by rw [xrun_p hv hp, h]; exact hr, hq⟩
theorem xp_rt (hv : isV q.1 = false) (hp : pureB q = true) {v : Option AV} (h : eff zt q ls st σ0 = some (.inr (.inr (.inr v)))) : Xp zt L σ0 k (q :: c) ls st X Q ↔ Q v X := by
  constructor
  · rintro ⟨n, v, σ1, hr, hq⟩
    cases n with
    | zero => cases hr
    | succ n =>
      rw [xrun_p hv hp, h] at hr
      cases hr
      exact hq
  · intro hq
    exact ⟨1, v, X, by rw [xrun_p hv hp, h], hq⟩
theorem xp_cl (hv : isV q.1 = false) (hp : pureB q = true) {k' : Nat} {as rest : List AV} (h : eff zt q ls st σ0 = some (.inr (.inr (.inl (k', as, rest))))) : Xp zt L σ0 k (q :: c) ls st X Q ↔ XpM zt L σ0 k' as X (fun v X' => Xp zt L σ0 k c ls (v.toList ++ rest) X' Q) := by
  constructor
  · rintro ⟨n, v, σ1, hr, hq⟩
    cases n with
    | zero => cases hr
    | succ n =>
      rw [xrun_p hv hp, h] at hr
      dsimp only at hr
      split at hr
      · next v1 σ2 hc => exact ⟨n, v1, σ2, hc, n, v, σ1, hr, hq⟩
      · cases hr
  · rintro ⟨n, v1, σ2, hc, m, v, σ1, hr, hq⟩
    refine ⟨n + m + 1, v, σ1, ?_, hq⟩
    rw [xrun_p hv hp, h]
    dsimp only
    rw [xrun_add m hc]
    dsimp only
    rw [Nat.add_comm n m]
    exact xrun_add n hr
theorem xp_no (hv : isV q.1 = false) (hp : pureB q = true) (h : eff zt q ls st σ0 = none) : ¬ Xp zt L σ0 k (q :: c) ls st X Q := by
  rintro ⟨n, v, σ1, hr, hq⟩
  cases n with
  | zero => cases hr
  | succ n =>
    rw [xrun_p hv hp, h] at hr
    cases hr
theorem xp_vt {i k' na : Nat} {r : Int} {X' : XV} (hl : na ≤ st.length ∧ st.length ≤ na + 7) (h : calX L k' (st.take na).reverse X = some (r, X')) : Xp zt L σ0 k ((.invokevirtual i, [k', na, 15]) :: c) ls st X Q ↔ Xp zt L σ0 k c ls (.inl r :: st.drop na) X' Q := by
  have e : ∀ n, xrun zt L σ0 (n + 1) k ((.invokevirtual i, [k', na, 15]) :: c) ls st X = xrun zt L σ0 n k c ls (.inl r :: st.drop na) X' := fun n => by
    rw [xrun]
    rw [if_pos (show isV (Instr.invokevirtual i) = true from rfl)]
    dsimp only
    rw [if_pos ⟨rfl, hl⟩, h]
  constructor
  · rintro ⟨n, v, σ1, hr, hq⟩
    cases n with
    | zero => cases hr
    | succ n =>
      rw [e] at hr
      exact ⟨n, v, σ1, hr, hq⟩
  · rintro ⟨n, v, σ1, hr, hq⟩
    exact ⟨n + 1, v, σ1, by rw [e]; exact hr, hq⟩
theorem xp_vn {i k' na : Nat} (h : calX L k' (st.take na).reverse X = none) : ¬ Xp zt L σ0 k ((.invokevirtual i, [k', na, 15]) :: c) ls st X Q := by
  rintro ⟨n, v, σ1, hr, hq⟩
  cases n with
  | zero => cases hr
  | succ n =>
    rw [xrun, if_pos (show isV (Instr.invokevirtual i) = true from rfl)] at hr
    dsimp only at hr
    rw [h] at hr
    split at hr <;> cases hr
theorem xpm_iff {k' : Nat} {as : List AV} {v0 : Option AV} {X0 : XV} (h : ∀ Q : Option AV → XV → Prop, Q v0 X0 → XpM zt L σ0 k' as X Q) (Q : Option AV → XV → Prop) : XpM zt L σ0 k' as X Q ↔ Q v0 X0 := by
  refine ⟨fun hw => ?_, h Q⟩
  obtain ⟨n, v, σ1, hr, hq⟩ := hw
  obtain ⟨m, v2, σ2, hr2, hq2⟩ := h (fun v s => v = v0 ∧ s = X0) ⟨rfl, rfl⟩
  have e := xrun_det hr hr2
  cases e
  rw [hq2.1, hq2.2] at hq
  exact hq
theorem xpm_mono {k' : Nat} {as : List AV} {Q Q2 : Option AV → XV → Prop} (h : XpM zt L σ0 k' as X Q) (hq : ∀ v s, Q v s → Q2 v s) : XpM zt L σ0 k' as X Q2 := by
  obtain ⟨n, v, σ1, hr, h2⟩ := h
  exact ⟨n, v, σ1, hr, hq _ _ h2⟩
end XPR
section XPS
variable {zt : Nat → Nat} {L : Nat} {g : Nat → Nat → Int} {ρ : Ri} {k : Nat} {c : List RI} {ls : LsT} {st : List AV} {X : XV} {Q : Option AV → XV → Prop} {x : List Nat}
theorem xp_il0 {l : LsT} {z : Int} : Xp zt L (g, ρ) k ((.iload 0, x) :: c) (some (.inl z) :: l) st X Q ↔ Xp zt L (g, ρ) k c (some (.inl z) :: l) (.inl z :: st) X Q := xp_nx rfl rfl rfl
theorem xp_al0 {l : LsT} {a : Nat} : Xp zt L (g, ρ) k ((.aload 0, x) :: c) (some (.inr (some a)) :: l) st X Q ↔ Xp zt L (g, ρ) k c (some (.inr (some a)) :: l) (.inr (some a) :: st) X Q := xp_nx rfl rfl rfl
theorem xp_iln0 {l : LsT} {z : Int} : Xp zt L (g, ρ) k ((.iload_n 0, x) :: c) (some (.inl z) :: l) st X Q ↔ Xp zt L (g, ρ) k c (some (.inl z) :: l) (.inl z :: st) X Q := xp_nx rfl rfl rfl
theorem xp_aln0 {l : LsT} {a : Nat} : Xp zt L (g, ρ) k ((.aload_n 0, x) :: c) (some (.inr (some a)) :: l) st X Q ↔ Xp zt L (g, ρ) k c (some (.inr (some a)) :: l) (.inr (some a) :: st) X Q := xp_nx rfl rfl rfl
theorem xp_is0 {l : LsT} {o : Option AV} {z : Int} : Xp zt L (g, ρ) k ((.istore 0, x) :: c) (o :: l) (.inl z :: st) X Q ↔ Xp zt L (g, ρ) k c (some (.inl z) :: l) st X Q := xp_nx rfl rfl rfl
theorem xp_isn0 {l : LsT} {o : Option AV} {z : Int} : Xp zt L (g, ρ) k ((.istore_n 0, x) :: c) (o :: l) (.inl z :: st) X Q ↔ Xp zt L (g, ρ) k c (some (.inl z) :: l) st X Q := xp_nx rfl rfl rfl
theorem xp_inc0 {l : LsT} {z d : Int} : Xp zt L (g, ρ) k ((.iinc 0 d, x) :: c) (some (.inl z) :: l) st X Q ↔ Xp zt L (g, ρ) k c (some (.inl (z + d)) :: l) st X Q := xp_nx rfl rfl rfl
theorem xp_il1 {l0 : Option AV} {l : LsT} {z : Int} : Xp zt L (g, ρ) k ((.iload 1, x) :: c) (l0 :: some (.inl z) :: l) st X Q ↔ Xp zt L (g, ρ) k c (l0 :: some (.inl z) :: l) (.inl z :: st) X Q := xp_nx rfl rfl rfl
theorem xp_al1 {l0 : Option AV} {l : LsT} {a : Nat} : Xp zt L (g, ρ) k ((.aload 1, x) :: c) (l0 :: some (.inr (some a)) :: l) st X Q ↔ Xp zt L (g, ρ) k c (l0 :: some (.inr (some a)) :: l) (.inr (some a) :: st) X Q := xp_nx rfl rfl rfl
theorem xp_iln1 {l0 : Option AV} {l : LsT} {z : Int} : Xp zt L (g, ρ) k ((.iload_n 1, x) :: c) (l0 :: some (.inl z) :: l) st X Q ↔ Xp zt L (g, ρ) k c (l0 :: some (.inl z) :: l) (.inl z :: st) X Q := xp_nx rfl rfl rfl
theorem xp_aln1 {l0 : Option AV} {l : LsT} {a : Nat} : Xp zt L (g, ρ) k ((.aload_n 1, x) :: c) (l0 :: some (.inr (some a)) :: l) st X Q ↔ Xp zt L (g, ρ) k c (l0 :: some (.inr (some a)) :: l) (.inr (some a) :: st) X Q := xp_nx rfl rfl rfl
theorem xp_is1 {l0 : Option AV} {l : LsT} {o : Option AV} {z : Int} : Xp zt L (g, ρ) k ((.istore 1, x) :: c) (l0 :: o :: l) (.inl z :: st) X Q ↔ Xp zt L (g, ρ) k c (l0 :: some (.inl z) :: l) st X Q := xp_nx rfl rfl rfl
theorem xp_isn1 {l0 : Option AV} {l : LsT} {o : Option AV} {z : Int} : Xp zt L (g, ρ) k ((.istore_n 1, x) :: c) (l0 :: o :: l) (.inl z :: st) X Q ↔ Xp zt L (g, ρ) k c (l0 :: some (.inl z) :: l) st X Q := xp_nx rfl rfl rfl
theorem xp_inc1 {l0 : Option AV} {l : LsT} {z d : Int} : Xp zt L (g, ρ) k ((.iinc 1 d, x) :: c) (l0 :: some (.inl z) :: l) st X Q ↔ Xp zt L (g, ρ) k c (l0 :: some (.inl (z + d)) :: l) st X Q := xp_nx rfl rfl rfl
theorem xp_il2 {l0 l1 : Option AV} {l : LsT} {z : Int} : Xp zt L (g, ρ) k ((.iload 2, x) :: c) (l0 :: l1 :: some (.inl z) :: l) st X Q ↔ Xp zt L (g, ρ) k c (l0 :: l1 :: some (.inl z) :: l) (.inl z :: st) X Q := xp_nx rfl rfl rfl
theorem xp_al2 {l0 l1 : Option AV} {l : LsT} {a : Nat} : Xp zt L (g, ρ) k ((.aload 2, x) :: c) (l0 :: l1 :: some (.inr (some a)) :: l) st X Q ↔ Xp zt L (g, ρ) k c (l0 :: l1 :: some (.inr (some a)) :: l) (.inr (some a) :: st) X Q := xp_nx rfl rfl rfl
theorem xp_iln2 {l0 l1 : Option AV} {l : LsT} {z : Int} : Xp zt L (g, ρ) k ((.iload_n 2, x) :: c) (l0 :: l1 :: some (.inl z) :: l) st X Q ↔ Xp zt L (g, ρ) k c (l0 :: l1 :: some (.inl z) :: l) (.inl z :: st) X Q := xp_nx rfl rfl rfl
theorem xp_aln2 {l0 l1 : Option AV} {l : LsT} {a : Nat} : Xp zt L (g, ρ) k ((.aload_n 2, x) :: c) (l0 :: l1 :: some (.inr (some a)) :: l) st X Q ↔ Xp zt L (g, ρ) k c (l0 :: l1 :: some (.inr (some a)) :: l) (.inr (some a) :: st) X Q := xp_nx rfl rfl rfl
theorem xp_is2 {l0 l1 : Option AV} {l : LsT} {o : Option AV} {z : Int} : Xp zt L (g, ρ) k ((.istore 2, x) :: c) (l0 :: l1 :: o :: l) (.inl z :: st) X Q ↔ Xp zt L (g, ρ) k c (l0 :: l1 :: some (.inl z) :: l) st X Q := xp_nx rfl rfl rfl
theorem xp_isn2 {l0 l1 : Option AV} {l : LsT} {o : Option AV} {z : Int} : Xp zt L (g, ρ) k ((.istore_n 2, x) :: c) (l0 :: l1 :: o :: l) (.inl z :: st) X Q ↔ Xp zt L (g, ρ) k c (l0 :: l1 :: some (.inl z) :: l) st X Q := xp_nx rfl rfl rfl
theorem xp_inc2 {l0 l1 : Option AV} {l : LsT} {z d : Int} : Xp zt L (g, ρ) k ((.iinc 2 d, x) :: c) (l0 :: l1 :: some (.inl z) :: l) st X Q ↔ Xp zt L (g, ρ) k c (l0 :: l1 :: some (.inl (z + d)) :: l) st X Q := xp_nx rfl rfl rfl
theorem xp_il3 {l0 l1 l2 : Option AV} {l : LsT} {z : Int} : Xp zt L (g, ρ) k ((.iload 3, x) :: c) (l0 :: l1 :: l2 :: some (.inl z) :: l) st X Q ↔ Xp zt L (g, ρ) k c (l0 :: l1 :: l2 :: some (.inl z) :: l) (.inl z :: st) X Q := xp_nx rfl rfl rfl
theorem xp_al3 {l0 l1 l2 : Option AV} {l : LsT} {a : Nat} : Xp zt L (g, ρ) k ((.aload 3, x) :: c) (l0 :: l1 :: l2 :: some (.inr (some a)) :: l) st X Q ↔ Xp zt L (g, ρ) k c (l0 :: l1 :: l2 :: some (.inr (some a)) :: l) (.inr (some a) :: st) X Q := xp_nx rfl rfl rfl
theorem xp_iln3 {l0 l1 l2 : Option AV} {l : LsT} {z : Int} : Xp zt L (g, ρ) k ((.iload_n 3, x) :: c) (l0 :: l1 :: l2 :: some (.inl z) :: l) st X Q ↔ Xp zt L (g, ρ) k c (l0 :: l1 :: l2 :: some (.inl z) :: l) (.inl z :: st) X Q := xp_nx rfl rfl rfl
theorem xp_aln3 {l0 l1 l2 : Option AV} {l : LsT} {a : Nat} : Xp zt L (g, ρ) k ((.aload_n 3, x) :: c) (l0 :: l1 :: l2 :: some (.inr (some a)) :: l) st X Q ↔ Xp zt L (g, ρ) k c (l0 :: l1 :: l2 :: some (.inr (some a)) :: l) (.inr (some a) :: st) X Q := xp_nx rfl rfl rfl
theorem xp_is3 {l0 l1 l2 : Option AV} {l : LsT} {o : Option AV} {z : Int} : Xp zt L (g, ρ) k ((.istore 3, x) :: c) (l0 :: l1 :: l2 :: o :: l) (.inl z :: st) X Q ↔ Xp zt L (g, ρ) k c (l0 :: l1 :: l2 :: some (.inl z) :: l) st X Q := xp_nx rfl rfl rfl
theorem xp_isn3 {l0 l1 l2 : Option AV} {l : LsT} {o : Option AV} {z : Int} : Xp zt L (g, ρ) k ((.istore_n 3, x) :: c) (l0 :: l1 :: l2 :: o :: l) (.inl z :: st) X Q ↔ Xp zt L (g, ρ) k c (l0 :: l1 :: l2 :: some (.inl z) :: l) st X Q := xp_nx rfl rfl rfl
theorem xp_inc3 {l0 l1 l2 : Option AV} {l : LsT} {z d : Int} : Xp zt L (g, ρ) k ((.iinc 3 d, x) :: c) (l0 :: l1 :: l2 :: some (.inl z) :: l) st X Q ↔ Xp zt L (g, ρ) k c (l0 :: l1 :: l2 :: some (.inl (z + d)) :: l) st X Q := xp_nx rfl rfl rfl
theorem xp_il4 {l0 l1 l2 l3 : Option AV} {l : LsT} {z : Int} : Xp zt L (g, ρ) k ((.iload 4, x) :: c) (l0 :: l1 :: l2 :: l3 :: some (.inl z) :: l) st X Q ↔ Xp zt L (g, ρ) k c (l0 :: l1 :: l2 :: l3 :: some (.inl z) :: l) (.inl z :: st) X Q := xp_nx rfl rfl rfl
theorem xp_al4 {l0 l1 l2 l3 : Option AV} {l : LsT} {a : Nat} : Xp zt L (g, ρ) k ((.aload 4, x) :: c) (l0 :: l1 :: l2 :: l3 :: some (.inr (some a)) :: l) st X Q ↔ Xp zt L (g, ρ) k c (l0 :: l1 :: l2 :: l3 :: some (.inr (some a)) :: l) (.inr (some a) :: st) X Q := xp_nx rfl rfl rfl
theorem xp_is4 {l0 l1 l2 l3 : Option AV} {l : LsT} {o : Option AV} {z : Int} : Xp zt L (g, ρ) k ((.istore 4, x) :: c) (l0 :: l1 :: l2 :: l3 :: o :: l) (.inl z :: st) X Q ↔ Xp zt L (g, ρ) k c (l0 :: l1 :: l2 :: l3 :: some (.inl z) :: l) st X Q := xp_nx rfl rfl rfl
theorem xp_inc4 {l0 l1 l2 l3 : Option AV} {l : LsT} {z d : Int} : Xp zt L (g, ρ) k ((.iinc 4 d, x) :: c) (l0 :: l1 :: l2 :: l3 :: some (.inl z) :: l) st X Q ↔ Xp zt L (g, ρ) k c (l0 :: l1 :: l2 :: l3 :: some (.inl (z + d)) :: l) st X Q := xp_nx rfl rfl rfl
theorem xp_il5 {l0 l1 l2 l3 l4 : Option AV} {l : LsT} {z : Int} : Xp zt L (g, ρ) k ((.iload 5, x) :: c) (l0 :: l1 :: l2 :: l3 :: l4 :: some (.inl z) :: l) st X Q ↔ Xp zt L (g, ρ) k c (l0 :: l1 :: l2 :: l3 :: l4 :: some (.inl z) :: l) (.inl z :: st) X Q := xp_nx rfl rfl rfl
theorem xp_al5 {l0 l1 l2 l3 l4 : Option AV} {l : LsT} {a : Nat} : Xp zt L (g, ρ) k ((.aload 5, x) :: c) (l0 :: l1 :: l2 :: l3 :: l4 :: some (.inr (some a)) :: l) st X Q ↔ Xp zt L (g, ρ) k c (l0 :: l1 :: l2 :: l3 :: l4 :: some (.inr (some a)) :: l) (.inr (some a) :: st) X Q := xp_nx rfl rfl rfl
theorem xp_is5 {l0 l1 l2 l3 l4 : Option AV} {l : LsT} {o : Option AV} {z : Int} : Xp zt L (g, ρ) k ((.istore 5, x) :: c) (l0 :: l1 :: l2 :: l3 :: l4 :: o :: l) (.inl z :: st) X Q ↔ Xp zt L (g, ρ) k c (l0 :: l1 :: l2 :: l3 :: l4 :: some (.inl z) :: l) st X Q := xp_nx rfl rfl rfl
theorem xp_inc5 {l0 l1 l2 l3 l4 : Option AV} {l : LsT} {z d : Int} : Xp zt L (g, ρ) k ((.iinc 5 d, x) :: c) (l0 :: l1 :: l2 :: l3 :: l4 :: some (.inl z) :: l) st X Q ↔ Xp zt L (g, ρ) k c (l0 :: l1 :: l2 :: l3 :: l4 :: some (.inl (z + d)) :: l) st X Q := xp_nx rfl rfl rfl
theorem xp_il6 {l0 l1 l2 l3 l4 l5 : Option AV} {l : LsT} {z : Int} : Xp zt L (g, ρ) k ((.iload 6, x) :: c) (l0 :: l1 :: l2 :: l3 :: l4 :: l5 :: some (.inl z) :: l) st X Q ↔ Xp zt L (g, ρ) k c (l0 :: l1 :: l2 :: l3 :: l4 :: l5 :: some (.inl z) :: l) (.inl z :: st) X Q := xp_nx rfl rfl rfl
theorem xp_al6 {l0 l1 l2 l3 l4 l5 : Option AV} {l : LsT} {a : Nat} : Xp zt L (g, ρ) k ((.aload 6, x) :: c) (l0 :: l1 :: l2 :: l3 :: l4 :: l5 :: some (.inr (some a)) :: l) st X Q ↔ Xp zt L (g, ρ) k c (l0 :: l1 :: l2 :: l3 :: l4 :: l5 :: some (.inr (some a)) :: l) (.inr (some a) :: st) X Q := xp_nx rfl rfl rfl
theorem xp_is6 {l0 l1 l2 l3 l4 l5 : Option AV} {l : LsT} {o : Option AV} {z : Int} : Xp zt L (g, ρ) k ((.istore 6, x) :: c) (l0 :: l1 :: l2 :: l3 :: l4 :: l5 :: o :: l) (.inl z :: st) X Q ↔ Xp zt L (g, ρ) k c (l0 :: l1 :: l2 :: l3 :: l4 :: l5 :: some (.inl z) :: l) st X Q := xp_nx rfl rfl rfl
theorem xp_inc6 {l0 l1 l2 l3 l4 l5 : Option AV} {l : LsT} {z d : Int} : Xp zt L (g, ρ) k ((.iinc 6 d, x) :: c) (l0 :: l1 :: l2 :: l3 :: l4 :: l5 :: some (.inl z) :: l) st X Q ↔ Xp zt L (g, ρ) k c (l0 :: l1 :: l2 :: l3 :: l4 :: l5 :: some (.inl (z + d)) :: l) st X Q := xp_nx rfl rfl rfl
theorem xp_il7 {l0 l1 l2 l3 l4 l5 l6 : Option AV} {l : LsT} {z : Int} : Xp zt L (g, ρ) k ((.iload 7, x) :: c) (l0 :: l1 :: l2 :: l3 :: l4 :: l5 :: l6 :: some (.inl z) :: l) st X Q ↔ Xp zt L (g, ρ) k c (l0 :: l1 :: l2 :: l3 :: l4 :: l5 :: l6 :: some (.inl z) :: l) (.inl z :: st) X Q := xp_nx rfl rfl rfl
theorem xp_al7 {l0 l1 l2 l3 l4 l5 l6 : Option AV} {l : LsT} {a : Nat} : Xp zt L (g, ρ) k ((.aload 7, x) :: c) (l0 :: l1 :: l2 :: l3 :: l4 :: l5 :: l6 :: some (.inr (some a)) :: l) st X Q ↔ Xp zt L (g, ρ) k c (l0 :: l1 :: l2 :: l3 :: l4 :: l5 :: l6 :: some (.inr (some a)) :: l) (.inr (some a) :: st) X Q := xp_nx rfl rfl rfl
theorem xp_is7 {l0 l1 l2 l3 l4 l5 l6 : Option AV} {l : LsT} {o : Option AV} {z : Int} : Xp zt L (g, ρ) k ((.istore 7, x) :: c) (l0 :: l1 :: l2 :: l3 :: l4 :: l5 :: l6 :: o :: l) (.inl z :: st) X Q ↔ Xp zt L (g, ρ) k c (l0 :: l1 :: l2 :: l3 :: l4 :: l5 :: l6 :: some (.inl z) :: l) st X Q := xp_nx rfl rfl rfl
theorem xp_inc7 {l0 l1 l2 l3 l4 l5 l6 : Option AV} {l : LsT} {z d : Int} : Xp zt L (g, ρ) k ((.iinc 7 d, x) :: c) (l0 :: l1 :: l2 :: l3 :: l4 :: l5 :: l6 :: some (.inl z) :: l) st X Q ↔ Xp zt L (g, ρ) k c (l0 :: l1 :: l2 :: l3 :: l4 :: l5 :: l6 :: some (.inl (z + d)) :: l) st X Q := xp_nx rfl rfl rfl
theorem xp_il8 {l0 l1 l2 l3 l4 l5 l6 l7 : Option AV} {l : LsT} {z : Int} : Xp zt L (g, ρ) k ((.iload 8, x) :: c) (l0 :: l1 :: l2 :: l3 :: l4 :: l5 :: l6 :: l7 :: some (.inl z) :: l) st X Q ↔ Xp zt L (g, ρ) k c (l0 :: l1 :: l2 :: l3 :: l4 :: l5 :: l6 :: l7 :: some (.inl z) :: l) (.inl z :: st) X Q := xp_nx rfl rfl rfl
theorem xp_al8 {l0 l1 l2 l3 l4 l5 l6 l7 : Option AV} {l : LsT} {a : Nat} : Xp zt L (g, ρ) k ((.aload 8, x) :: c) (l0 :: l1 :: l2 :: l3 :: l4 :: l5 :: l6 :: l7 :: some (.inr (some a)) :: l) st X Q ↔ Xp zt L (g, ρ) k c (l0 :: l1 :: l2 :: l3 :: l4 :: l5 :: l6 :: l7 :: some (.inr (some a)) :: l) (.inr (some a) :: st) X Q := xp_nx rfl rfl rfl
theorem xp_is8 {l0 l1 l2 l3 l4 l5 l6 l7 : Option AV} {l : LsT} {o : Option AV} {z : Int} : Xp zt L (g, ρ) k ((.istore 8, x) :: c) (l0 :: l1 :: l2 :: l3 :: l4 :: l5 :: l6 :: l7 :: o :: l) (.inl z :: st) X Q ↔ Xp zt L (g, ρ) k c (l0 :: l1 :: l2 :: l3 :: l4 :: l5 :: l6 :: l7 :: some (.inl z) :: l) st X Q := xp_nx rfl rfl rfl
theorem xp_inc8 {l0 l1 l2 l3 l4 l5 l6 l7 : Option AV} {l : LsT} {z d : Int} : Xp zt L (g, ρ) k ((.iinc 8 d, x) :: c) (l0 :: l1 :: l2 :: l3 :: l4 :: l5 :: l6 :: l7 :: some (.inl z) :: l) st X Q ↔ Xp zt L (g, ρ) k c (l0 :: l1 :: l2 :: l3 :: l4 :: l5 :: l6 :: l7 :: some (.inl (z + d)) :: l) st X Q := xp_nx rfl rfl rfl
theorem xp_il9 {l0 l1 l2 l3 l4 l5 l6 l7 l8 : Option AV} {l : LsT} {z : Int} : Xp zt L (g, ρ) k ((.iload 9, x) :: c) (l0 :: l1 :: l2 :: l3 :: l4 :: l5 :: l6 :: l7 :: l8 :: some (.inl z) :: l) st X Q ↔ Xp zt L (g, ρ) k c (l0 :: l1 :: l2 :: l3 :: l4 :: l5 :: l6 :: l7 :: l8 :: some (.inl z) :: l) (.inl z :: st) X Q := xp_nx rfl rfl rfl
theorem xp_al9 {l0 l1 l2 l3 l4 l5 l6 l7 l8 : Option AV} {l : LsT} {a : Nat} : Xp zt L (g, ρ) k ((.aload 9, x) :: c) (l0 :: l1 :: l2 :: l3 :: l4 :: l5 :: l6 :: l7 :: l8 :: some (.inr (some a)) :: l) st X Q ↔ Xp zt L (g, ρ) k c (l0 :: l1 :: l2 :: l3 :: l4 :: l5 :: l6 :: l7 :: l8 :: some (.inr (some a)) :: l) (.inr (some a) :: st) X Q := xp_nx rfl rfl rfl
theorem xp_is9 {l0 l1 l2 l3 l4 l5 l6 l7 l8 : Option AV} {l : LsT} {o : Option AV} {z : Int} : Xp zt L (g, ρ) k ((.istore 9, x) :: c) (l0 :: l1 :: l2 :: l3 :: l4 :: l5 :: l6 :: l7 :: l8 :: o :: l) (.inl z :: st) X Q ↔ Xp zt L (g, ρ) k c (l0 :: l1 :: l2 :: l3 :: l4 :: l5 :: l6 :: l7 :: l8 :: some (.inl z) :: l) st X Q := xp_nx rfl rfl rfl
theorem xp_inc9 {l0 l1 l2 l3 l4 l5 l6 l7 l8 : Option AV} {l : LsT} {z d : Int} : Xp zt L (g, ρ) k ((.iinc 9 d, x) :: c) (l0 :: l1 :: l2 :: l3 :: l4 :: l5 :: l6 :: l7 :: l8 :: some (.inl z) :: l) st X Q ↔ Xp zt L (g, ρ) k c (l0 :: l1 :: l2 :: l3 :: l4 :: l5 :: l6 :: l7 :: l8 :: some (.inl (z + d)) :: l) st X Q := xp_nx rfl rfl rfl
theorem xp_il10 {l0 l1 l2 l3 l4 l5 l6 l7 l8 l9 : Option AV} {l : LsT} {z : Int} : Xp zt L (g, ρ) k ((.iload 10, x) :: c) (l0 :: l1 :: l2 :: l3 :: l4 :: l5 :: l6 :: l7 :: l8 :: l9 :: some (.inl z) :: l) st X Q ↔ Xp zt L (g, ρ) k c (l0 :: l1 :: l2 :: l3 :: l4 :: l5 :: l6 :: l7 :: l8 :: l9 :: some (.inl z) :: l) (.inl z :: st) X Q := xp_nx rfl rfl rfl
theorem xp_al10 {l0 l1 l2 l3 l4 l5 l6 l7 l8 l9 : Option AV} {l : LsT} {a : Nat} : Xp zt L (g, ρ) k ((.aload 10, x) :: c) (l0 :: l1 :: l2 :: l3 :: l4 :: l5 :: l6 :: l7 :: l8 :: l9 :: some (.inr (some a)) :: l) st X Q ↔ Xp zt L (g, ρ) k c (l0 :: l1 :: l2 :: l3 :: l4 :: l5 :: l6 :: l7 :: l8 :: l9 :: some (.inr (some a)) :: l) (.inr (some a) :: st) X Q := xp_nx rfl rfl rfl
theorem xp_is10 {l0 l1 l2 l3 l4 l5 l6 l7 l8 l9 : Option AV} {l : LsT} {o : Option AV} {z : Int} : Xp zt L (g, ρ) k ((.istore 10, x) :: c) (l0 :: l1 :: l2 :: l3 :: l4 :: l5 :: l6 :: l7 :: l8 :: l9 :: o :: l) (.inl z :: st) X Q ↔ Xp zt L (g, ρ) k c (l0 :: l1 :: l2 :: l3 :: l4 :: l5 :: l6 :: l7 :: l8 :: l9 :: some (.inl z) :: l) st X Q := xp_nx rfl rfl rfl
theorem xp_inc10 {l0 l1 l2 l3 l4 l5 l6 l7 l8 l9 : Option AV} {l : LsT} {z d : Int} : Xp zt L (g, ρ) k ((.iinc 10 d, x) :: c) (l0 :: l1 :: l2 :: l3 :: l4 :: l5 :: l6 :: l7 :: l8 :: l9 :: some (.inl z) :: l) st X Q ↔ Xp zt L (g, ρ) k c (l0 :: l1 :: l2 :: l3 :: l4 :: l5 :: l6 :: l7 :: l8 :: l9 :: some (.inl (z + d)) :: l) st X Q := xp_nx rfl rfl rfl
theorem xp_il11 {l0 l1 l2 l3 l4 l5 l6 l7 l8 l9 l10 : Option AV} {l : LsT} {z : Int} : Xp zt L (g, ρ) k ((.iload 11, x) :: c) (l0 :: l1 :: l2 :: l3 :: l4 :: l5 :: l6 :: l7 :: l8 :: l9 :: l10 :: some (.inl z) :: l) st X Q ↔ Xp zt L (g, ρ) k c (l0 :: l1 :: l2 :: l3 :: l4 :: l5 :: l6 :: l7 :: l8 :: l9 :: l10 :: some (.inl z) :: l) (.inl z :: st) X Q := xp_nx rfl rfl rfl
theorem xp_al11 {l0 l1 l2 l3 l4 l5 l6 l7 l8 l9 l10 : Option AV} {l : LsT} {a : Nat} : Xp zt L (g, ρ) k ((.aload 11, x) :: c) (l0 :: l1 :: l2 :: l3 :: l4 :: l5 :: l6 :: l7 :: l8 :: l9 :: l10 :: some (.inr (some a)) :: l) st X Q ↔ Xp zt L (g, ρ) k c (l0 :: l1 :: l2 :: l3 :: l4 :: l5 :: l6 :: l7 :: l8 :: l9 :: l10 :: some (.inr (some a)) :: l) (.inr (some a) :: st) X Q := xp_nx rfl rfl rfl
theorem xp_is11 {l0 l1 l2 l3 l4 l5 l6 l7 l8 l9 l10 : Option AV} {l : LsT} {o : Option AV} {z : Int} : Xp zt L (g, ρ) k ((.istore 11, x) :: c) (l0 :: l1 :: l2 :: l3 :: l4 :: l5 :: l6 :: l7 :: l8 :: l9 :: l10 :: o :: l) (.inl z :: st) X Q ↔ Xp zt L (g, ρ) k c (l0 :: l1 :: l2 :: l3 :: l4 :: l5 :: l6 :: l7 :: l8 :: l9 :: l10 :: some (.inl z) :: l) st X Q := xp_nx rfl rfl rfl
theorem xp_inc11 {l0 l1 l2 l3 l4 l5 l6 l7 l8 l9 l10 : Option AV} {l : LsT} {z d : Int} : Xp zt L (g, ρ) k ((.iinc 11 d, x) :: c) (l0 :: l1 :: l2 :: l3 :: l4 :: l5 :: l6 :: l7 :: l8 :: l9 :: l10 :: some (.inl z) :: l) st X Q ↔ Xp zt L (g, ρ) k c (l0 :: l1 :: l2 :: l3 :: l4 :: l5 :: l6 :: l7 :: l8 :: l9 :: l10 :: some (.inl (z + d)) :: l) st X Q := xp_nx rfl rfl rfl
theorem xp_il12 {l0 l1 l2 l3 l4 l5 l6 l7 l8 l9 l10 l11 : Option AV} {l : LsT} {z : Int} : Xp zt L (g, ρ) k ((.iload 12, x) :: c) (l0 :: l1 :: l2 :: l3 :: l4 :: l5 :: l6 :: l7 :: l8 :: l9 :: l10 :: l11 :: some (.inl z) :: l) st X Q ↔ Xp zt L (g, ρ) k c (l0 :: l1 :: l2 :: l3 :: l4 :: l5 :: l6 :: l7 :: l8 :: l9 :: l10 :: l11 :: some (.inl z) :: l) (.inl z :: st) X Q := xp_nx rfl rfl rfl
theorem xp_al12 {l0 l1 l2 l3 l4 l5 l6 l7 l8 l9 l10 l11 : Option AV} {l : LsT} {a : Nat} : Xp zt L (g, ρ) k ((.aload 12, x) :: c) (l0 :: l1 :: l2 :: l3 :: l4 :: l5 :: l6 :: l7 :: l8 :: l9 :: l10 :: l11 :: some (.inr (some a)) :: l) st X Q ↔ Xp zt L (g, ρ) k c (l0 :: l1 :: l2 :: l3 :: l4 :: l5 :: l6 :: l7 :: l8 :: l9 :: l10 :: l11 :: some (.inr (some a)) :: l) (.inr (some a) :: st) X Q := xp_nx rfl rfl rfl
theorem xp_is12 {l0 l1 l2 l3 l4 l5 l6 l7 l8 l9 l10 l11 : Option AV} {l : LsT} {o : Option AV} {z : Int} : Xp zt L (g, ρ) k ((.istore 12, x) :: c) (l0 :: l1 :: l2 :: l3 :: l4 :: l5 :: l6 :: l7 :: l8 :: l9 :: l10 :: l11 :: o :: l) (.inl z :: st) X Q ↔ Xp zt L (g, ρ) k c (l0 :: l1 :: l2 :: l3 :: l4 :: l5 :: l6 :: l7 :: l8 :: l9 :: l10 :: l11 :: some (.inl z) :: l) st X Q := xp_nx rfl rfl rfl
theorem xp_inc12 {l0 l1 l2 l3 l4 l5 l6 l7 l8 l9 l10 l11 : Option AV} {l : LsT} {z d : Int} : Xp zt L (g, ρ) k ((.iinc 12 d, x) :: c) (l0 :: l1 :: l2 :: l3 :: l4 :: l5 :: l6 :: l7 :: l8 :: l9 :: l10 :: l11 :: some (.inl z) :: l) st X Q ↔ Xp zt L (g, ρ) k c (l0 :: l1 :: l2 :: l3 :: l4 :: l5 :: l6 :: l7 :: l8 :: l9 :: l10 :: l11 :: some (.inl (z + d)) :: l) st X Q := xp_nx rfl rfl rfl
theorem xp_iconst {v : Int} : Xp zt L (g, ρ) k ((.iconst v, x) :: c) ls st X Q ↔ Xp zt L (g, ρ) k c ls (.inl v :: st) X Q := xp_nx rfl rfl rfl
theorem xp_bipush {v : Int} : Xp zt L (g, ρ) k ((.bipush v, x) :: c) ls st X Q ↔ Xp zt L (g, ρ) k c ls (.inl v :: st) X Q := xp_nx rfl rfl rfl
theorem xp_sipush {v : Int} : Xp zt L (g, ρ) k ((.sipush v, x) :: c) ls st X Q ↔ Xp zt L (g, ρ) k c ls (.inl v :: st) X Q := xp_nx rfl rfl rfl
theorem xp_ldc {i v : Nat} : Xp zt L (g, ρ) k ((.ldc i, [v]) :: c) ls st X Q ↔ Xp zt L (g, ρ) k c ls (.inl (v : Int) :: st) X Q := xp_nx rfl rfl rfl
theorem xp_iadd {a b : Int} : Xp zt L (g, ρ) k ((.iadd, x) :: c) ls (.inl b :: .inl a :: st) X Q ↔ Xp zt L (g, ρ) k c ls (.inl (a + b) :: st) X Q := xp_nx rfl rfl rfl
theorem xp_isub {a b : Int} : Xp zt L (g, ρ) k ((.isub, x) :: c) ls (.inl b :: .inl a :: st) X Q ↔ Xp zt L (g, ρ) k c ls (.inl (a - b) :: st) X Q := xp_nx rfl rfl rfl
theorem xp_imul {a b : Int} : Xp zt L (g, ρ) k ((.imul, x) :: c) ls (.inl b :: .inl a :: st) X Q ↔ Xp zt L (g, ρ) k c ls (.inl (a * b) :: st) X Q := xp_nx rfl rfl rfl
theorem xp_iand31 {a : Int} : Xp zt L (g, ρ) k ((.iand, x) :: c) ls (.inl 2147483647 :: .inl a :: st) X Q ↔ Xp zt L (g, ρ) k c ls (.inl (a % 2147483648) :: st) X Q := xp_nx rfl rfl rfl
theorem xp_ishr {a b : Int} : Xp zt L (g, ρ) k ((.ishr, x) :: c) ls (.inl b :: .inl a :: st) X Q ↔ Xp zt L (g, ρ) k c ls (.inl (shrI a b) :: st) X Q := xp_nx rfl rfl rfl
theorem xp_goto {o : Int} {L2 : Nat} : Xp zt L (g, ρ) k ((.goto o, [L2]) :: c) ls st X Q ↔ Xp zt L (g, ρ) k (P k L2) ls st X Q := xp_jp rfl rfl rfl
theorem xp_nop {L2 : Nat} : Xp zt L (g, ρ) k ((.nop, [L2]) :: c) ls st X Q ↔ Xp zt L (g, ρ) k (P k L2) ls st X Q := xp_jp rfl rfl rfl
theorem xp_iceq {a b : Int} {o : Int} {L2 : Nat} : Xp zt L (g, ρ) k ((.if_icmp .eq o, [L2]) :: c) ls (.inl b :: .inl a :: st) X Q ↔ (a = b ∨ ((-2147483648 ≤ a ∧ a < 2147483648) ∧ (-2147483648 ≤ b ∧ b < 2147483648))) ∧ (if a = b then Xp zt L (g, ρ) k (P k L2) ls st X Q else Xp zt L (g, ρ) k c ls st X Q) := by
  by_cases h : a = b
  · rw [if_pos h]
    exact ⟨fun q => ⟨Or.inl h, (xp_jp rfl rfl (by simp only [eff, cj]; rw [if_pos h]; rfl)).mp q⟩, fun q => (xp_jp rfl rfl (by simp only [eff, cj]; rw [if_pos h]; rfl)).mpr q.2⟩
  · rw [if_neg h]
    by_cases hr : rng a ∧ rng b
    · exact ⟨fun q => ⟨Or.inr hr, (xp_nx rfl rfl (by simp only [eff, cj]; rw [if_neg h, if_pos hr]; rfl)).mp q⟩, fun q => (xp_nx rfl rfl (by simp only [eff, cj]; rw [if_neg h, if_pos hr]; rfl)).mpr q.2⟩
    · exact ⟨fun q => absurd q (xp_no rfl rfl (by simp only [eff, cj]; rw [if_neg h, if_neg hr])), fun q => absurd (q.1.resolve_left h) (fun z => hr z)⟩
theorem xp_izeq {a : Int} {o : Int} {L2 : Nat} : Xp zt L (g, ρ) k ((.ifCond .eq o, [L2]) :: c) ls (.inl a :: st) X Q ↔ (a = 0 ∨ (-2147483648 ≤ a ∧ a < 2147483648)) ∧ (if a = 0 then Xp zt L (g, ρ) k (P k L2) ls st X Q else Xp zt L (g, ρ) k c ls st X Q) := by
  by_cases h : a = 0
  · rw [if_pos h]
    exact ⟨fun q => ⟨Or.inl h, (xp_jp rfl rfl (by simp only [eff, cj]; rw [if_pos h]; rfl)).mp q⟩, fun q => (xp_jp rfl rfl (by simp only [eff, cj]; rw [if_pos h]; rfl)).mpr q.2⟩
  · rw [if_neg h]
    by_cases hr : rng a ∧ rng 0
    · exact ⟨fun q => ⟨Or.inr hr.1, (xp_nx rfl rfl (by simp only [eff, cj]; rw [if_neg h, if_pos hr]; rfl)).mp q⟩, fun q => (xp_nx rfl rfl (by simp only [eff, cj]; rw [if_neg h, if_pos hr]; rfl)).mpr q.2⟩
    · exact ⟨fun q => absurd q (xp_no rfl rfl (by simp only [eff, cj]; rw [if_neg h, if_neg hr])), fun q => absurd (q.1.resolve_left h) (fun z => hr ⟨z, by decide⟩)⟩
theorem xp_icne {a b : Int} {o : Int} {L2 : Nat} : Xp zt L (g, ρ) k ((.if_icmp .ne o, [L2]) :: c) ls (.inl b :: .inl a :: st) X Q ↔ (a = b ∨ ((-2147483648 ≤ a ∧ a < 2147483648) ∧ (-2147483648 ≤ b ∧ b < 2147483648))) ∧ (if ¬ a = b then Xp zt L (g, ρ) k (P k L2) ls st X Q else Xp zt L (g, ρ) k c ls st X Q) := by
  by_cases h : a = b
  · rw [if_neg (not_not_intro h)]
    exact ⟨fun q => ⟨Or.inl h, (xp_nx rfl rfl (by simp only [eff, cj]; rw [if_pos h]; rfl)).mp q⟩, fun q => (xp_nx rfl rfl (by simp only [eff, cj]; rw [if_pos h]; rfl)).mpr q.2⟩
  · rw [if_pos h]
    by_cases hr : rng a ∧ rng b
    · exact ⟨fun q => ⟨Or.inr hr, (xp_jp rfl rfl (by simp only [eff, cj]; rw [if_neg h, if_pos hr]; rfl)).mp q⟩, fun q => (xp_jp rfl rfl (by simp only [eff, cj]; rw [if_neg h, if_pos hr]; rfl)).mpr q.2⟩
    · exact ⟨fun q => absurd q (xp_no rfl rfl (by simp only [eff, cj]; rw [if_neg h, if_neg hr])), fun q => absurd (q.1.resolve_left h) (fun z => hr z)⟩
theorem xp_izne {a : Int} {o : Int} {L2 : Nat} : Xp zt L (g, ρ) k ((.ifCond .ne o, [L2]) :: c) ls (.inl a :: st) X Q ↔ (a = 0 ∨ (-2147483648 ≤ a ∧ a < 2147483648)) ∧ (if ¬ a = 0 then Xp zt L (g, ρ) k (P k L2) ls st X Q else Xp zt L (g, ρ) k c ls st X Q) := by
  by_cases h : a = 0
  · rw [if_neg (not_not_intro h)]
    exact ⟨fun q => ⟨Or.inl h, (xp_nx rfl rfl (by simp only [eff, cj]; rw [if_pos h]; rfl)).mp q⟩, fun q => (xp_nx rfl rfl (by simp only [eff, cj]; rw [if_pos h]; rfl)).mpr q.2⟩
  · rw [if_pos h]
    by_cases hr : rng a ∧ rng 0
    · exact ⟨fun q => ⟨Or.inr hr.1, (xp_jp rfl rfl (by simp only [eff, cj]; rw [if_neg h, if_pos hr]; rfl)).mp q⟩, fun q => (xp_jp rfl rfl (by simp only [eff, cj]; rw [if_neg h, if_pos hr]; rfl)).mpr q.2⟩
    · exact ⟨fun q => absurd q (xp_no rfl rfl (by simp only [eff, cj]; rw [if_neg h, if_neg hr])), fun q => absurd (q.1.resolve_left h) (fun z => hr ⟨z, by decide⟩)⟩
theorem xp_iclt {a b : Int} {o : Int} {L2 : Nat} : Xp zt L (g, ρ) k ((.if_icmp .lt o, [L2]) :: c) ls (.inl b :: .inl a :: st) X Q ↔ ((-2147483648 ≤ a ∧ a < 2147483648) ∧ (-2147483648 ≤ b ∧ b < 2147483648)) ∧ (if a < b then Xp zt L (g, ρ) k (P k L2) ls st X Q else Xp zt L (g, ρ) k c ls st X Q) := by
  by_cases hr : rng a ∧ rng b
  · by_cases h : a < b
    · rw [if_pos h]
      exact ⟨fun q => ⟨hr, (xp_jp rfl rfl (by simp only [eff, cj]; rw [if_pos hr, if_pos h]; rfl)).mp q⟩, fun q => (xp_jp rfl rfl (by simp only [eff, cj]; rw [if_pos hr, if_pos h]; rfl)).mpr q.2⟩
    · rw [if_neg h]
      exact ⟨fun q => ⟨hr, (xp_nx rfl rfl (by simp only [eff, cj]; rw [if_pos hr, if_neg h]; rfl)).mp q⟩, fun q => (xp_nx rfl rfl (by simp only [eff, cj]; rw [if_pos hr, if_neg h]; rfl)).mpr q.2⟩
  · exact ⟨fun q => absurd q (xp_no rfl rfl (by simp only [eff, cj]; rw [if_neg hr])), fun q => absurd q.1 (fun z => hr z)⟩
theorem xp_izlt {a : Int} {o : Int} {L2 : Nat} : Xp zt L (g, ρ) k ((.ifCond .lt o, [L2]) :: c) ls (.inl a :: st) X Q ↔ (-2147483648 ≤ a ∧ a < 2147483648) ∧ (if a < 0 then Xp zt L (g, ρ) k (P k L2) ls st X Q else Xp zt L (g, ρ) k c ls st X Q) := by
  by_cases hr : rng a ∧ rng 0
  · by_cases h : a < 0
    · rw [if_pos h]
      exact ⟨fun q => ⟨hr.1, (xp_jp rfl rfl (by simp only [eff, cj]; rw [if_pos hr, if_pos h]; rfl)).mp q⟩, fun q => (xp_jp rfl rfl (by simp only [eff, cj]; rw [if_pos hr, if_pos h]; rfl)).mpr q.2⟩
    · rw [if_neg h]
      exact ⟨fun q => ⟨hr.1, (xp_nx rfl rfl (by simp only [eff, cj]; rw [if_pos hr, if_neg h]; rfl)).mp q⟩, fun q => (xp_nx rfl rfl (by simp only [eff, cj]; rw [if_pos hr, if_neg h]; rfl)).mpr q.2⟩
  · exact ⟨fun q => absurd q (xp_no rfl rfl (by simp only [eff, cj]; rw [if_neg hr])), fun q => absurd q.1 (fun z => hr ⟨z, by decide⟩)⟩
theorem xp_icge {a b : Int} {o : Int} {L2 : Nat} : Xp zt L (g, ρ) k ((.if_icmp .ge o, [L2]) :: c) ls (.inl b :: .inl a :: st) X Q ↔ ((-2147483648 ≤ a ∧ a < 2147483648) ∧ (-2147483648 ≤ b ∧ b < 2147483648)) ∧ (if b ≤ a then Xp zt L (g, ρ) k (P k L2) ls st X Q else Xp zt L (g, ρ) k c ls st X Q) := by
  by_cases hr : rng a ∧ rng b
  · by_cases h : b ≤ a
    · rw [if_pos h]
      exact ⟨fun q => ⟨hr, (xp_jp rfl rfl (by simp only [eff, cj]; rw [if_pos hr, if_pos h]; rfl)).mp q⟩, fun q => (xp_jp rfl rfl (by simp only [eff, cj]; rw [if_pos hr, if_pos h]; rfl)).mpr q.2⟩
    · rw [if_neg h]
      exact ⟨fun q => ⟨hr, (xp_nx rfl rfl (by simp only [eff, cj]; rw [if_pos hr, if_neg h]; rfl)).mp q⟩, fun q => (xp_nx rfl rfl (by simp only [eff, cj]; rw [if_pos hr, if_neg h]; rfl)).mpr q.2⟩
  · exact ⟨fun q => absurd q (xp_no rfl rfl (by simp only [eff, cj]; rw [if_neg hr])), fun q => absurd q.1 (fun z => hr z)⟩
theorem xp_izge {a : Int} {o : Int} {L2 : Nat} : Xp zt L (g, ρ) k ((.ifCond .ge o, [L2]) :: c) ls (.inl a :: st) X Q ↔ (-2147483648 ≤ a ∧ a < 2147483648) ∧ (if 0 ≤ a then Xp zt L (g, ρ) k (P k L2) ls st X Q else Xp zt L (g, ρ) k c ls st X Q) := by
  by_cases hr : rng a ∧ rng 0
  · by_cases h : 0 ≤ a
    · rw [if_pos h]
      exact ⟨fun q => ⟨hr.1, (xp_jp rfl rfl (by simp only [eff, cj]; rw [if_pos hr, if_pos h]; rfl)).mp q⟩, fun q => (xp_jp rfl rfl (by simp only [eff, cj]; rw [if_pos hr, if_pos h]; rfl)).mpr q.2⟩
    · rw [if_neg h]
      exact ⟨fun q => ⟨hr.1, (xp_nx rfl rfl (by simp only [eff, cj]; rw [if_pos hr, if_neg h]; rfl)).mp q⟩, fun q => (xp_nx rfl rfl (by simp only [eff, cj]; rw [if_pos hr, if_neg h]; rfl)).mpr q.2⟩
  · exact ⟨fun q => absurd q (xp_no rfl rfl (by simp only [eff, cj]; rw [if_neg hr])), fun q => absurd q.1 (fun z => hr ⟨z, by decide⟩)⟩
theorem xp_icgt {a b : Int} {o : Int} {L2 : Nat} : Xp zt L (g, ρ) k ((.if_icmp .gt o, [L2]) :: c) ls (.inl b :: .inl a :: st) X Q ↔ ((-2147483648 ≤ a ∧ a < 2147483648) ∧ (-2147483648 ≤ b ∧ b < 2147483648)) ∧ (if b < a then Xp zt L (g, ρ) k (P k L2) ls st X Q else Xp zt L (g, ρ) k c ls st X Q) := by
  by_cases hr : rng a ∧ rng b
  · by_cases h : b < a
    · rw [if_pos h]
      exact ⟨fun q => ⟨hr, (xp_jp rfl rfl (by simp only [eff, cj]; rw [if_pos hr, if_pos h]; rfl)).mp q⟩, fun q => (xp_jp rfl rfl (by simp only [eff, cj]; rw [if_pos hr, if_pos h]; rfl)).mpr q.2⟩
    · rw [if_neg h]
      exact ⟨fun q => ⟨hr, (xp_nx rfl rfl (by simp only [eff, cj]; rw [if_pos hr, if_neg h]; rfl)).mp q⟩, fun q => (xp_nx rfl rfl (by simp only [eff, cj]; rw [if_pos hr, if_neg h]; rfl)).mpr q.2⟩
  · exact ⟨fun q => absurd q (xp_no rfl rfl (by simp only [eff, cj]; rw [if_neg hr])), fun q => absurd q.1 (fun z => hr z)⟩
theorem xp_izgt {a : Int} {o : Int} {L2 : Nat} : Xp zt L (g, ρ) k ((.ifCond .gt o, [L2]) :: c) ls (.inl a :: st) X Q ↔ (-2147483648 ≤ a ∧ a < 2147483648) ∧ (if 0 < a then Xp zt L (g, ρ) k (P k L2) ls st X Q else Xp zt L (g, ρ) k c ls st X Q) := by
  by_cases hr : rng a ∧ rng 0
  · by_cases h : 0 < a
    · rw [if_pos h]
      exact ⟨fun q => ⟨hr.1, (xp_jp rfl rfl (by simp only [eff, cj]; rw [if_pos hr, if_pos h]; rfl)).mp q⟩, fun q => (xp_jp rfl rfl (by simp only [eff, cj]; rw [if_pos hr, if_pos h]; rfl)).mpr q.2⟩
    · rw [if_neg h]
      exact ⟨fun q => ⟨hr.1, (xp_nx rfl rfl (by simp only [eff, cj]; rw [if_pos hr, if_neg h]; rfl)).mp q⟩, fun q => (xp_nx rfl rfl (by simp only [eff, cj]; rw [if_pos hr, if_neg h]; rfl)).mpr q.2⟩
  · exact ⟨fun q => absurd q (xp_no rfl rfl (by simp only [eff, cj]; rw [if_neg hr])), fun q => absurd q.1 (fun z => hr ⟨z, by decide⟩)⟩
theorem xp_icle {a b : Int} {o : Int} {L2 : Nat} : Xp zt L (g, ρ) k ((.if_icmp .le o, [L2]) :: c) ls (.inl b :: .inl a :: st) X Q ↔ ((-2147483648 ≤ a ∧ a < 2147483648) ∧ (-2147483648 ≤ b ∧ b < 2147483648)) ∧ (if a ≤ b then Xp zt L (g, ρ) k (P k L2) ls st X Q else Xp zt L (g, ρ) k c ls st X Q) := by
  by_cases hr : rng a ∧ rng b
  · by_cases h : a ≤ b
    · rw [if_pos h]
      exact ⟨fun q => ⟨hr, (xp_jp rfl rfl (by simp only [eff, cj]; rw [if_pos hr, if_pos h]; rfl)).mp q⟩, fun q => (xp_jp rfl rfl (by simp only [eff, cj]; rw [if_pos hr, if_pos h]; rfl)).mpr q.2⟩
    · rw [if_neg h]
      exact ⟨fun q => ⟨hr, (xp_nx rfl rfl (by simp only [eff, cj]; rw [if_pos hr, if_neg h]; rfl)).mp q⟩, fun q => (xp_nx rfl rfl (by simp only [eff, cj]; rw [if_pos hr, if_neg h]; rfl)).mpr q.2⟩
  · exact ⟨fun q => absurd q (xp_no rfl rfl (by simp only [eff, cj]; rw [if_neg hr])), fun q => absurd q.1 (fun z => hr z)⟩
theorem xp_izle {a : Int} {o : Int} {L2 : Nat} : Xp zt L (g, ρ) k ((.ifCond .le o, [L2]) :: c) ls (.inl a :: st) X Q ↔ (-2147483648 ≤ a ∧ a < 2147483648) ∧ (if a ≤ 0 then Xp zt L (g, ρ) k (P k L2) ls st X Q else Xp zt L (g, ρ) k c ls st X Q) := by
  by_cases hr : rng a ∧ rng 0
  · by_cases h : a ≤ 0
    · rw [if_pos h]
      exact ⟨fun q => ⟨hr.1, (xp_jp rfl rfl (by simp only [eff, cj]; rw [if_pos hr, if_pos h]; rfl)).mp q⟩, fun q => (xp_jp rfl rfl (by simp only [eff, cj]; rw [if_pos hr, if_pos h]; rfl)).mpr q.2⟩
    · rw [if_neg h]
      exact ⟨fun q => ⟨hr.1, (xp_nx rfl rfl (by simp only [eff, cj]; rw [if_pos hr, if_neg h]; rfl)).mp q⟩, fun q => (xp_nx rfl rfl (by simp only [eff, cj]; rw [if_pos hr, if_neg h]; rfl)).mpr q.2⟩
  · exact ⟨fun q => absurd q (xp_no rfl rfl (by simp only [eff, cj]; rw [if_neg hr])), fun q => absurd q.1 (fun z => hr ⟨z, by decide⟩)⟩
theorem xp_irem {a b : Int} : Xp zt L (g, ρ) k ((.irem, x) :: c) ls (.inl b :: .inl a :: st) X Q ↔ (0 ≤ a ∧ (-2147483648 ≤ a ∧ a < 2147483648) ∧ 0 < b ∧ (-2147483648 ≤ b ∧ b < 2147483648)) ∧ Xp zt L (g, ρ) k c ls (.inl (a % b) :: st) X Q := by
  by_cases hr : 0 ≤ a ∧ (-2147483648 ≤ a ∧ a < 2147483648) ∧ 0 < b ∧ (-2147483648 ≤ b ∧ b < 2147483648)
  · exact ⟨fun q => ⟨hr, (xp_nx rfl rfl (by simp only [eff, bin]; rw [if_pos hr]; rfl)).mp q⟩, fun q => (xp_nx rfl rfl (by simp only [eff, bin]; rw [if_pos hr]; rfl)).mpr q.2⟩
  · exact ⟨fun q => absurd q (xp_no rfl rfl (by simp only [eff, bin]; rw [if_neg hr])), fun q => absurd q.1 hr⟩
theorem xp_iret {z : Int} : Xp zt L (g, ρ) k ((.ireturn, [0]) :: c) ls [.inl z] X Q ↔ Q (some (.inl z)) X := xp_rt rfl rfl rfl
theorem xp_zret {z : Int} : Xp zt L (g, ρ) k ((.ireturn, [1]) :: c) ls [.inl z] X Q ↔ (z = 0 ∨ z = 1) ∧ Q (some (.inl z)) X := by
  have he : eff zt (.ireturn, [1]) ls [.inl z] (g, ρ) = if (1 : Nat) = 0 ∨ z = 0 ∨ z = 1 then some (.inr (.inr (.inr (some (.inl z))))) else none := rfl
  by_cases h : z = 0 ∨ z = 1
  · rw [if_pos (Or.inr h)] at he
    exact ⟨fun q => ⟨h, (xp_rt rfl rfl he).mp q⟩, fun q => (xp_rt rfl rfl he).mpr q.2⟩
  · rw [if_neg (fun (w : (1 : Nat) = 0 ∨ z = 0 ∨ z = 1) => w.elim (by decide) h)] at he
    exact ⟨fun q => absurd q (xp_no rfl rfl he), fun q => absurd q.1 h⟩
theorem xp_iald {i : Int} {b : Nat} (h : kdI ρ b 4) : Xp zt L (g, ρ) k ((.iaload, x) :: c) ls (.inl i :: .inr (some b) :: st) X Q ↔ (0 ≤ i ∧ i < (lnA ρ b : Int) ∧ i < 65536) ∧ Xp zt L (g, ρ) k c ls (.inl (g b i.toNat) :: st) X Q := by
  have hl := kdI_ln h
  by_cases hr : (0 ≤ i ∧ i < (lnA ρ b : Int) ∧ i < 65536)
  · have he : eff zt (.iaload, x) ls (.inl i :: .inr (some b) :: st) (g, ρ) = some (.inl (ls, .inl (g b i.toNat) :: st, (g, ρ))) := by
      simp only [eff, aldI, shp, hl]
      rw [if_pos (by simpa using hr)]; rfl
    exact ⟨fun q => ⟨hr, (xp_nx rfl rfl he).mp q⟩, fun q => (xp_nx rfl rfl he).mpr q.2⟩
  · refine ⟨fun q => absurd q (xp_no rfl rfl ?_), fun q => absurd q.1 hr⟩
    simp only [eff, aldI, shp, hl]
    rw [if_neg (fun z => hr (by simpa using z))]
theorem xp_alen {b kd : Nat} (h : kdI ρ b kd) (hk : kd ≤ 4) : Xp zt L (g, ρ) k ((.arraylength, x) :: c) ls (.inr (some b) :: st) X Q ↔ Xp zt L (g, ρ) k c ls (.inl (lnA ρ b : Int) :: st) X Q := by
  have hl := kdI_ln h
  exact xp_nx rfl rfl (by simp only [eff, shp, hl]; rw [if_pos hk]; rfl)
theorem xp_cs1 {i k2 : Nat} {v0 : AV} (hk : k2 < 1000) (hs : st.length ≤ 7) : Xp zt L (g, ρ) k ((.invokestatic i, [k2, 1, 0]) :: c) ls (v0 :: st) X Q ↔ XpM zt L (g, ρ) k2 [v0] X (fun v X => Xp zt L (g, ρ) k c ls (v.toList ++ st) X Q) := xp_cl rfl (show pureB (.invokestatic i, [k2, 1, 0]) = true from decide_eq_true hk) (by show (if 1000 ≤ k2 then _ else cal _ _ _) = _; rw [if_neg (show ¬ 1000 ≤ k2 by omega)]; simp only [cal]; rw [if_pos ⟨by simp only [List.length_cons]; omega, by simp only [List.length_cons]; omega, rfl⟩]; rfl)
theorem xp_cs2 {i k2 : Nat} {v0 v1 : AV} (hk : k2 < 1000) (hs : st.length ≤ 7) : Xp zt L (g, ρ) k ((.invokestatic i, [k2, 2, 0]) :: c) ls (v1 :: v0 :: st) X Q ↔ XpM zt L (g, ρ) k2 [v0, v1] X (fun v X => Xp zt L (g, ρ) k c ls (v.toList ++ st) X Q) := xp_cl rfl (show pureB (.invokestatic i, [k2, 2, 0]) = true from decide_eq_true hk) (by show (if 1000 ≤ k2 then _ else cal _ _ _) = _; rw [if_neg (show ¬ 1000 ≤ k2 by omega)]; simp only [cal]; rw [if_pos ⟨by simp only [List.length_cons]; omega, by simp only [List.length_cons]; omega, rfl⟩]; rfl)
theorem xp_cs3 {i k2 : Nat} {v0 v1 v2 : AV} (hk : k2 < 1000) (hs : st.length ≤ 7) : Xp zt L (g, ρ) k ((.invokestatic i, [k2, 3, 0]) :: c) ls (v2 :: v1 :: v0 :: st) X Q ↔ XpM zt L (g, ρ) k2 [v0, v1, v2] X (fun v X => Xp zt L (g, ρ) k c ls (v.toList ++ st) X Q) := xp_cl rfl (show pureB (.invokestatic i, [k2, 3, 0]) = true from decide_eq_true hk) (by show (if 1000 ≤ k2 then _ else cal _ _ _) = _; rw [if_neg (show ¬ 1000 ≤ k2 by omega)]; simp only [cal]; rw [if_pos ⟨by simp only [List.length_cons]; omega, by simp only [List.length_cons]; omega, rfl⟩]; rfl)
theorem xv_undo {i : Nat} (hs : st.length ≤ 7) : Xp zt L (g, ρ) k ((.invokevirtual i, [63, 1, 15]) :: c) ls (.inr (some L) :: st) X Q ↔ Xp zt L (g, ρ) k c ls (.inl (sUndo X).1 :: st) (sUndo X).2 Q := by
  have he : calX L 63 [AR L] X = some (sUndo X) := by
    show (if L = L then cal0 63 X else none) = _
    rw [if_pos rfl]
    rfl
  exact xp_vt ⟨by simp only [List.length_cons]; omega, by simp only [List.length_cons]; omega⟩ he
theorem xv_load {i : Nat} (hs : st.length ≤ 7) : Xp zt L (g, ρ) k ((.invokevirtual i, [65, 1, 15]) :: c) ls (.inr (some L) :: st) X Q ↔ Xp zt L (g, ρ) k c ls (.inl (sLoad X).1 :: st) (sLoad X).2 Q := by
  have he : calX L 65 [AR L] X = some (sLoad X) := by
    show (if L = L then cal0 65 X else none) = _
    rw [if_pos rfl]
    rfl
  exact xp_vt ⟨by simp only [List.length_cons]; omega, by simp only [List.length_cons]; omega⟩ he
theorem xv_finish {i : Nat} (hs : st.length ≤ 7) : Xp zt L (g, ρ) k ((.invokevirtual i, [59, 1, 15]) :: c) ls (.inr (some L) :: st) X Q ↔ Xp zt L (g, ρ) k c ls (.inl (sFinish X).1 :: st) (sFinish X).2 Q := by
  have he : calX L 59 [AR L] X = some (sFinish X) := by
    show (if L = L then cal0 59 X else none) = _
    rw [if_pos rfl]
    rfl
  exact xp_vt ⟨by simp only [List.length_cons]; omega, by simp only [List.length_cons]; omega⟩ he
theorem xv_drawnSum {i : Nat} (hs : st.length ≤ 7) : Xp zt L (g, ρ) k ((.invokevirtual i, [78, 1, 15]) :: c) ls (.inr (some L) :: st) X Q ↔ Xp zt L (g, ρ) k c ls (.inl (sDrawnSum X) :: st) X Q := by
  have he : calX L 78 [AR L] X = some (sDrawnSum X, X) := by
    show (if L = L then cal0 78 X else none) = _
    rw [if_pos rfl]
    rfl
  exact xp_vt ⟨by simp only [List.length_cons]; omega, by simp only [List.length_cons]; omega⟩ he
theorem xv_count {x : Int} {i : Nat} (hs : st.length ≤ 7) : Xp zt L (g, ρ) k ((.invokevirtual i, [66, 2, 15]) :: c) ls (.inl x :: .inr (some L) :: st) X Q ↔ ((-2147483648 ≤ x ∧ x < 2147483648)) ∧ Xp zt L (g, ρ) k c ls (.inl (sCount x X) :: st) X Q := by
  by_cases hr : rng x
  · have he : calX L 66 [AR L, AI x] X = some (sCount x X, X) := by
      show (if L = L ∧ rng x then cal1 66 x X else none) = _
      rw [if_pos ⟨rfl, hr⟩]
      rfl
    have e := xp_vt (zt := zt) (σ0 := (g, ρ)) (k := k) (c := c) (ls := ls) (Q := Q) (i := i) (k' := 66) (na := 2) (st := (.inl x :: .inr (some L) :: st)) ⟨by simp only [List.length_cons]; omega, by simp only [List.length_cons]; omega⟩ he
    exact ⟨fun q => ⟨hr, e.mp q⟩, fun q => e.mpr q.2⟩
  · have he : calX L 66 [AR L, AI x] X = none := if_neg (fun q => hr q.2)
    exact ⟨fun q => absurd q (xp_vn (st := (.inl x :: .inr (some L) :: st)) he), fun q => absurd q.1 hr⟩
theorem xv_number {x : Int} {i : Nat} (hs : st.length ≤ 7) : Xp zt L (g, ρ) k ((.invokevirtual i, [70, 2, 15]) :: c) ls (.inl x :: .inr (some L) :: st) X Q ↔ ((-2147483648 ≤ x ∧ x < 2147483648)) ∧ Xp zt L (g, ρ) k c ls (.inl (sNumber x X) :: st) X Q := by
  by_cases hr : rng x
  · have he : calX L 70 [AR L, AI x] X = some (sNumber x X, X) := by
      show (if L = L ∧ rng x then cal1 70 x X else none) = _
      rw [if_pos ⟨rfl, hr⟩]
      rfl
    have e := xp_vt (zt := zt) (σ0 := (g, ρ)) (k := k) (c := c) (ls := ls) (Q := Q) (i := i) (k' := 70) (na := 2) (st := (.inl x :: .inr (some L) :: st)) ⟨by simp only [List.length_cons]; omega, by simp only [List.length_cons]; omega⟩ he
    exact ⟨fun q => ⟨hr, e.mp q⟩, fun q => e.mpr q.2⟩
  · have he : calX L 70 [AR L, AI x] X = none := if_neg (fun q => hr q.2)
    exact ⟨fun q => absurd q (xp_vn (st := (.inl x :: .inr (some L) :: st)) he), fun q => absurd q.1 hr⟩
theorem xv_least {x : Int} {i : Nat} (hs : st.length ≤ 7) : Xp zt L (g, ρ) k ((.invokevirtual i, [74, 2, 15]) :: c) ls (.inl x :: .inr (some L) :: st) X Q ↔ ((-2147483648 ≤ x ∧ x < 2147483648)) ∧ Xp zt L (g, ρ) k c ls (.inl (sLeast x X) :: st) X Q := by
  by_cases hr : rng x
  · have he : calX L 74 [AR L, AI x] X = some (sLeast x X, X) := by
      show (if L = L ∧ rng x then cal1 74 x X else none) = _
      rw [if_pos ⟨rfl, hr⟩]
      rfl
    have e := xp_vt (zt := zt) (σ0 := (g, ρ)) (k := k) (c := c) (ls := ls) (Q := Q) (i := i) (k' := 74) (na := 2) (st := (.inl x :: .inr (some L) :: st)) ⟨by simp only [List.length_cons]; omega, by simp only [List.length_cons]; omega⟩ he
    exact ⟨fun q => ⟨hr, e.mp q⟩, fun q => e.mpr q.2⟩
  · have he : calX L 74 [AR L, AI x] X = none := if_neg (fun q => hr q.2)
    exact ⟨fun q => absurd q (xp_vn (st := (.inl x :: .inr (some L) :: st)) he), fun q => absurd q.1 hr⟩
theorem xv_why {x : Int} {i : Nat} (hs : st.length ≤ 7) : Xp zt L (g, ρ) k ((.invokevirtual i, [76, 2, 15]) :: c) ls (.inl x :: .inr (some L) :: st) X Q ↔ ((-2147483648 ≤ x ∧ x < 2147483648)) ∧ Xp zt L (g, ρ) k c ls (.inl (sWhy x X) :: st) X Q := by
  by_cases hr : rng x
  · have he : calX L 76 [AR L, AI x] X = some (sWhy x X, X) := by
      show (if L = L ∧ rng x then cal1 76 x X else none) = _
      rw [if_pos ⟨rfl, hr⟩]
      rfl
    have e := xp_vt (zt := zt) (σ0 := (g, ρ)) (k := k) (c := c) (ls := ls) (Q := Q) (i := i) (k' := 76) (na := 2) (st := (.inl x :: .inr (some L) :: st)) ⟨by simp only [List.length_cons]; omega, by simp only [List.length_cons]; omega⟩ he
    exact ⟨fun q => ⟨hr, e.mp q⟩, fun q => e.mpr q.2⟩
  · have he : calX L 76 [AR L, AI x] X = none := if_neg (fun q => hr q.2)
    exact ⟨fun q => absurd q (xp_vn (st := (.inl x :: .inr (some L) :: st)) he), fun q => absurd q.1 hr⟩
theorem xv_fault {x : Int} {i : Nat} (hs : st.length ≤ 7) : Xp zt L (g, ρ) k ((.invokevirtual i, [77, 2, 15]) :: c) ls (.inl x :: .inr (some L) :: st) X Q ↔ ((-2147483648 ≤ x ∧ x < 2147483648)) ∧ Xp zt L (g, ρ) k c ls (.inl (sFault x X) :: st) X Q := by
  by_cases hr : rng x
  · have he : calX L 77 [AR L, AI x] X = some (sFault x X, X) := by
      show (if L = L ∧ rng x then cal1 77 x X else none) = _
      rw [if_pos ⟨rfl, hr⟩]
      rfl
    have e := xp_vt (zt := zt) (σ0 := (g, ρ)) (k := k) (c := c) (ls := ls) (Q := Q) (i := i) (k' := 77) (na := 2) (st := (.inl x :: .inr (some L) :: st)) ⟨by simp only [List.length_cons]; omega, by simp only [List.length_cons]; omega⟩ he
    exact ⟨fun q => ⟨hr, e.mp q⟩, fun q => e.mpr q.2⟩
  · have he : calX L 77 [AR L, AI x] X = none := if_neg (fun q => hr q.2)
    exact ⟨fun q => absurd q (xp_vn (st := (.inl x :: .inr (some L) :: st)) he), fun q => absurd q.1 hr⟩
theorem xv_speedFor {x : Int} {i : Nat} (hs : st.length ≤ 7) : Xp zt L (g, ρ) k ((.invokevirtual i, [79, 2, 15]) :: c) ls (.inl x :: .inr (some L) :: st) X Q ↔ ((-2147483648 ≤ x ∧ x < 2147483648)) ∧ Xp zt L (g, ρ) k c ls (.inl (sSpeedFor x X) :: st) X Q := by
  by_cases hr : rng x
  · have he : calX L 79 [AR L, AI x] X = some (sSpeedFor x X, X) := by
      show (if L = L ∧ rng x then cal1 79 x X else none) = _
      rw [if_pos ⟨rfl, hr⟩]
      rfl
    have e := xp_vt (zt := zt) (σ0 := (g, ρ)) (k := k) (c := c) (ls := ls) (Q := Q) (i := i) (k' := 79) (na := 2) (st := (.inl x :: .inr (some L) :: st)) ⟨by simp only [List.length_cons]; omega, by simp only [List.length_cons]; omega⟩ he
    exact ⟨fun q => ⟨hr, e.mp q⟩, fun q => e.mpr q.2⟩
  · have he : calX L 79 [AR L, AI x] X = none := if_neg (fun q => hr q.2)
    exact ⟨fun q => absurd q (xp_vn (st := (.inl x :: .inr (some L) :: st)) he), fun q => absurd q.1 hr⟩
theorem xv_remove {x : Int} {i : Nat} (hs : st.length ≤ 7) : Xp zt L (g, ρ) k ((.invokevirtual i, [54, 2, 15]) :: c) ls (.inl x :: .inr (some L) :: st) X Q ↔ ((-2147483648 ≤ x ∧ x < 2147483648)) ∧ Xp zt L (g, ρ) k c ls (.inl (sRemove x X).1 :: st) (sRemove x X).2 Q := by
  by_cases hr : rng x
  · have he : calX L 54 [AR L, AI x] X = some (sRemove x X) := by
      show (if L = L ∧ rng x then cal1 54 x X else none) = _
      rw [if_pos ⟨rfl, hr⟩]
      rfl
    have e := xp_vt (zt := zt) (σ0 := (g, ρ)) (k := k) (c := c) (ls := ls) (Q := Q) (i := i) (k' := 54) (na := 2) (st := (.inl x :: .inr (some L) :: st)) ⟨by simp only [List.length_cons]; omega, by simp only [List.length_cons]; omega⟩ he
    exact ⟨fun q => ⟨hr, e.mp q⟩, fun q => e.mpr q.2⟩
  · have he : calX L 54 [AR L, AI x] X = none := if_neg (fun q => hr q.2)
    exact ⟨fun q => absurd q (xp_vn (st := (.inl x :: .inr (some L) :: st)) he), fun q => absurd q.1 hr⟩
theorem xv_breathe {x : Int} {i : Nat} (hs : st.length ≤ 7) : Xp zt L (g, ρ) k ((.invokevirtual i, [60, 2, 15]) :: c) ls (.inl x :: .inr (some L) :: st) X Q ↔ ((-2147483648 ≤ x ∧ x < 2147483648)) ∧ Xp zt L (g, ρ) k c ls (.inl (sBreathe x X).1 :: st) (sBreathe x X).2 Q := by
  by_cases hr : rng x
  · have he : calX L 60 [AR L, AI x] X = some (sBreathe x X) := by
      show (if L = L ∧ rng x then cal1 60 x X else none) = _
      rw [if_pos ⟨rfl, hr⟩]
      rfl
    have e := xp_vt (zt := zt) (σ0 := (g, ρ)) (k := k) (c := c) (ls := ls) (Q := Q) (i := i) (k' := 60) (na := 2) (st := (.inl x :: .inr (some L) :: st)) ⟨by simp only [List.length_cons]; omega, by simp only [List.length_cons]; omega⟩ he
    exact ⟨fun q => ⟨hr, e.mp q⟩, fun q => e.mpr q.2⟩
  · have he : calX L 60 [AR L, AI x] X = none := if_neg (fun q => hr q.2)
    exact ⟨fun q => absurd q (xp_vn (st := (.inl x :: .inr (some L) :: st)) he), fun q => absurd q.1 hr⟩
theorem xv_take {x : Int} {i : Nat} (hs : st.length ≤ 7) : Xp zt L (g, ρ) k ((.invokevirtual i, [61, 2, 15]) :: c) ls (.inl x :: .inr (some L) :: st) X Q ↔ ((-2147483648 ≤ x ∧ x < 2147483648)) ∧ Xp zt L (g, ρ) k c ls (.inl (sTake x X).1 :: st) (sTake x X).2 Q := by
  by_cases hr : rng x
  · have he : calX L 61 [AR L, AI x] X = some (sTake x X) := by
      show (if L = L ∧ rng x then cal1 61 x X else none) = _
      rw [if_pos ⟨rfl, hr⟩]
      rfl
    have e := xp_vt (zt := zt) (σ0 := (g, ρ)) (k := k) (c := c) (ls := ls) (Q := Q) (i := i) (k' := 61) (na := 2) (st := (.inl x :: .inr (some L) :: st)) ⟨by simp only [List.length_cons]; omega, by simp only [List.length_cons]; omega⟩ he
    exact ⟨fun q => ⟨hr, e.mp q⟩, fun q => e.mpr q.2⟩
  · have he : calX L 61 [AR L, AI x] X = none := if_neg (fun q => hr q.2)
    exact ⟨fun q => absurd q (xp_vn (st := (.inl x :: .inr (some L) :: st)) he), fun q => absurd q.1 hr⟩
theorem xv_restore {x : Int} {i : Nat} (hs : st.length ≤ 7) : Xp zt L (g, ρ) k ((.invokevirtual i, [62, 2, 15]) :: c) ls (.inl x :: .inr (some L) :: st) X Q ↔ ((-2147483648 ≤ x ∧ x < 2147483648)) ∧ Xp zt L (g, ρ) k c ls (.inl (sRestore x X).1 :: st) (sRestore x X).2 Q := by
  by_cases hr : rng x
  · have he : calX L 62 [AR L, AI x] X = some (sRestore x X) := by
      show (if L = L ∧ rng x then cal1 62 x X else none) = _
      rw [if_pos ⟨rfl, hr⟩]
      rfl
    have e := xp_vt (zt := zt) (σ0 := (g, ρ)) (k := k) (c := c) (ls := ls) (Q := Q) (i := i) (k' := 62) (na := 2) (st := (.inl x :: .inr (some L) :: st)) ⟨by simp only [List.length_cons]; omega, by simp only [List.length_cons]; omega⟩ he
    exact ⟨fun q => ⟨hr, e.mp q⟩, fun q => e.mpr q.2⟩
  · have he : calX L 62 [AR L, AI x] X = none := if_neg (fun q => hr q.2)
    exact ⟨fun q => absurd q (xp_vn (st := (.inl x :: .inr (some L) :: st)) he), fun q => absurd q.1 hr⟩
theorem xv_append {x : Int} {i : Nat} (hs : st.length ≤ 7) : Xp zt L (g, ρ) k ((.invokevirtual i, [64, 2, 15]) :: c) ls (.inl x :: .inr (some L) :: st) X Q ↔ ((-2147483648 ≤ x ∧ x < 2147483648)) ∧ Xp zt L (g, ρ) k c ls (.inl (sAppend x X).1 :: st) (sAppend x X).2 Q := by
  by_cases hr : rng x
  · have he : calX L 64 [AR L, AI x] X = some (sAppend x X) := by
      show (if L = L ∧ rng x then cal1 64 x X else none) = _
      rw [if_pos ⟨rfl, hr⟩]
      rfl
    have e := xp_vt (zt := zt) (σ0 := (g, ρ)) (k := k) (c := c) (ls := ls) (Q := Q) (i := i) (k' := 64) (na := 2) (st := (.inl x :: .inr (some L) :: st)) ⟨by simp only [List.length_cons]; omega, by simp only [List.length_cons]; omega⟩ he
    exact ⟨fun q => ⟨hr, e.mp q⟩, fun q => e.mpr q.2⟩
  · have he : calX L 64 [AR L, AI x] X = none := if_neg (fun q => hr q.2)
    exact ⟨fun q => absurd q (xp_vn (st := (.inl x :: .inr (some L) :: st)) he), fun q => absurd q.1 hr⟩
theorem xv_mouth {x y : Int} {i : Nat} (hs : st.length ≤ 7) : Xp zt L (g, ρ) k ((.invokevirtual i, [67, 3, 15]) :: c) ls (.inl y :: .inl x :: .inr (some L) :: st) X Q ↔ ((-2147483648 ≤ x ∧ x < 2147483648) ∧ (-2147483648 ≤ y ∧ y < 2147483648)) ∧ Xp zt L (g, ρ) k c ls (.inl (sMouth x y X) :: st) X Q := by
  by_cases hr : rng x ∧ rng y
  · have he : calX L 67 [AR L, AI x, AI y] X = some (sMouth x y X, X) := by
      show (if L = L ∧ rng x ∧ rng y then cal2 67 x y X else none) = _
      rw [if_pos ⟨rfl, hr⟩]
      rfl
    have e := xp_vt (zt := zt) (σ0 := (g, ρ)) (k := k) (c := c) (ls := ls) (Q := Q) (i := i) (k' := 67) (na := 3) (st := (.inl y :: .inl x :: .inr (some L) :: st)) ⟨by simp only [List.length_cons]; omega, by simp only [List.length_cons]; omega⟩ he
    exact ⟨fun q => ⟨hr, e.mp q⟩, fun q => e.mpr q.2⟩
  · have he : calX L 67 [AR L, AI x, AI y] X = none := if_neg (fun q => hr q.2)
    exact ⟨fun q => absurd q (xp_vn (st := (.inl y :: .inl x :: .inr (some L) :: st)) he), fun q => absurd q.1 hr⟩
theorem xv_jump {x y : Int} {i : Nat} (hs : st.length ≤ 7) : Xp zt L (g, ρ) k ((.invokevirtual i, [68, 3, 15]) :: c) ls (.inl y :: .inl x :: .inr (some L) :: st) X Q ↔ ((-2147483648 ≤ x ∧ x < 2147483648) ∧ (-2147483648 ≤ y ∧ y < 2147483648)) ∧ Xp zt L (g, ρ) k c ls (.inl (sJump x y X) :: st) X Q := by
  by_cases hr : rng x ∧ rng y
  · have he : calX L 68 [AR L, AI x, AI y] X = some (sJump x y X, X) := by
      show (if L = L ∧ rng x ∧ rng y then cal2 68 x y X else none) = _
      rw [if_pos ⟨rfl, hr⟩]
      rfl
    have e := xp_vt (zt := zt) (σ0 := (g, ρ)) (k := k) (c := c) (ls := ls) (Q := Q) (i := i) (k' := 68) (na := 3) (st := (.inl y :: .inl x :: .inr (some L) :: st)) ⟨by simp only [List.length_cons]; omega, by simp only [List.length_cons]; omega⟩ he
    exact ⟨fun q => ⟨hr, e.mp q⟩, fun q => e.mpr q.2⟩
  · have he : calX L 68 [AR L, AI x, AI y] X = none := if_neg (fun q => hr q.2)
    exact ⟨fun q => absurd q (xp_vn (st := (.inl y :: .inl x :: .inr (some L) :: st)) he), fun q => absurd q.1 hr⟩
theorem xv_sound {x y : Int} {i : Nat} (hs : st.length ≤ 7) : Xp zt L (g, ρ) k ((.invokevirtual i, [69, 3, 15]) :: c) ls (.inl y :: .inl x :: .inr (some L) :: st) X Q ↔ ((-2147483648 ≤ x ∧ x < 2147483648) ∧ (-2147483648 ≤ y ∧ y < 2147483648)) ∧ Xp zt L (g, ρ) k c ls (.inl (sSound x y X) :: st) X Q := by
  by_cases hr : rng x ∧ rng y
  · have he : calX L 69 [AR L, AI x, AI y] X = some (sSound x y X, X) := by
      show (if L = L ∧ rng x ∧ rng y then cal2 69 x y X else none) = _
      rw [if_pos ⟨rfl, hr⟩]
      rfl
    have e := xp_vt (zt := zt) (σ0 := (g, ρ)) (k := k) (c := c) (ls := ls) (Q := Q) (i := i) (k' := 69) (na := 3) (st := (.inl y :: .inl x :: .inr (some L) :: st)) ⟨by simp only [List.length_cons]; omega, by simp only [List.length_cons]; omega⟩ he
    exact ⟨fun q => ⟨hr, e.mp q⟩, fun q => e.mpr q.2⟩
  · have he : calX L 69 [AR L, AI x, AI y] X = none := if_neg (fun q => hr q.2)
    exact ⟨fun q => absurd q (xp_vn (st := (.inl y :: .inl x :: .inr (some L) :: st)) he), fun q => absurd q.1 hr⟩
theorem xv_segment {x y : Int} {i : Nat} (hs : st.length ≤ 7) : Xp zt L (g, ρ) k ((.invokevirtual i, [71, 3, 15]) :: c) ls (.inl y :: .inl x :: .inr (some L) :: st) X Q ↔ ((-2147483648 ≤ x ∧ x < 2147483648) ∧ (-2147483648 ≤ y ∧ y < 2147483648)) ∧ Xp zt L (g, ρ) k c ls (.inl (sSegment x y X) :: st) X Q := by
  by_cases hr : rng x ∧ rng y
  · have he : calX L 71 [AR L, AI x, AI y] X = some (sSegment x y X, X) := by
      show (if L = L ∧ rng x ∧ rng y then cal2 71 x y X else none) = _
      rw [if_pos ⟨rfl, hr⟩]
      rfl
    have e := xp_vt (zt := zt) (σ0 := (g, ρ)) (k := k) (c := c) (ls := ls) (Q := Q) (i := i) (k' := 71) (na := 3) (st := (.inl y :: .inl x :: .inr (some L) :: st)) ⟨by simp only [List.length_cons]; omega, by simp only [List.length_cons]; omega⟩ he
    exact ⟨fun q => ⟨hr, e.mp q⟩, fun q => e.mpr q.2⟩
  · have he : calX L 71 [AR L, AI x, AI y] X = none := if_neg (fun q => hr q.2)
    exact ⟨fun q => absurd q (xp_vn (st := (.inl y :: .inl x :: .inr (some L) :: st)) he), fun q => absurd q.1 hr⟩
theorem xv_frame {x y : Int} {i : Nat} (hs : st.length ≤ 7) : Xp zt L (g, ρ) k ((.invokevirtual i, [72, 3, 15]) :: c) ls (.inl y :: .inl x :: .inr (some L) :: st) X Q ↔ ((-2147483648 ≤ x ∧ x < 2147483648) ∧ (-2147483648 ≤ y ∧ y < 2147483648)) ∧ Xp zt L (g, ρ) k c ls (.inl (sFrame x y X) :: st) X Q := by
  by_cases hr : rng x ∧ rng y
  · have he : calX L 72 [AR L, AI x, AI y] X = some (sFrame x y X, X) := by
      show (if L = L ∧ rng x ∧ rng y then cal2 72 x y X else none) = _
      rw [if_pos ⟨rfl, hr⟩]
      rfl
    have e := xp_vt (zt := zt) (σ0 := (g, ρ)) (k := k) (c := c) (ls := ls) (Q := Q) (i := i) (k' := 72) (na := 3) (st := (.inl y :: .inl x :: .inr (some L) :: st)) ⟨by simp only [List.length_cons]; omega, by simp only [List.length_cons]; omega⟩ he
    exact ⟨fun q => ⟨hr, e.mp q⟩, fun q => e.mpr q.2⟩
  · have he : calX L 72 [AR L, AI x, AI y] X = none := if_neg (fun q => hr q.2)
    exact ⟨fun q => absurd q (xp_vn (st := (.inl y :: .inl x :: .inr (some L) :: st)) he), fun q => absurd q.1 hr⟩
theorem xv_wrongness {x y : Int} {i : Nat} (hs : st.length ≤ 7) : Xp zt L (g, ρ) k ((.invokevirtual i, [73, 3, 15]) :: c) ls (.inl y :: .inl x :: .inr (some L) :: st) X Q ↔ ((-2147483648 ≤ x ∧ x < 2147483648) ∧ (-2147483648 ≤ y ∧ y < 2147483648)) ∧ Xp zt L (g, ρ) k c ls (.inl (sWrong x y X) :: st) X Q := by
  by_cases hr : rng x ∧ rng y
  · have he : calX L 73 [AR L, AI x, AI y] X = some (sWrong x y X, X) := by
      show (if L = L ∧ rng x ∧ rng y then cal2 73 x y X else none) = _
      rw [if_pos ⟨rfl, hr⟩]
      rfl
    have e := xp_vt (zt := zt) (σ0 := (g, ρ)) (k := k) (c := c) (ls := ls) (Q := Q) (i := i) (k' := 73) (na := 3) (st := (.inl y :: .inl x :: .inr (some L) :: st)) ⟨by simp only [List.length_cons]; omega, by simp only [List.length_cons]; omega⟩ he
    exact ⟨fun q => ⟨hr, e.mp q⟩, fun q => e.mpr q.2⟩
  · have he : calX L 73 [AR L, AI x, AI y] X = none := if_neg (fun q => hr q.2)
    exact ⟨fun q => absurd q (xp_vn (st := (.inl y :: .inl x :: .inr (some L) :: st)) he), fun q => absurd q.1 hr⟩
theorem xv_leastWith {x y : Int} {i : Nat} (hs : st.length ≤ 7) : Xp zt L (g, ρ) k ((.invokevirtual i, [75, 3, 15]) :: c) ls (.inl y :: .inl x :: .inr (some L) :: st) X Q ↔ ((-2147483648 ≤ x ∧ x < 2147483648) ∧ (-2147483648 ≤ y ∧ y < 2147483648)) ∧ Xp zt L (g, ρ) k c ls (.inl (sLeastWith x y X) :: st) X Q := by
  by_cases hr : rng x ∧ rng y
  · have he : calX L 75 [AR L, AI x, AI y] X = some (sLeastWith x y X, X) := by
      show (if L = L ∧ rng x ∧ rng y then cal2 75 x y X else none) = _
      rw [if_pos ⟨rfl, hr⟩]
      rfl
    have e := xp_vt (zt := zt) (σ0 := (g, ρ)) (k := k) (c := c) (ls := ls) (Q := Q) (i := i) (k' := 75) (na := 3) (st := (.inl y :: .inl x :: .inr (some L) :: st)) ⟨by simp only [List.length_cons]; omega, by simp only [List.length_cons]; omega⟩ he
    exact ⟨fun q => ⟨hr, e.mp q⟩, fun q => e.mpr q.2⟩
  · have he : calX L 75 [AR L, AI x, AI y] X = none := if_neg (fun q => hr q.2)
    exact ⟨fun q => absurd q (xp_vn (st := (.inl y :: .inl x :: .inr (some L) :: st)) he), fun q => absurd q.1 hr⟩
theorem xv_nearest {x y : Int} {i : Nat} (hs : st.length ≤ 7) : Xp zt L (g, ρ) k ((.invokevirtual i, [80, 3, 15]) :: c) ls (.inl y :: .inl x :: .inr (some L) :: st) X Q ↔ ((-2147483648 ≤ x ∧ x < 2147483648) ∧ (-2147483648 ≤ y ∧ y < 2147483648)) ∧ Xp zt L (g, ρ) k c ls (.inl (sNearest x y X) :: st) X Q := by
  by_cases hr : rng x ∧ rng y
  · have he : calX L 80 [AR L, AI x, AI y] X = some (sNearest x y X, X) := by
      show (if L = L ∧ rng x ∧ rng y then cal2 80 x y X else none) = _
      rw [if_pos ⟨rfl, hr⟩]
      rfl
    have e := xp_vt (zt := zt) (σ0 := (g, ρ)) (k := k) (c := c) (ls := ls) (Q := Q) (i := i) (k' := 80) (na := 3) (st := (.inl y :: .inl x :: .inr (some L) :: st)) ⟨by simp only [List.length_cons]; omega, by simp only [List.length_cons]; omega⟩ he
    exact ⟨fun q => ⟨hr, e.mp q⟩, fun q => e.mpr q.2⟩
  · have he : calX L 80 [AR L, AI x, AI y] X = none := if_neg (fun q => hr q.2)
    exact ⟨fun q => absurd q (xp_vn (st := (.inl y :: .inl x :: .inr (some L) :: st)) he), fun q => absurd q.1 hr⟩
theorem xv_addMouth {x y : Int} {i : Nat} (hs : st.length ≤ 7) : Xp zt L (g, ρ) k ((.invokevirtual i, [49, 3, 15]) :: c) ls (.inl y :: .inl x :: .inr (some L) :: st) X Q ↔ ((-2147483648 ≤ x ∧ x < 2147483648) ∧ (-2147483648 ≤ y ∧ y < 2147483648)) ∧ Xp zt L (g, ρ) k c ls (.inl (sAddMouth x y X).1 :: st) (sAddMouth x y X).2 Q := by
  by_cases hr : rng x ∧ rng y
  · have he : calX L 49 [AR L, AI x, AI y] X = some (sAddMouth x y X) := by
      show (if L = L ∧ rng x ∧ rng y then cal2 49 x y X else none) = _
      rw [if_pos ⟨rfl, hr⟩]
      rfl
    have e := xp_vt (zt := zt) (σ0 := (g, ρ)) (k := k) (c := c) (ls := ls) (Q := Q) (i := i) (k' := 49) (na := 3) (st := (.inl y :: .inl x :: .inr (some L) :: st)) ⟨by simp only [List.length_cons]; omega, by simp only [List.length_cons]; omega⟩ he
    exact ⟨fun q => ⟨hr, e.mp q⟩, fun q => e.mpr q.2⟩
  · have he : calX L 49 [AR L, AI x, AI y] X = none := if_neg (fun q => hr q.2)
    exact ⟨fun q => absurd q (xp_vn (st := (.inl y :: .inl x :: .inr (some L) :: st)) he), fun q => absurd q.1 hr⟩
theorem xv_pin {x y : Int} {i : Nat} (hs : st.length ≤ 7) : Xp zt L (g, ρ) k ((.invokevirtual i, [56, 3, 15]) :: c) ls (.inl y :: .inl x :: .inr (some L) :: st) X Q ↔ ((-2147483648 ≤ x ∧ x < 2147483648) ∧ (-2147483648 ≤ y ∧ y < 2147483648)) ∧ Xp zt L (g, ρ) k c ls (.inl (sPut 9 x y X).1 :: st) (sPut 9 x y X).2 Q := by
  by_cases hr : rng x ∧ rng y
  · have he : calX L 56 [AR L, AI x, AI y] X = some (sPut 9 x y X) := by
      show (if L = L ∧ rng x ∧ rng y then cal2 56 x y X else none) = _
      rw [if_pos ⟨rfl, hr⟩]
      rfl
    have e := xp_vt (zt := zt) (σ0 := (g, ρ)) (k := k) (c := c) (ls := ls) (Q := Q) (i := i) (k' := 56) (na := 3) (st := (.inl y :: .inl x :: .inr (some L) :: st)) ⟨by simp only [List.length_cons]; omega, by simp only [List.length_cons]; omega⟩ he
    exact ⟨fun q => ⟨hr, e.mp q⟩, fun q => e.mpr q.2⟩
  · have he : calX L 56 [AR L, AI x, AI y] X = none := if_neg (fun q => hr q.2)
    exact ⟨fun q => absurd q (xp_vn (st := (.inl y :: .inl x :: .inr (some L) :: st)) he), fun q => absurd q.1 hr⟩
theorem xv_draw {x y : Int} {i : Nat} (hs : st.length ≤ 7) : Xp zt L (g, ρ) k ((.invokevirtual i, [57, 3, 15]) :: c) ls (.inl y :: .inl x :: .inr (some L) :: st) X Q ↔ ((-2147483648 ≤ x ∧ x < 2147483648) ∧ (-2147483648 ≤ y ∧ y < 2147483648)) ∧ Xp zt L (g, ρ) k c ls (.inl (sPut 10 x y X).1 :: st) (sPut 10 x y X).2 Q := by
  by_cases hr : rng x ∧ rng y
  · have he : calX L 57 [AR L, AI x, AI y] X = some (sPut 10 x y X) := by
      show (if L = L ∧ rng x ∧ rng y then cal2 57 x y X else none) = _
      rw [if_pos ⟨rfl, hr⟩]
      rfl
    have e := xp_vt (zt := zt) (σ0 := (g, ρ)) (k := k) (c := c) (ls := ls) (Q := Q) (i := i) (k' := 57) (na := 3) (st := (.inl y :: .inl x :: .inr (some L) :: st)) ⟨by simp only [List.length_cons]; omega, by simp only [List.length_cons]; omega⟩ he
    exact ⟨fun q => ⟨hr, e.mp q⟩, fun q => e.mpr q.2⟩
  · have he : calX L 57 [AR L, AI x, AI y] X = none := if_neg (fun q => hr q.2)
    exact ⟨fun q => absurd q (xp_vn (st := (.inl y :: .inl x :: .inr (some L) :: st)) he), fun q => absurd q.1 hr⟩
theorem xv_between {x y : Int} {i : Nat} (hs : st.length ≤ 7) : Xp zt L (g, ρ) k ((.invokevirtual i, [58, 3, 15]) :: c) ls (.inl y :: .inl x :: .inr (some L) :: st) X Q ↔ ((-2147483648 ≤ x ∧ x < 2147483648) ∧ (-2147483648 ≤ y ∧ y < 2147483648)) ∧ Xp zt L (g, ρ) k c ls (.inl (sBetween x y X).1 :: st) (sBetween x y X).2 Q := by
  by_cases hr : rng x ∧ rng y
  · have he : calX L 58 [AR L, AI x, AI y] X = some (sBetween x y X) := by
      show (if L = L ∧ rng x ∧ rng y then cal2 58 x y X else none) = _
      rw [if_pos ⟨rfl, hr⟩]
      rfl
    have e := xp_vt (zt := zt) (σ0 := (g, ρ)) (k := k) (c := c) (ls := ls) (Q := Q) (i := i) (k' := 58) (na := 3) (st := (.inl y :: .inl x :: .inr (some L) :: st)) ⟨by simp only [List.length_cons]; omega, by simp only [List.length_cons]; omega⟩ he
    exact ⟨fun q => ⟨hr, e.mp q⟩, fun q => e.mpr q.2⟩
  · have he : calX L 58 [AR L, AI x, AI y] X = none := if_neg (fun q => hr q.2)
    exact ⟨fun q => absurd q (xp_vn (st := (.inl y :: .inl x :: .inr (some L) :: st)) he), fun q => absurd q.1 hr⟩
theorem xv_stretch {x y : Int} {i : Nat} (hs : st.length ≤ 7) : Xp zt L (g, ρ) k ((.invokevirtual i, [55, 3, 15]) :: c) ls (.inl y :: .inl x :: .inr (some L) :: st) X Q ↔ ((-2147483648 ≤ x ∧ x < 2147483648) ∧ (-2147483648 ≤ y ∧ y < 2147483648)) ∧ Xp zt L (g, ρ) k c ls (.inl (sStretch x y X).1 :: st) (sStretch x y X).2 Q := by
  by_cases hr : rng x ∧ rng y
  · have he : calX L 55 [AR L, AI x, AI y] X = some (sStretch x y X) := by
      show (if L = L ∧ rng x ∧ rng y then cal2 55 x y X else none) = _
      rw [if_pos ⟨rfl, hr⟩]
      rfl
    have e := xp_vt (zt := zt) (σ0 := (g, ρ)) (k := k) (c := c) (ls := ls) (Q := Q) (i := i) (k' := 55) (na := 3) (st := (.inl y :: .inl x :: .inr (some L) :: st)) ⟨by simp only [List.length_cons]; omega, by simp only [List.length_cons]; omega⟩ he
    exact ⟨fun q => ⟨hr, e.mp q⟩, fun q => e.mpr q.2⟩
  · have he : calX L 55 [AR L, AI x, AI y] X = none := if_neg (fun q => hr q.2)
    exact ⟨fun q => absurd q (xp_vn (st := (.inl y :: .inl x :: .inr (some L) :: st)) he), fun q => absurd q.1 hr⟩
theorem xv_setNumber {x y : Int} {i : Nat} (hs : st.length ≤ 7) : Xp zt L (g, ρ) k ((.invokevirtual i, [52, 3, 15]) :: c) ls (.inl y :: .inl x :: .inr (some L) :: st) X Q ↔ ((-2147483648 ≤ x ∧ x < 2147483648) ∧ (-2147483648 ≤ y ∧ y < 2147483648)) ∧ Xp zt L (g, ρ) k c ls (.inl (sSetNumber x y X).1 :: st) (sSetNumber x y X).2 Q := by
  by_cases hr : rng x ∧ rng y
  · have he : calX L 52 [AR L, AI x, AI y] X = some (sSetNumber x y X) := by
      show (if L = L ∧ rng x ∧ rng y then cal2 52 x y X else none) = _
      rw [if_pos ⟨rfl, hr⟩]
      rfl
    have e := xp_vt (zt := zt) (σ0 := (g, ρ)) (k := k) (c := c) (ls := ls) (Q := Q) (i := i) (k' := 52) (na := 3) (st := (.inl y :: .inl x :: .inr (some L) :: st)) ⟨by simp only [List.length_cons]; omega, by simp only [List.length_cons]; omega⟩ he
    exact ⟨fun q => ⟨hr, e.mp q⟩, fun q => e.mpr q.2⟩
  · have he : calX L 52 [AR L, AI x, AI y] X = none := if_neg (fun q => hr q.2)
    exact ⟨fun q => absurd q (xp_vn (st := (.inl y :: .inl x :: .inr (some L) :: st)) he), fun q => absurd q.1 hr⟩
theorem xv_setMouth {x y z : Int} {i : Nat} (hs : st.length ≤ 7) : Xp zt L (g, ρ) k ((.invokevirtual i, [50, 4, 15]) :: c) ls (.inl z :: .inl y :: .inl x :: .inr (some L) :: st) X Q ↔ ((-2147483648 ≤ x ∧ x < 2147483648) ∧ (-2147483648 ≤ y ∧ y < 2147483648) ∧ (-2147483648 ≤ z ∧ z < 2147483648)) ∧ Xp zt L (g, ρ) k c ls (.inl (sSetMouth x y z X).1 :: st) (sSetMouth x y z X).2 Q := by
  by_cases hr : rng x ∧ rng y ∧ rng z
  · have he : calX L 50 [AR L, AI x, AI y, AI z] X = some (sSetMouth x y z X) := by
      show (if L = L ∧ rng x ∧ rng y ∧ rng z then cal3 50 x y z X else none) = _
      rw [if_pos ⟨rfl, hr⟩]
      rfl
    have e := xp_vt (zt := zt) (σ0 := (g, ρ)) (k := k) (c := c) (ls := ls) (Q := Q) (i := i) (k' := 50) (na := 4) (st := (.inl z :: .inl y :: .inl x :: .inr (some L) :: st)) ⟨by simp only [List.length_cons]; omega, by simp only [List.length_cons]; omega⟩ he
    exact ⟨fun q => ⟨hr, e.mp q⟩, fun q => e.mpr q.2⟩
  · have he : calX L 50 [AR L, AI x, AI y, AI z] X = none := if_neg (fun q => hr q.2)
    exact ⟨fun q => absurd q (xp_vn (st := (.inl z :: .inl y :: .inl x :: .inr (some L) :: st)) he), fun q => absurd q.1 hr⟩
theorem xv_setSound {x y z : Int} {i : Nat} (hs : st.length ≤ 7) : Xp zt L (g, ρ) k ((.invokevirtual i, [51, 4, 15]) :: c) ls (.inl z :: .inl y :: .inl x :: .inr (some L) :: st) X Q ↔ ((-2147483648 ≤ x ∧ x < 2147483648) ∧ (-2147483648 ≤ y ∧ y < 2147483648) ∧ (-2147483648 ≤ z ∧ z < 2147483648)) ∧ Xp zt L (g, ρ) k c ls (.inl (sSetSound x y z X).1 :: st) (sSetSound x y z X).2 Q := by
  by_cases hr : rng x ∧ rng y ∧ rng z
  · have he : calX L 51 [AR L, AI x, AI y, AI z] X = some (sSetSound x y z X) := by
      show (if L = L ∧ rng x ∧ rng y ∧ rng z then cal3 51 x y z X else none) = _
      rw [if_pos ⟨rfl, hr⟩]
      rfl
    have e := xp_vt (zt := zt) (σ0 := (g, ρ)) (k := k) (c := c) (ls := ls) (Q := Q) (i := i) (k' := 51) (na := 4) (st := (.inl z :: .inl y :: .inl x :: .inr (some L) :: st)) ⟨by simp only [List.length_cons]; omega, by simp only [List.length_cons]; omega⟩ he
    exact ⟨fun q => ⟨hr, e.mp q⟩, fun q => e.mpr q.2⟩
  · have he : calX L 51 [AR L, AI x, AI y, AI z] X = none := if_neg (fun q => hr q.2)
    exact ⟨fun q => absurd q (xp_vn (st := (.inl z :: .inl y :: .inl x :: .inr (some L) :: st)) he), fun q => absurd q.1 hr⟩
theorem xv_insert {x y z : Int} {i : Nat} (hs : st.length ≤ 7) : Xp zt L (g, ρ) k ((.invokevirtual i, [53, 4, 15]) :: c) ls (.inl z :: .inl y :: .inl x :: .inr (some L) :: st) X Q ↔ ((-2147483648 ≤ x ∧ x < 2147483648) ∧ (-2147483648 ≤ y ∧ y < 2147483648) ∧ (-2147483648 ≤ z ∧ z < 2147483648)) ∧ Xp zt L (g, ρ) k c ls (.inl (sInsert x y z X).1 :: st) (sInsert x y z X).2 Q := by
  by_cases hr : rng x ∧ rng y ∧ rng z
  · have he : calX L 53 [AR L, AI x, AI y, AI z] X = some (sInsert x y z X) := by
      show (if L = L ∧ rng x ∧ rng y ∧ rng z then cal3 53 x y z X else none) = _
      rw [if_pos ⟨rfl, hr⟩]
      rfl
    have e := xp_vt (zt := zt) (σ0 := (g, ρ)) (k := k) (c := c) (ls := ls) (Q := Q) (i := i) (k' := 53) (na := 4) (st := (.inl z :: .inl y :: .inl x :: .inr (some L) :: st)) ⟨by simp only [List.length_cons]; omega, by simp only [List.length_cons]; omega⟩ he
    exact ⟨fun q => ⟨hr, e.mp q⟩, fun q => e.mpr q.2⟩
  · have he : calX L 53 [AR L, AI x, AI y, AI z] X = none := if_neg (fun q => hr q.2)
    exact ⟨fun q => absurd q (xp_vn (st := (.inl z :: .inl y :: .inl x :: .inr (some L) :: st)) he), fun q => absurd q.1 hr⟩
end XPS
section XENT
variable {zt : Nat → Nat} {L : Nat} {σ0 : Sto} {X : XV} {Q : Option AV → XV → Prop}
theorem xm_W_lot {v0 v1 : AV} : XpM zt L σ0 85 [v0, v1] X Q ↔ Xp zt L σ0 85 b_W_lot_0 [some v0, some v1] [] X Q := Iff.rfl
theorem xm_W_low {v0 v1 : AV} : XpM zt L σ0 86 [v0, v1] X Q ↔ Xp zt L σ0 86 b_W_low_0 [some v0, some v1] [] X Q := Iff.rfl
theorem xm_W_sound {v0 : AV} : XpM zt L σ0 87 [v0] X Q ↔ Xp zt L σ0 87 b_W_sound_0 [some v0, none, none, none, none, none, none, none, none] [] X Q := Iff.rfl
theorem xm_W_plan {v0 v1 : AV} : XpM zt L σ0 88 [v0, v1] X Q ↔ Xp zt L σ0 88 b_W_plan_0 [some v0, some v1, none, none, none, none, none, none, none, none, none, none] [] X Q := Iff.rfl
theorem xm_W_finishes {v0 : AV} : XpM zt L σ0 89 [v0] X Q ↔ Xp zt L σ0 89 b_W_finishes_0 [some v0, none, none] [] X Q := Iff.rfl
theorem xm_W_refuses {v0 : AV} : XpM zt L σ0 90 [v0] X Q ↔ Xp zt L σ0 90 b_W_refuses_0 [some v0, none, none, none, none, none] [] X Q := Iff.rfl
theorem xm_W_inserts {v0 v1 v2 : AV} : XpM zt L σ0 91 [v0, v1, v2] X Q ↔ Xp zt L σ0 91 b_W_inserts_0 [some v0, some v1, some v2, none, none, none, none, none, none, none, none] [] X Q := Iff.rfl
theorem xm_W_betweens {v0 v1 : AV} : XpM zt L σ0 92 [v0, v1] X Q ↔ Xp zt L σ0 92 b_W_betweens_0 [some v0, some v1, none, none, none, none] [] X Q := Iff.rfl
theorem xm_W_breathes {v0 v1 : AV} : XpM zt L σ0 93 [v0, v1] X Q ↔ Xp zt L σ0 93 b_W_breathes_0 [some v0, some v1, none, none, none, none, none] [] X Q := Iff.rfl
theorem xm_W_acts {v0 v1 v2 : AV} : XpM zt L σ0 94 [v0, v1, v2] X Q ↔ Xp zt L σ0 94 b_W_acts_0 [some v0, some v1, some v2, none, none, none, none, none, none, none] [] X Q := Iff.rfl
end XENT
