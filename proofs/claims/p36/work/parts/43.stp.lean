/-! EACH STEP OF THE ABSTRACT MACHINE IS ONE OF THE MACHINE (simple instructions) -/
def Cx (D : va_G) (cA : Nat → ClassId) (p : Program) (s : State) (args : Array Value) (m : MethodId) (meth : Method) (c : Code) (k : Nat) : Prop :=
  p.tables.exec = Jvm.exec ∧ c.code = byM k ∧ c.maxLocals = mxM k ∧ s.vm.findClass (RN (clM k)) = some m.cls ∧ (∀ w ∈ bigW, w.before args s = true) ∧ (inM k = true → meth.name = "<init>") ∧ Kx D cA s ∧ Tbs
def Knt (p : Program) (l : Launch) (e : Env) (R : Room) (s : State) (m : MethodId) (args : Array Value) (below : List Frame) (meth : Method) (c : Code) (Q : State → Prop) (D : va_G) (cA : Nat → ClassId) (b0 : Nat) (zt : Nat → Nat) (k pc cells slots : Nat) (σ : Sto) (ls' : LsT) (st' : List AV) (σ' : Sto) : Prop :=
  ∀ (H' : Heap) (locs' : List Loc) (lsA' : Array Slot) (cells' slots' : Nat), locR lsA' (mxM k) ls' → Rep D cA b0 zt s σ' H' → (∀ x ∈ locs', b0 ≤ x.base) → topS σ' + cells = topS σ + cells' → usdS σ' + slots = usdS σ + slots' → W p l e R s m args below meth c H' locs' cells' slots' Q (F0 m pc lsA' (st'.map con))
theorem lo_put {b0 a i : Nat} {locs : List Loc} (h : ∀ x ∈ locs, b0 ≤ x.base) (ha : b0 ≤ a) : ∀ x ∈ locs ++ [(⟨a, i⟩ : Loc)], b0 ≤ x.base := by
  intro x hx
  rcases List.mem_append.mp hx with q | q
  · exact h x q
  · rw [List.mem_singleton.mp q]; exact ha
theorem fld_word (hT : Tbs) {o i ci f : Nat} (h : fldT.contains [o, i, ci, f] = true) : (Jvm.Cond.fieldLink (RN o) i (TN ci f).1 (TN ci f).2.1 (TN ci f).2.2.1) ∈ bigW ∧ ci < 6 ∧ f < NF ci ∧ (tyN ci f = .int ↔ fI ci f = true) ∧ ((tyN ci f).isReference = true ↔ fI ci f = false) := by
  have h1 : [o, i, ci, f] ∈ fldT := by simpa using h
  rw [t_okF_map hT] at h1
  obtain ⟨e, he, he2⟩ := List.mem_map.mp h1
  have h2 := List.all_eq_true.mp (t_okF_all hT) e he
  unfold okF at h2
  simp only [Bool.and_eq_true, decide_eq_true_eq] at h2
  obtain ⟨⟨⟨⟨a1, a2⟩, a3⟩, a4⟩, a5⟩ := h2
  have e0 : at4 e 0 = o ∧ at4 e 1 = i ∧ at4 e 2 = ci ∧ at4 e 3 = f := by
    match e, he2 with
    | x0 :: x1 :: x2 :: x3 :: _, he2 =>
      simp only [List.take_succ_cons, List.take_zero, List.cons.injEq, and_true] at he2
      exact he2
    | [], he2 => cases he2
    | [_], he2 => cases he2
    | [_, _], he2 => cases he2
    | [_, _, _], he2 => cases he2
  obtain ⟨rfl, rfl, rfl, rfl⟩ := e0
  exact ⟨inP_mem a1, a2, a3, a4, a5⟩
theorem uw_in (hT : Tbs) {ci : Nat} (h : ci < 6) : ∀ w ∈ u_ws (RN ci) (TN ci) (NF ci), w ∈ bigW := by
  intro w hw
  obtain ⟨k, hk, rfl⟩ := List.mem_map.mp hw
  have h1 := List.all_eq_true.mp (t_okU_all hT) ci (List.mem_range.mpr h)
  unfold okU at h1
  exact inP_mem (List.all_eq_true.mp h1 k hk)
theorem cl_at {ci : Nat} (h : ci < 6) : clN[ci]? = some (RN ci, TN ci, NF ci) := by
  rcases (show ci = 0 ∨ ci = 1 ∨ ci = 2 ∨ ci = 3 ∨ ci = 4 ∨ ci = 5 by omega) with rfl | rfl | rfl | rfl | rfl | rfl <;> rfl
theorem ty_ok {ci : Nat} (h : ci < 6) : ∀ k, k < NF ci → parseFieldDescriptor (TN ci k).2.2.1 = some (tyN ci k) := by
  rcases (show ci = 0 ∨ ci = 1 ∨ ci = 2 ∨ ci = 3 ∨ ci = 4 ∨ ci = 5 by omega) with rfl | rfl | rfl | rfl | rfl | rfl
  · exact tyX0_ok
  · exact tyX1_ok
  · exact tyX2_ok
  · exact tyX3_ok
  · exact tyX4_ok
  · exact tyX5_ok
theorem nm_ok {ci : Nat} (h : ci < 6) : ∀ a, a < NF ci → ∀ b, b < NF ci → a ≠ b → (TN ci a).2.1 ≠ (TN ci b).2.1 := by
  rcases (show ci = 0 ∨ ci = 1 ∨ ci = 2 ∨ ci = 3 ∨ ci = 4 ∨ ci = 5 by omega) with rfl | rfl | rfl | rfl | rfl | rfl
  · exact nmX0
  · exact nmX1
  · exact nmX2
  · exact nmX3
  · exact nmX4
  · exact nmX5
section SND
variable {p : Program} {l : Launch} {e : Env} {R : Room} {s : State} {m : MethodId} {args : Array Value} {below : List Frame} {meth : Method} {c : Code} {H : Heap} {locs : List Loc} {cells slots : Nat} {Q : State → Prop}
variable {D : va_G} {cA : Nat → ClassId} {b0 : Nat} {zt : Nat → Nat} {k pc pc' : Nat} {lsA : Array Slot} {ls ls' : LsT} {st st' : List AV} {σ σ' : Sto} {x : List Nat}
theorem s_ldI {i : Nat} (hl : locR lsA (mxM k) ls) (hR : Rep D cA b0 zt s σ H) (hlo : ∀ x ∈ locs, b0 ≤ x.base) (hef : ldI ls i st σ = some (.inl (ls', st', σ')))
    (row : ∀ z : Int, lsA[i]? = some (.val (.int (Int32.ofInt z))) → W p l e R s m args below meth c H locs cells slots Q (F0 m pc' lsA (.int (Int32.ofInt z) :: st.map con)) → W p l e R s m args below meth c H locs cells slots Q (F0 m pc lsA (st.map con)))
    (kk : Knt p l e R s m args below meth c Q D cA b0 zt k pc' cells slots σ ls' st' σ') : W p l e R s m args below meth c H locs cells slots Q (F0 m pc lsA (st.map con)) := by
  unfold ldI at hef
  split at hef
  · next z hz =>
    cases hef
    exact row z (hl.2.2 i _ hz) (kk H locs lsA cells slots hl hR hlo rfl rfl)
  · cases hef
theorem s_ldR {i : Nat} (hl : locR lsA (mxM k) ls) (hR : Rep D cA b0 zt s σ H) (hlo : ∀ x ∈ locs, b0 ≤ x.base) (hef : ldR ls i st σ = some (.inl (ls', st', σ')))
    (row : ∀ a : Nat, lsA[i]? = some (.val (.ref a)) → W p l e R s m args below meth c H locs cells slots Q (F0 m pc' lsA (.ref a :: st.map con)) → W p l e R s m args below meth c H locs cells slots Q (F0 m pc lsA (st.map con)))
    (kk : Knt p l e R s m args below meth c Q D cA b0 zt k pc' cells slots σ ls' st' σ') : W p l e R s m args below meth c H locs cells slots Q (F0 m pc lsA (st.map con)) := by
  unfold ldR at hef
  split at hef
  · next a hz =>
    cases hef
    exact row a (hl.2.2 i _ hz) (kk H locs lsA cells slots hl hR hlo rfl rfl)
  · cases hef
theorem s_stI {i : Nat} (hl : locR lsA (mxM k) ls) (hR : Rep D cA b0 zt s σ H) (hlo : ∀ x ∈ locs, b0 ≤ x.base) (hef : stI ls i st σ = some (.inl (ls', st', σ')))
    (row : ∀ (z : Int) (rest : List Value), lv_has lsA (mxM k) (lvOf ls) → (∀ lsB : Array Slot, lv_has lsB (mxM k) ((i, con (.inl z)) :: (lvOf ls).filter (fun q => !(q.1 == i) && !(q.1 + 1 == i && q.2.category == 2))) → W p l e R s m args below meth c H locs cells slots Q (F0 m pc' lsB rest)) → W p l e R s m args below meth c H locs cells slots Q (F0 m pc lsA (.int (Int32.ofInt z) :: rest)))
    (kk : Knt p l e R s m args below meth c Q D cA b0 zt k pc' cells slots σ ls' st' σ') : W p l e R s m args below meth c H locs cells slots Q (F0 m pc lsA (st.map con)) := by
  unfold stI at hef
  split at hef
  · next z st2 =>
    cases hef
    exact row z _ hl.has (fun lsB hB => kk H locs lsB cells slots (locR.set hB) hR hlo rfl rfl)
  · cases hef
theorem s_stR {i : Nat} (hl : locR lsA (mxM k) ls) (hR : Rep D cA b0 zt s σ H) (hlo : ∀ x ∈ locs, b0 ≤ x.base) (hef : stR ls i st σ = some (.inl (ls', st', σ')))
    (row : ∀ (a : Nat) (rest : List Value), lv_has lsA (mxM k) (lvOf ls) → (∀ lsB : Array Slot, lv_has lsB (mxM k) ((i, con (.inr (some a))) :: (lvOf ls).filter (fun q => !(q.1 == i) && !(q.1 + 1 == i && q.2.category == 2))) → W p l e R s m args below meth c H locs cells slots Q (F0 m pc' lsB rest)) → W p l e R s m args below meth c H locs cells slots Q (F0 m pc lsA (.ref a :: rest)))
    (kk : Knt p l e R s m args below meth c Q D cA b0 zt k pc' cells slots σ ls' st' σ') : W p l e R s m args below meth c H locs cells slots Q (F0 m pc lsA (st.map con)) := by
  unfold stR at hef
  split at hef
  · next a st2 =>
    cases hef
    exact row a _ hl.has (fun lsB hB => kk H locs lsB cells slots (locR.set hB) hR hlo rfl rfl)
  · cases hef
theorem s_bin {f : Int → Int → Option Int} (hl : locR lsA (mxM k) ls) (hR : Rep D cA b0 zt s σ H) (hlo : ∀ x ∈ locs, b0 ≤ x.base) (hef : bin f ls st σ = some (.inl (ls', st', σ')))
    (row : ∀ (a b z : Int) (rest : List AV), st = .inl b :: .inl a :: rest → f a b = some z → W p l e R s m args below meth c H locs cells slots Q (F0 m pc' lsA (.int (Int32.ofInt z) :: rest.map con)) → W p l e R s m args below meth c H locs cells slots Q (F0 m pc lsA (.int (Int32.ofInt b) :: .int (Int32.ofInt a) :: rest.map con)))
    (kk : Knt p l e R s m args below meth c Q D cA b0 zt k pc' cells slots σ ls' st' σ') : W p l e R s m args below meth c H locs cells slots Q (F0 m pc lsA (st.map con)) := by
  unfold bin at hef
  split at hef
  · next b a st2 =>
    split at hef
    · next z hz =>
      cases hef
      exact row a b z st2 rfl hz (kk H locs lsA cells slots hl hR hlo rfl rfl)
    · cases hef
  · cases hef
/-- an int array's element is read -/
theorem s_ald {ok : Nat → Bool} (hl : locR lsA (mxM k) ls) (hR : Rep D cA b0 zt s σ H) (hlo : ∀ x ∈ locs, b0 ≤ x.base) (hef : aldI ok ls st σ = some (.inl (ls', st', σ')))
    (row : ∀ (a : Nat) (i : Int) (kd N : Nat) (rest : List Value), ok kd = true → 0 ≤ i → i < N → i < 65536 → celR D cA b0 s σ H a kd N → W p l e R s m args below meth c H locs cells slots Q (F0 m pc' lsA (.int (Int32.ofInt (σ.1 a i.toNat)) :: rest)) → W p l e R s m args below meth c H locs cells slots Q (F0 m pc lsA (.int (Int32.ofInt i) :: .ref a :: rest)))
    (kk : Knt p l e R s m args below meth c Q D cA b0 zt k pc' cells slots σ ls' st' σ') : W p l e R s m args below meth c H locs cells slots Q (F0 m pc lsA (st.map con)) := by
  unfold aldI at hef
  split at hef
  · next i a st2 =>
    split at hef
    · next kd N hs =>
      split at hef
      · next hh =>
        cases hef
        exact row a i kd N _ hh.1 hh.2.1 hh.2.2.1 hh.2.2.2 (hR.2.2.1 a kd N hs) (kk H locs lsA cells slots hl hR hlo rfl rfl)
      · cases hef
    · cases hef
  · cases hef
/-- what stands in a field -/
theorem c_get (C : Cx D cA p s args m meth c k) {i ci f a kd N : Nat} (hc : celR D cA b0 s σ H a kd N) (hkd : kd = 10 + ci) (hf : fldT.contains [clM k, i, ci, f] = true) (hd : decode (byM k) pc = .ok (.getfield i, 3)) {rest : List Value}
    (kk : W p l e R s m args below meth c H locs cells slots Q (F0 m (pc + 3) lsA (con (fval σ ci a f) :: rest))) : W p l e R s m args below meth c H locs cells slots Q (F0 m pc lsA (.ref a :: rest)) := by
  obtain ⟨hx, hb, hml, hown, hts, hin, hK, hT⟩ := C
  obtain ⟨fw, hci, hfn, -, -⟩ := fld_word hT hf
  obtain ⟨ci', e1, -, ⟨cell, q1, q2, q3, q4⟩, -⟩ := hc.2.2.2 (by omega)
  have e2 : ci' = ci := by omega
  subst e2
  obtain ⟨hS, hfc, kC, hkC, hkind⟩ := hK.1.1 ci' _ (cl_at hci)
  obtain ⟨cf, kf, fi, fd, hi, hsl⟩ := hS f hfn
  refine W.getf hx hb hown (hts _ fw) hi (u_facts hfc hkC (u_lays hts (uw_in hT hci) hfn) hi).1 q1 (by rw [q3]; exact fun h => by cases h) ?_ rfl rfl hd kk
  rw [hsl]
  exact q4 f hfn
/-- a value is put into a field -/
theorem c_put (C : Cx D cA p s args m meth c k) {i ci f a kd N : Nat} {v : AV} (hR : Rep D cA b0 zt s σ H) (hs : shp σ a = some (kd, N)) (hkd : kd = 10 + ci) (hf : fldT.contains [clM k, i, ci, f] = true) (hfin : (!(TN ci f).2.2.2 || (inM k && decide ((TN ci f).1 = RN (clM k)))) = true) (hd : decode (byM k) pc = .ok (.putfield i, 3)) {rest : List Value}
    (hv : (∃ z, v = .inl z ∧ fI ci f = true) ∨ ∃ b, v = .inr (some b) ∧ fI ci f = false) (hσ : σ'.2.2 = σ.2.2) (h1 : ∀ x, x ≠ a → ∀ j, σ'.1 x j = σ.1 x j) (h2 : ∀ x, x ≠ a → ∀ j, σ'.2.1 x j = σ.2.1 x j) (hval : ∀ j, fval σ' ci a j = if j = f then v else fval σ ci a j) (hlo : ∀ x ∈ locs, b0 ≤ x.base)
    (kk : ∀ (H1 : Heap) (locs1 : List Loc), Rep D cA b0 zt s σ' H1 → (∀ x ∈ locs1, b0 ≤ x.base) → W p l e R s m args below meth c H1 locs1 cells slots Q (F0 m (pc + 3) lsA rest)) : W p l e R s m args below meth c H locs cells slots Q (F0 m pc lsA (con v :: .ref a :: rest)) := by
  have hc := hR.2.2.1 a kd N hs
  obtain ⟨hx, hb, hml, hown, hts, hin, hK, hT⟩ := C
  obtain ⟨fw, hci, hfn, hti, htr⟩ := fld_word hT hf
  obtain ⟨ci', e1, -, ⟨cell, q1, q2, q3, q4⟩, hba⟩ := hc.2.2.2 (by omega)
  have e2 : ci' = ci := by omega
  subst e2
  obtain ⟨hS, hfc, kC, hkC, hkind⟩ := hK.1.1 ci' _ (cl_at hci)
  have hap : ∀ x y, x < NF ci' → y < NF ci' → x ≠ y → (D.2 ci') x ≠ (D.2 ci') y := va_apart (own := RN (clM k)) hts (uw_in hT hci) (tyN ci') (ty_ok hci) (nm_ok hci) hK.1 (cl_at hci)
  obtain ⟨cf, kf, fi, fd, hi, hsl⟩ := hS f hfn
  have hty : parseFieldDescriptor (TN ci' f).2.2.1 = some (tyN ci' f) := ty_ok hci f hfn
  have hst := (u_facts hfc hkC (u_lays hts (uw_in hT hci) hfn) hi).1
  have hn : narrow (tyN ci' f) (con v) = con v := by
    rcases hv with ⟨z, rfl, hz⟩ | ⟨b, rfl, hz⟩
    · rw [hti.mpr hz]; rfl
    · have := htr.mpr hz
      cases ht : tyN ci' f <;> rw [ht] at this <;> first | rfl | cases this
  have hfit : fits (tyN ci' f) (con v) = true := by
    rcases hv with ⟨z, rfl, hz⟩ | ⟨b, rfl, hz⟩
    · rw [hti.mpr hz]; rfl
    · have := htr.mpr hz
      cases ht : tyN ci' f <;> rw [ht] at this <;> first | rfl | cases this
  have hlay := hts _ (uw_in hT hci _ (u_in_lay hfn))
  have hrep : ∀ H1 : Heap, H1[a]? = some (cell.setSlot (D.2 ci' f) (con v)) → H1.size = H.size → (∀ q, q ≠ a → H1[q]? = H[q]?) → Rep D cA b0 zt s σ' H1 := by
    intro H1 e1' e2' e3'
    refine hR.put hσ e2' e3' hba h1 h2 (fun kd' N' hs' => ?_)
    rw [hs] at hs'
    cases hs'
    refine ⟨fun q => by omega, fun q => by omega, fun q => by omega, fun _ => ⟨ci', hkd, hci, ⟨_, e1', q2, q3, fun j hj => ?_⟩, hba⟩⟩
    rw [t_set q4 hap hfn (con v) j hj]
    show some (if j = f then con v else con (fval σ ci' a j)) = some (con (fval σ' ci' a j))
    rw [hval j]
    split <;> rfl
  unfold u_lay at hlay
  by_cases hff : (TN ci' f).2.2.2 = true
  · rw [if_pos hff] at hlay
    rw [hff] at hfin
    simp only [Bool.not_true, Bool.false_or, Bool.and_eq_true, decide_eq_true_eq] at hfin
    have hcf : m.cls = cf := by
      obtain ⟨_, _, c', _, _, _, -, -, hf', -, -, -, hown2, -⟩ := Cond.laysFinal_spec hlay
      have e1 : c' = cf := by have := hi.symm.trans hf'; simp at this; exact this.1.symm
      rw [hfin.2] at hown2
      rw [← e1]; exact Option.some.inj (hown.symm.trans hown2)
    have h6 := u_fits hfc hkC hkind (Or.inr hlay) hi hty hn hfit
    refine W.putFinK hx hb hown (hts _ fw) hi hst hcf (hin hfin.1) (by rw [q2]; exact h6) q1 q3 (by rw [hsl]; exact k2_hasslot (q4 f hfn)) rfl rfl hd fun H' e1 e2 e3 => ?_
    rw [hsl] at e1 ⊢
    exact kk H' _ (hrep H' e1 e2 e3) (lo_put hlo hba)
  · rw [if_neg hff] at hlay
    have h6 := u_store hfc hkC hkind hlay hi hty hn hfit
    refine W.putK hx hb (f := fd) ⟨hown, hts _ fw, ⟨_, _, _, hi⟩, hst⟩ (by rw [q2]; exact h6) q1 q3 (by rw [hsl]; exact k2_hasslot (q4 f hfn)) rfl rfl hd fun H' e1 e2 e3 => ?_
    rw [hsl] at e1 ⊢
    exact kk H' _ (hrep H' e1 e2 e3) (lo_put hlo hba)
end SND
