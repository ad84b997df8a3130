/-! SOUNDNESS: what the abstract machine runs, the machine does -/
def RetAt (k pc : Nat) (v : Option AV) : Prop :=
  (∃ z, v = some (.inl z) ∧ decode (byM k) pc = .ok (.ireturn, 1) ∧ (rtM k = some .int ∨ (rtM k = some .boolean ∧ (z = 0 ∨ z = 1)))) ∨ (v = none ∧ decode (byM k) pc = .ok (.return_, 1) ∧ rtM k = none)
def wsM (k : Nat) : List Jvm.Cond := Cond.code (yM k) (byM k) (mxM k) (rtM k) :: bigW
/-- the codes are checked -/
def Chs : Prop := ∀ k, k < NM → chM k = true
theorem chs_at (hC : Chs) {k L : Nat} (hk : k < NM) (hL : (lbM k).contains L = true) : maB k L (P k L) = true := by
  have h := hC k hk
  unfold chM at h
  rw [Bool.and_eq_true] at h
  exact List.all_eq_true.mp h.2 L (by simpa using hL)
theorem chs_0 (hC : Chs) {k : Nat} (hk : k < NM) : maB k 0 (P k 0) = true := by
  have h := hC k hk
  unfold chM at h
  rw [Bool.and_eq_true] at h
  exact chs_at hC hk h.1
theorem lget_map : ∀ (as : List AV) (i n : Nat) (v : AV), lget (as.map some ++ List.replicate n none) i = some v → as[i]? = some v
  | [], i, n, v, h => by
    exfalso
    have : ∀ (n i : Nat), lget (List.replicate n (none : Option AV)) i = none := by
      intro n
      induction n with
      | zero => intro i; rfl
      | succ n ih =>
        intro i
        cases i with
        | zero => rfl
        | succ i => exact ih i
    rw [List.map_nil, List.nil_append, this] at h
    cases h
  | a :: as, 0, n, v, h => h
  | a :: as, i + 1, n, v, h => lget_map as i n v h
theorem sl_map : ∀ as : List AV, lg_sl (as.map con) = as.map (fun v => Slot.val (con v))
  | [] => rfl
  | a :: as => by
    have h := sl_map as
    unfold lg_sl at h ⊢
    rw [List.map_cons, List.flatMap_cons, h, if_neg (by rw [con_cat]; decide)]
    rfl
theorem ent_locR {k : Nat} {as : List AV} (h : as.length ≤ mxM k) : locR ((lg_sl (as.map con) ++ List.replicate (mxM k - (lg_sl (as.map con)).length) Slot.unset).toArray) (mxM k) (ent k as) := by
  have hlen : (lg_sl (as.map con)).length = as.length := by rw [sl_map, List.length_map]
  obtain ⟨h1, h2, -⟩ := lv_entry (as.map con) (n := mxM k) (by rw [hlen]; exact h)
  refine ⟨h1, h2, fun i v hv => ?_⟩
  have hi := lget_map as i _ v hv
  rw [List.getElem?_toArray, List.getElem?_append_left (by rw [hlen]; exact (List.getElem?_eq_some_iff.mp hi).1), sl_map, List.getElem?_map, hi]
  rfl
theorem meth_word (hT : Tbs) {o i kk : Nat} (h : methT.contains [o, i, kk] = true) : (Jvm.Cond.methodLink (RN o) i (yM kk)) ∈ bigW := by
  have h1 : [o, i, kk] ∈ methT := by simpa using h
  rw [t_okC_map hT] at h1
  obtain ⟨e, he, he2⟩ := List.mem_map.mp h1
  have h2 := List.all_eq_true.mp (t_okC_all hT) e he
  unfold okC at h2
  have e0 : at4 e 0 = o ∧ at4 e 1 = i ∧ at4 e 2 = kk := by
    match e, he2 with
    | x0 :: x1 :: x2 :: _, he2 =>
      simp only [List.take_succ_cons, List.take_zero, List.cons.injEq, and_true] at he2
      exact he2
    | [], he2 => cases he2
    | [_], he2 => cases he2
    | [_, _], he2 => cases he2
  obtain ⟨rfl, rfl, rfl⟩ := e0
  exact inP_mem h2
/-- what the words say of a method -/
theorem okM_spec (hT : Tbs) {k : Nat} (hk : k < 95) : Cond.code (yM k) (byM k) (mxM k) (rtM k) ∈ bigW ∧ (stM k = true → Cond.static (yM k) ∈ bigW) ∧ (stM k = false → Cond.instanceMethod (yM k) ∈ bigW) ∧ (stM k = false → inM k = false → Cond.selects (RN (clM k)) (yM k) (yM k) ∈ bigW) ∧ Cond.initialized (RN (clM k)) ∈ bigW ∧ (yM k).cls = RN (clM k) ∧ plainName (yM k).cls = true ∧
    ((yM k).cls ≠ "java/lang/invoke/MethodHandle" ∧ (yM k).cls ≠ "java/lang/invoke/VarHandle") ∧ (parseMethodDescriptor (yM k).desc).map (fun d => d.parameters.length) = some (naM k - (if stM k then 0 else 1)) ∧ (inM k = true → (yM k).name = "<init>" ∧ rtM k = none) ∧ naM k ≤ mxM k ∧ (1 ≤ naM k ∨ stM k = true) ∧ clM k < 7 ∧ 8 + (mxM k + 11) ≤ 40 := by
  have h := t_okM hT k hk
  unfold okM at h
  simp only [Bool.and_eq_true, decide_eq_true_eq] at h
  obtain ⟨⟨⟨⟨⟨⟨⟨⟨⟨⟨⟨a1, a2⟩, a3⟩, a4⟩, a5⟩, a6⟩, a7⟩, a8⟩, a9⟩, a10⟩, a11⟩, a12⟩ := h
  refine ⟨inP_mem a1, fun q => ?_, fun q => ?_, fun q q2 => ?_, inP_mem a3, a4, a5, a6, a7, fun q => ?_, a9, a10, a11, a12⟩
  · rw [if_pos q] at a2; exact inP_mem a2
  · rw [if_neg (by rw [q]; decide), Bool.and_eq_true] at a2; exact inP_mem a2.1
  · rw [if_neg (by rw [q]; decide), Bool.and_eq_true, q2, Bool.false_or] at a2; exact inP_mem a2.2
  · rw [q] at a8; simpa using a8
theorem big_good {w : Jvm.Cond} (h : w ∈ bigW) : (w.onTables && w.keeps) = true ∨ ∃ ty, w = .arrayClass ty := good_of_word (List.mem_filter.mp h).2
theorem con_app (v : Option AV) (rest : List AV) : (v.toList ++ rest).map con = (v.map con).toList ++ rest.map con := by
  cases v <;> simp
section SNT
variable {D : va_G} {cA : Nat → ClassId} {b0 : Nat} {zt : Nat → Nat}
/-- the soundness of runs of n steps, from any state of any method -/
def Snd (D : va_G) (cA : Nat → ClassId) (b0 : Nat) (zt : Nat → Nat) (n : Nat) : Prop := ∀ (k : Nat) (c : List RI) (ls : LsT) (st : List AV) (σ : Sto) (v : Option AV) (σ' : Sto), run zt n k c ls st σ = some (v, σ') →
  ∀ (p : Program) (l : Launch) (e : Env) (R : Room) (s : State) (m : MethodId) (args : Array Value) (below : List Frame) (meth : Method) (cd : Code) (H : Heap) (locs : List Loc) (cells slots : Nat) (Q : State → Prop) (pc : Nat) (lsA : Array Slot),
  k < NM → Cx D cA p s args m meth cd k → maB k pc c = true → dpM k ≤ R.frames → 40 * dpM k ≤ R.locals → locR lsA (mxM k) ls → Rep D cA b0 zt s σ H → (∀ x ∈ locs, b0 ≤ x.base) → topS σ' + cells ≤ topS σ + R.cells → usdS σ' + slots ≤ usdS σ + R.slots →
  (∀ (pc' : Nat) (H' : Heap) (locs' : List Loc) (lsA' : Array Slot) (cells' slots' : Nat), RetAt k pc' v → Rep D cA b0 zt s σ' H' → (∀ x ∈ locs', b0 ≤ x.base) → topS σ' + cells = topS σ + cells' → usdS σ' + slots = usdS σ + slots' → W p l e R s m args below meth cd H' locs' cells' slots' Q (F0 m pc' lsA' (v.toList.map con))) →
  W p l e R s m args below meth cd H locs cells slots Q (F0 m pc lsA (st.map con))
/-- a callee's contract for one run of it -/
def PcM (D : va_G) (cA : Nat → ClassId) (b0 : Nat) (zt : Nat → Nat) (as : List AV) (σ : Sto) : Array Value → State → Prop := va_Pc (as.map con) (fun U => Rep D cA b0 zt U σ U.heap ∧ Kx D cA U)
def QcM (D : va_G) (cA : Nat → ClassId) (b0 : Nat) (zt : Nat → Nat) (v : Option AV) (σ' : Sto) : Array Value → State → Outcome → State → Prop := fun _ _ o t => o = .returned (v.map con) ∧ Rep D cA b0 zt t σ' t.heap
def rmM (k mc ms : Nat) : Room := { frames := dpM k, cells := mc, slots := ms, locals := 40 * dpM k }
theorem met_run (hT : Tbs) (hC : Chs) {n k : Nat} (hS : Snd D cA b0 zt n) (hk : k < 95) {as : List AV} (has : as.length = naM k) {σ σ' : Sto} {v : Option AV} (hr : run zt n k (P k 0) (ent k as) [] σ = some (v, σ')) (l : Launch) :
    Met l (yM k) (wsM k) (rmM k (topS σ' - topS σ) (usdS σ' - usdS σ)) (PcM D cA b0 zt as σ) (QcM D cA b0 zt v σ') (topS σ' - topS σ) (usdS σ' - usdS σ) (fun q => b0 ≤ q) := by
  obtain ⟨o1, o2, o3, o4, o5, o6, o7, o8, o9, o10, o11, o12, o13, o14⟩ := okM_spec hT hk
  have hmono := run_mono n _ _ _ _ _ _ _ hr
  have hNM : k < NM := Nat.lt_trans hk (by decide)
  refine Met.ofW (cc := byM k) (maxL := mxM k) (ret := rtM k) o7 rfl ?_
  intro p e s m args below meth c s₁ B hml hv
  obtain ⟨rfl, hR, hK⟩ := hv
  have hts := atoms_spec (ws := wsM k) B.pre
  have hown : s.vm.findClass (yM k).cls = some m.cls := findClass_of_methodNamed B.named
  rw [o6] at hown
  have hlocks := B.notSynchronized
  have hret := B.returns
  have hin : meth.name = (yM k).name := (name_of_methodNamed B.named B.method).1
  rw [lg_entry_eq]
  have hCx : Cx D cA p s (as.map con).toArray m meth c k := ⟨B.exec, B.bytes, hml, hown, fun w hw => hts w (List.mem_cons_of_mem _ hw), fun q => by rw [hin]; exact (o10 q).1, hK, hT⟩
  refine hS k (P k 0) (ent k as) [] σ v σ' hr p l e _ s m _ below meth c s.heap [] 0 0 _ 0 _ hNM hCx (chs_0 hC hNM) (Nat.le_refl _) (Nat.le_refl _) (ent_locR (by rw [has]; exact o11)) hR (fun x hx => by cases hx) ?_ ?_ ?_
  · show topS σ' + 0 ≤ topS σ + (topS σ' - topS σ)
    have := hmono.1; omega
  · show usdS σ' + 0 ≤ usdS σ + (usdS σ' - usdS σ)
    have := hmono.2; omega
  · intro pc' H' locs' lsA' cells' slots' hRA hR' hlo' ec es
    have e1 : cells' = topS σ' - topS σ := by omega
    have e2 : slots' = usdS σ' - usdS σ := by omega
    subst e1; subst e2
    have hq : ∀ t : State, t.heap = H' → s.WarmedH t.vm → QcM D cA b0 zt v σ' (as.map con).toArray s (.returned (v.map con)) t := fun t h1 h2 => ⟨rfl, by rw [h1]; exact hR'.moved h2.alike⟩
    rcases hRA with ⟨z, rfl, hd, hty⟩ | ⟨rfl, hd, hty⟩
    · rcases hty with hty | ⟨hty, hz⟩
      · exact W.iret (v := Int32.ofInt z) B.exec B.bytes (hret.trans hty) hq hlo' hd
      · exact W.zret (v := Int32.ofInt z) (ty := .boolean) B.exec B.bytes (hret.trans hty) (by rcases hz with rfl | rfl <;> rfl) hq hlo' hd
    · exact W.vret B.exec B.bytes (hret.trans hty) hq hlo' hd
theorem pc_blind {as : List AV} {σ : Sto} : FrameBlind (PcM D cA b0 zt as σ) := by
  intro a U g mk h
  exact ⟨h.1, Rep.moved (Vm.Alike.refl U.vm) h.2.1, va_K.moved (u := U) (U := U.calling g mk a) (Vm.Alike.refl U.vm) h.2.2.1, h.2.2.2.1.same rfl rfl, h.2.2.2.2.1.same rfl rfl, va_AO.moved (Vm.Alike.refl U.vm) h.2.2.2.2.2.1, va_AO.moved (Vm.Alike.refl U.vm) h.2.2.2.2.2.2⟩
end SNT
