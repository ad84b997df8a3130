/-! WHAT THE ABSTRACT MACHINE'S STATES ARE IN THE MACHINE -/
def con : AV → Value
  | .inl z => .int (Int32.ofInt z)
  | .inr none => .null
  | .inr (some a) => .ref a
theorem con_cat (v : AV) : (con v).category = 1 := by
  rcases v with z | _ | a <;> rfl
theorem con_sum (l : List AV) : ((l.map con).map fun v => v.category).sum = l.length := by
  induction l with
  | nil => rfl
  | cons a l ih => simp only [List.map_cons, List.sum_cons, con_cat, ih, List.length_cons]; omega
-- numbers
theorem z_toInt {z : Int} (h : rng z) : (Int32.ofInt z).toInt = z := Int32.toInt_ofInt_of_le (by have := h.1; omega) (by have := h.2; omega)
theorem z_nat {z : Int} (h0 : 0 ≤ z) (h1 : z < 65536) : (Int32.ofInt z).toNatClampNeg = z.toNat := by
  show (Int32.ofInt z).toInt.toNat = z.toNat
  rw [z_toInt ⟨by omega, by omega⟩]
theorem z_lt {a b : Int} (ha : rng a) (hb : rng b) : Int32.ofInt a < Int32.ofInt b ↔ a < b := by rw [Int32.lt_iff_toInt_lt, z_toInt ha, z_toInt hb]
theorem z_le {a b : Int} (ha : rng a) (hb : rng b) : Int32.ofInt a ≤ Int32.ofInt b ↔ a ≤ b := by rw [Int32.le_iff_toInt_le, z_toInt ha, z_toInt hb]
theorem z_eq {a b : Int} (ha : rng a) (hb : rng b) : Int32.ofInt a = Int32.ofInt b ↔ a = b := by rw [← Int32.toInt_inj, z_toInt ha, z_toInt hb]
theorem r0 : rng 0 := by decide
theorem z_0 : Int32.ofInt 0 = 0 := rfl
theorem z_in {i : Int} {N : Nat} (h0 : 0 ≤ i) (h1 : i < N) (h2 : i < 65536) : vp_in (Int32.ofInt i) N := by
  rintro (h | h)
  · rw [← z_0, z_lt ⟨by omega, by omega⟩ r0] at h
    omega
  · rw [z_nat h0 h2] at h
    omega
theorem z_nn {i : Int} (h0 : 0 ≤ i) (h2 : i < 65536) : ¬ Int32.ofInt i < 0 := by
  rw [← z_0, z_lt ⟨by omega, by omega⟩ r0]
  omega
theorem z_and (a : Int) : Int32.ofInt a &&& Int32.ofInt 2147483647 = Int32.ofInt (a % 2147483648) := by
  apply Int32.toBitVec_inj.mp
  rw [Int32.toBitVec_and, Int32.toBitVec_ofInt, Int32.toBitVec_ofInt, Int32.toBitVec_ofInt]
  apply BitVec.eq_of_toNat_eq
  rw [BitVec.toNat_and, BitVec.toNat_ofInt, BitVec.toNat_ofInt, BitVec.toNat_ofInt]
  have h63 : ((2147483647 : Int) % ((2 ^ 32 : Nat) : Int)).toNat = 2 ^ 31 - 1 := by decide
  rw [h63, Nat.and_two_pow_sub_one_eq_mod]
  omega
theorem z_div {a b : Int} (ha : rng a) (hb : rng b) (h0 : 0 < b) : Int32.ofInt a / Int32.ofInt b = Int32.ofInt (a.tdiv b) := by
  have hr : rng (a.tdiv b) := by
    have h1 := Int.natAbs_tdiv_le_natAbs a b
    refine ⟨?_, ?_⟩
    · rcases Int.le_total 0 a with h | h
      · have := Int.tdiv_nonneg h (Int.le_of_lt h0); omega
      · have := ha.1; omega
    · have h2 := ha.2
      rcases Int.le_total 0 a with h | h
      · omega
      · have h3 : a.tdiv b ≤ 0 := by
          have := Int.tdiv_nonneg (a := -a) (b := b) (by omega) (Int.le_of_lt h0)
          rw [Int.neg_tdiv] at this
          omega
        omega
  apply Int32.toInt_inj.mp
  rw [Int32.toInt_div, z_toInt ha, z_toInt hb, z_toInt hr]
  have e := z_toInt hr
  rw [Int32.toInt_ofInt] at e
  exact e
theorem z_rem {a b : Int} (ha : rng a) (h00 : 0 ≤ a) (hb : rng b) (h0 : 0 < b) : Int32.ofInt a - Int32.ofInt a / Int32.ofInt b * Int32.ofInt b = Int32.ofInt (a % b) := by
  have h1 := Int.emod_nonneg a (by omega : b ≠ 0)
  have h2 := Int.emod_lt_of_pos a h0
  apply Int32.toInt_inj.mp
  rw [rem_toInt, z_toInt ha, z_toInt hb, z_toInt ⟨by omega, by have := hb.2; omega⟩, Int.tmod_eq_emod_of_nonneg h00]
theorem z_ne {b : Int} (hb : rng b) (h0 : 0 < b) : ¬ Int32.ofInt b = 0 := by
  rw [← z_0, z_eq hb r0]
  omega
theorem z_i8 : ∀ v : Int, -128 ≤ v → v < 128 → (Int8.ofInt v).toInt32 = Int32.ofInt v := by
  intro v h1 h2
  apply Int32.toInt_inj.mp
  rw [Int8.toInt_toInt32, Int8.toInt_ofInt_of_le (by omega) (by omega), z_toInt ⟨by omega, by omega⟩]
theorem z_i16 : ∀ v : Int, -32768 ≤ v → v < 32768 → (Int16.ofInt v).toInt32 = Int32.ofInt v := by
  intro v h1 h2
  apply Int32.toInt_inj.mp
  rw [Int16.toInt_toInt32, Int16.toInt_ofInt_of_le (by omega) (by omega), z_toInt ⟨by omega, by omega⟩]
theorem z_min {a b : Int} (ha : rng a) (hb : rng b) : (if Int32.ofInt b < Int32.ofInt a then Int32.ofInt b else Int32.ofInt a) = Int32.ofInt (min a b) := by
  by_cases h : b < a
  · rw [if_pos ((z_lt hb ha).mpr h), Int.min_eq_right (by omega)]
  · rw [if_neg (fun q => h ((z_lt hb ha).mp q)), Int.min_eq_left (by omega)]
theorem z_max {a b : Int} (ha : rng a) (hb : rng b) : (if Int32.ofInt a < Int32.ofInt b then Int32.ofInt b else Int32.ofInt a) = Int32.ofInt (max a b) := by
  by_cases h : a < b
  · rw [if_pos ((z_lt ha hb).mpr h), Int.max_eq_right (by omega)]
  · rw [if_neg (fun q => h ((z_lt ha hb).mp q)), Int.max_eq_left (by omega)]
theorem z_abs {a : Int} (ha : rng a) : (if 0 ≤ Int32.ofInt a then Int32.ofInt a else 0 - Int32.ofInt a) = Int32.ofInt (a.natAbs : Int) := by
  by_cases h : 0 ≤ a
  · rw [← z_0, if_pos ((z_le r0 ha).mpr h), Int.natAbs_of_nonneg h]
  · rw [← z_0, if_neg (fun q => h ((z_le r0 ha).mp q)), ← Int32.ofInt_sub]
    congr 1
    omega
-- locals
def locR (lsA : Array Slot) (nL : Nat) (ls : LsT) : Prop := lsA.size = nL ∧ lv_wf lsA ∧ ∀ i v, lget ls i = some v → lsA[i]? = some (.val (con v))
theorem lget_lt : ∀ (ls : LsT) (i : Nat) (v : AV), lget ls i = some v → i < ls.length
  | [], _, _, h => by cases h
  | _ :: _, 0, _, _ => Nat.succ_pos _
  | _ :: t, i + 1, v, h => Nat.succ_lt_succ (lget_lt t i v h)
theorem lget_lset : ∀ (ls : LsT) (i j : Nat) (v w : AV), lget (lset ls i v) j = some w → (j = i ∧ w = v) ∨ (j ≠ i ∧ lget ls j = some w)
  | [], _, _, _, _, h => by cases h
  | _ :: _, 0, 0, v, w, h => by
    cases h
    exact Or.inl ⟨rfl, rfl⟩
  | _ :: _, 0, j + 1, v, w, h => Or.inr ⟨Nat.succ_ne_zero j, h⟩
  | _ :: _, i + 1, 0, v, w, h => Or.inr ⟨Nat.succ_ne_zero i |>.symm, h⟩
  | _ :: t, i + 1, j + 1, v, w, h => by
    rcases lget_lset t i j v w h with ⟨h1, h2⟩ | ⟨h1, h2⟩
    · exact Or.inl ⟨by rw [h1], h2⟩
    · exact Or.inr ⟨by omega, h2⟩
def lvOf (ls : LsT) : List (Nat × Value) := (List.range ls.length).filterMap (fun i => (lget ls i).map (fun v => (i, con v)))
theorem lvOf_mem {ls : LsT} {i : Nat} {v : AV} (h : lget ls i = some v) : (i, con v) ∈ lvOf ls :=
  List.mem_filterMap.mpr ⟨i, List.mem_range.mpr (lget_lt _ _ _ h), by rw [h]; rfl⟩
theorem locR.has {lsA : Array Slot} {nL : Nat} {ls : LsT} (h : locR lsA nL ls) : lv_has lsA nL (lvOf ls) := by
  refine ⟨h.1, h.2.1, fun q hq => ?_⟩
  obtain ⟨i, -, hi⟩ := List.mem_filterMap.mp hq
  cases hg : lget ls i with
  | none => rw [hg] at hi; cases hi
  | some v =>
    rw [hg] at hi
    cases hi
    exact h.2.2 i v hg
theorem locR.set {lsA : Array Slot} {nL : Nat} {ls : LsT} {i : Nat} {v : AV} (h : lv_has lsA nL ((i, con v) :: (lvOf ls).filter (fun q => !(q.1 == i) && !(q.1 + 1 == i && q.2.category == 2)))) : locR lsA nL (lset ls i v) := by
  refine ⟨h.1, h.2.1, fun j w hj => ?_⟩
  rcases lget_lset ls i j v w hj with ⟨rfl, rfl⟩ | ⟨h1, h2⟩
  · exact h.2.2 (j, con w) List.mem_cons_self
  · refine h.2.2 (j, con w) (List.mem_cons_of_mem _ (List.mem_filter.mpr ⟨lvOf_mem h2, ?_⟩))
    simp [h1, con_cat]
-- the heap
def fval (σ : Sto) (ci a k : Nat) : AV := if fI ci k = true then .inl (σ.1 a k) else .inr (σ.2.1 a k)
def celR (D : va_G) (cA : Nat → ClassId) (b0 : Nat) (s : State) (σ : Sto) (H : Heap) (a kd N : Nat) : Prop :=
  (kd = 0 ∨ kd = 1 → H[a]? = some (arrV (cA kd) N (fun j => .int (Int32.ofInt (σ.1 a j)))) ∧ b0 ≤ a) ∧
  (kd = 2 ∨ kd = 3 → H[a]? = some (arrV (cA kd) N (fun j => con (.inr (σ.2.1 a j)))) ∧ b0 ≤ a) ∧
  (kd = 4 → va_T .int a N (fun j => .int (Int32.ofInt (σ.1 a j))) (fun q => b0 ≤ q) s H) ∧
  (4 < kd → ∃ ci, kd = 10 + ci ∧ ci < 6 ∧ t_OB a (D.1 ci) (NF ci) (D.2 ci) H (fun k => con (fval σ ci a k)) ∧ b0 ≤ a)
def Rep (D : va_G) (cA : Nat → ClassId) (b0 : Nat) (zt : Nat → Nat) (s : State) (σ : Sto) (H : Heap) : Prop :=
  H.size = topS σ ∧ b0 ≤ H.size ∧ (∀ a kd N, shp σ a = some (kd, N) → celR D cA b0 s σ H a kd N) ∧ ∀ j, j < 5 → va_Z RX5 (sN j) "[I" (.ref (zt j)) (fun q => b0 ≤ q) s H
def tyL (cA : Nat → ClassId) : List (ClassId × FieldType) := [(cA 0, .int), (cA 1, .boolean), (cA 2, .object RX4), (cA 3, .object RX3)]
def Kx (D : va_G) (cA : Nat → ClassId) (s : State) : Prop := va_K D clN (tyL cA) s ∧ va_Nw (.fieldLinkNest RX3 40 RX5 "SOUND_FIRST" "[I" RX5) s ∧ va_Nw (.fieldLinkNest RX3 43 RX5 "NUMBER_FIRST" "[I" RX5) s ∧ va_AO RX4 s ∧ va_AO RX3 s
theorem Kx.warm {D : va_G} {cA : Nat → ClassId} {s U : State} (h : Kx D cA s) (hW : s.WarmedH U.vm) : Kx D cA U := ⟨va_K.moved hW.alike h.1, va_Nw.warmF hW h.2.1, va_Nw.warmF hW h.2.2.1, va_AO.moved hW.alike h.2.2.2.1, va_AO.moved hW.alike h.2.2.2.2⟩
theorem Rep.moved {D : va_G} {cA : Nat → ClassId} {b0 : Nat} {zt : Nat → Nat} {s U : State} {σ : Sto} {H : Heap} (hvm : s.vm.Alike U.vm) (h : Rep D cA b0 zt s σ H) : Rep D cA b0 zt U σ H :=
  ⟨h.1, h.2.1, fun a kd N hs => ⟨(h.2.2.1 a kd N hs).1, (h.2.2.1 a kd N hs).2.1, fun q => va_T.moved hvm ((h.2.2.1 a kd N hs).2.2.1 q), (h.2.2.1 a kd N hs).2.2.2⟩, fun j hj => va_Z.moved hvm (h.2.2.2 j hj)⟩
/-- a cell of ours changes: the others stay -/
theorem celR.kept {D : va_G} {cA : Nat → ClassId} {b0 : Nat} {s : State} {σ σ' : Sto} {H H1 : Heap} {a kd N : Nat} (h : celR D cA b0 s σ H a kd N) (hq : H1[a]? = H[a]?) (h1 : ∀ j, σ'.1 a j = σ.1 a j) (h2 : ∀ j, σ'.2.1 a j = σ.2.1 a j) : celR D cA b0 s σ' H1 a kd N := by
  obtain ⟨c1, c2, c3, c4⟩ := h
  refine ⟨fun q => ?_, fun q => ?_, fun q => ?_, fun q => ?_⟩
  · simp only [h1, hq]; exact c1 q
  · simp only [h2, hq]; exact c2 q
  · obtain ⟨cell, d1, d2⟩ := c3 q
    simp only [h1]
    exact ⟨cell, by rw [hq]; exact d1, d2⟩
  · obtain ⟨ci, d1, d2, d3, d4⟩ := c4 q
    refine ⟨ci, d1, d2, ?_, d4⟩
    simp only [fval, h1, h2]
    exact d3.kept hq
theorem Rep.put {D : va_G} {cA : Nat → ClassId} {b0 : Nat} {zt : Nat → Nat} {s : State} {σ σ' : Sto} {H H1 : Heap} {a : Nat} (h : Rep D cA b0 zt s σ H) (ht : σ'.2.2 = σ.2.2) (hz : H1.size = H.size) (hq : ∀ q : Nat, q ≠ a → H1[q]? = H[q]?) (ha : b0 ≤ a)
    (h1 : ∀ x, x ≠ a → ∀ j, σ'.1 x j = σ.1 x j) (h2 : ∀ x, x ≠ a → ∀ j, σ'.2.1 x j = σ.2.1 x j) (hc : ∀ kd N, shp σ a = some (kd, N) → celR D cA b0 s σ' H1 a kd N) : Rep D cA b0 zt s σ' H1 := by
  have hs : ∀ x, shp σ' x = shp σ x := fun x => by show σ'.2.2.1 x = σ.2.2.1 x; rw [ht]
  refine ⟨by rw [hz, h.1]; show σ.2.2.2.1 = σ'.2.2.2.1; rw [ht], by rw [hz]; exact h.2.1, fun x kd N hx => ?_, fun j hj => va_Z.kept (h.2.2.2 j hj) (fun q _ hn => hq q (fun e => hn (by rw [e]; exact ha)))⟩
  rw [hs] at hx
  by_cases hxa : x = a
  · subst hxa; exact hc kd N hx
  · exact (h.2.2.1 x kd N hx).kept (hq x hxa) (h1 x hxa) (h2 x hxa)
theorem celR.lt {D : va_G} {cA : Nat → ClassId} {b0 : Nat} {s : State} {σ : Sto} {H : Heap} {a kd N : Nat} (h : celR D cA b0 s σ H a kd N) : a < H.size := by
  obtain ⟨c1, c2, c3, c4⟩ := h
  rcases (show (kd = 0 ∨ kd = 1) ∨ (kd = 2 ∨ kd = 3) ∨ kd = 4 ∨ 4 < kd by omega) with q | q | q | q
  · exact (Array.getElem?_eq_some_iff.mp (c1 q).1).1
  · exact (Array.getElem?_eq_some_iff.mp (c2 q).1).1
  · obtain ⟨cell, d1, -⟩ := c3 q
    exact (Array.getElem?_eq_some_iff.mp d1).1
  · obtain ⟨ci, -, -, ⟨cell, d1, -⟩, -⟩ := c4 q
    exact (Array.getElem?_eq_some_iff.mp d1).1
theorem Rep.new {D : va_G} {cA : Nat → ClassId} {b0 : Nat} {zt : Nat → Nat} {s : State} {σ : Sto} {H H1 : Heap} {kd N : Nat} (h : Rep D cA b0 zt s σ H) (hz : H1.size = H.size + 1) (hq : ∀ q : Nat, q < H.size → H1[q]? = H[q]?) (hc : celR D cA b0 s (mkS σ kd N) H1 (topS σ) kd N) : Rep D cA b0 zt s (mkS σ kd N) H1 := by
  refine ⟨by rw [hz, h.1]; rfl, by rw [hz]; have := h.2.1; omega, fun x k n hx => ?_, fun j hj => va_Z.kept (h.2.2.2 j hj) (fun q hl _ => hq q hl)⟩
  by_cases hxa : x = topS σ
  · subst hxa
    have e : shp (mkS σ kd N) (topS σ) = some (kd, N) := if_pos rfl
    rw [e] at hx
    cases hx
    exact hc
  · have e : shp (mkS σ kd N) x = shp σ x := if_neg hxa
    rw [e] at hx
    have hh := h.2.2.1 x k n hx
    exact hh.kept (hq x hh.lt) (fun j => if_neg hxa) (fun j => if_neg hxa)
