/-! THE START: the tables' words give the classes, the arrays and the five rows that nobody writes -/
theorem st_ch {n : Nat} (h : chM n = true) (r : ∀ k, k < n → chM k = true) : ∀ k, k < n + 1 → chM k = true := by
  intro k hk
  rcases Nat.lt_or_ge k n with q | q
  · exact r k q
  · have e : k = n := by omega
    rw [e]
    exact h
theorem chs_00 : ∀ k, k < 0 → chM k = true := fun k h => absurd h (Nat.not_lt_zero k)
theorem chs_20 : ∀ k, k < 20 → chM k = true := st_ch ch_19 (st_ch ch_18 (st_ch ch_17 (st_ch ch_16 (st_ch ch_15 (st_ch ch_14 (st_ch ch_13 (st_ch ch_12 (st_ch ch_11 (st_ch ch_10 (st_ch ch_9 (st_ch ch_8 (st_ch ch_7 (st_ch ch_6 (st_ch ch_5 (st_ch ch_4 (st_ch ch_3 (st_ch ch_2 (st_ch ch_1 (st_ch ch_0 (chs_00))))))))))))))))))))
theorem chs_40 : ∀ k, k < 40 → chM k = true := st_ch ch_39 (st_ch ch_38 (st_ch ch_37 (st_ch ch_36 (st_ch ch_35 (st_ch ch_34 (st_ch ch_33 (st_ch ch_32 (st_ch ch_31 (st_ch ch_30 (st_ch ch_29 (st_ch ch_28 (st_ch ch_27 (st_ch ch_26 (st_ch ch_25 (st_ch ch_24 (st_ch ch_23 (st_ch ch_22 (st_ch ch_21 (st_ch ch_20 (chs_20))))))))))))))))))))
theorem chs_60 : ∀ k, k < 60 → chM k = true := st_ch ch_59 (st_ch ch_58 (st_ch ch_57 (st_ch ch_56 (st_ch ch_55 (st_ch ch_54 (st_ch ch_53 (st_ch ch_52 (st_ch ch_51 (st_ch ch_50 (st_ch ch_49 (st_ch ch_48 (st_ch ch_47 (st_ch ch_46 (st_ch ch_45 (st_ch ch_44 (st_ch ch_43 (st_ch ch_42 (st_ch ch_41 (st_ch ch_40 (chs_40))))))))))))))))))))
theorem chs_80 : ∀ k, k < 80 → chM k = true := st_ch ch_79 (st_ch ch_78 (st_ch ch_77 (st_ch ch_76 (st_ch ch_75 (st_ch ch_74 (st_ch ch_73 (st_ch ch_72 (st_ch ch_71 (st_ch ch_70 (st_ch ch_69 (st_ch ch_68 (st_ch ch_67 (st_ch ch_66 (st_ch ch_65 (st_ch ch_64 (st_ch ch_63 (st_ch ch_62 (st_ch ch_61 (st_ch ch_60 (chs_60))))))))))))))))))))
theorem chs_upto : ∀ k, k < 96 → chM k = true := st_ch ch_95 (st_ch ch_94 (st_ch ch_93 (st_ch ch_92 (st_ch ch_91 (st_ch ch_90 (st_ch ch_89 (st_ch ch_88 (st_ch ch_87 (st_ch ch_86 (st_ch ch_85 (st_ch ch_84 (st_ch ch_83 (st_ch ch_82 (st_ch ch_81 (st_ch ch_80 (chs_80))))))))))))))))
theorem chs : Chs := chs_upto
theorem inst_w {ci : Nat} (h : ci < 6) : (Jvm.Cond.instantiable (RN ci) (NF ci)) ∈ bigW := by
  rcases (show ci = 0 ∨ ci = 1 ∨ ci = 2 ∨ ci = 3 ∨ ci = 4 ∨ ci = 5 by omega) with rfl | rfl | rfl | rfl | rfl | rfl
  · exact (new_word tbs (o := 5) (i := 31) (ci := 0) (by decide +kernel)).2.2.1
  · exact (new_word tbs (o := 5) (i := 38) (ci := 1) (by decide +kernel)).2.2.1
  · exact (new_word tbs (o := 5) (i := 45) (ci := 2) (by decide +kernel)).2.2.1
  · exact (new_word tbs (o := 4) (i := 9) (ci := 3) (by decide +kernel)).2.2.1
  · exact (new_word tbs (o := 5) (i := 7) (ci := 4) (by decide +kernel)).2.2.1
  · exact (new_word tbs (o := 6) (i := 10) (ci := 5) (by decide +kernel)).2.2.1
theorem arr_w {s : State} {args : Array Value} {ty : FieldType} (hty : ty = .int ∨ ty = .boolean) (h : (Jvm.Cond.arrayClass ty).before args s = true) : ∃ c : ClassId, ArrOfT s c ty ∧ va_RA s c ty := by
  obtain ⟨c, k, comp, h1, h2, h3⟩ := Cond.arrayClass_spec h
  refine ⟨c, fun n z => ⟨fun k h => (by cases h), k, h2, comp, h3⟩, ?_⟩
  rcases hty with rfl | rfl <;> exact h1
theorem aro_w {s : State} {args : Array Value} {C : String} (h : (Jvm.Cond.arrayOver (.object C)).before args s = true) : ∃ c : ClassId, ArrOfT s c (.object C) ∧ va_RA s c (.object C) := by
  obtain ⟨comp, c, k, h1, h2, h3, h4, h5⟩ := Cond.arrayOver_spec h
  exact ⟨c, fun n z => ⟨fun k h => (by cases h), k, h3, comp, h4⟩, k, comp, h3, h4, h1, h5⟩
theorem k_tab {s : State} {args : Array Value} (hts : ∀ w ∈ lw_tbl, w.before args s = true) : ∃ (D : va_G) (cA : Nat → ClassId), Kx D cA s := by
  have hB : ∀ w ∈ bigW, w.before args s = true := fun w h => hts w (List.mem_filter.mp h).1
  have hu : ∀ ci : Nat, ∃ q : ClassId × (Nat → Nat), ci < 6 → u_Kn s (RN ci) (TN ci) (NF ci) q.1 q.2 := fun ci => by
    by_cases h : ci < 6
    · obtain ⟨cC, iS, hk⟩ := u_known (C := RN ci) (T := TN ci) (N := NF ci) (n := NF ci) hB (uw_in tbs h) (hB _ (inst_w h))
      exact ⟨(cC, iS), fun _ => hk⟩
    · exact ⟨((0 : Nat), fun _ => 0), fun q => absurd q h⟩
  obtain ⟨c0, a0, r0⟩ := arr_w (ty := .int) (Or.inl rfl) (hB _ (inP_mem wd_ari))
  obtain ⟨c1, a1, r1⟩ := arr_w (ty := .boolean) (Or.inr rfl) (hB _ (inP_mem wd_arz))
  have h4 := hts _ (List.mem_of_getElem? wd_ao4)
  have h3 := hts _ (List.mem_of_getElem? wd_ao3)
  obtain ⟨c2, a2, r2⟩ := aro_w h4
  obtain ⟨c3, a3, r3⟩ := aro_w h3
  refine ⟨(fun c => (Classical.choose (hu c)).1, fun c => (Classical.choose (hu c)).2), fun j => match j with
    | 0 => c0
    | 1 => c1
    | 2 => c2
    | _ => c3, ⟨fun c q hq => ?_, fun k q hq => ?_⟩, va_Nw.of rfl (hts _ (List.mem_of_getElem? wd_n40)), va_Nw.of rfl (hts _ (List.mem_of_getElem? wd_n43)), va_AO.of h4, va_AO.of h3⟩
  · by_cases h : c < 6
    · rw [cl_at h] at hq
      cases hq
      exact Classical.choose_spec (hu c) h
    · rw [List.getElem?_eq_none (by show 6 ≤ c; omega)] at hq
      cases hq
  · unfold tyL at hq
    match k, hq with
    | 0, hq => cases hq; exact ⟨a0, r0⟩
    | 1, hq => cases hq; exact ⟨a1, r1⟩
    | 2, hq => cases hq; exact ⟨a2, r2⟩
    | 3, hq => cases hq; exact ⟨a3, r3⟩
    | k + 4, hq => cases hq
-- the five rows
def zV (j : Nat) : List Int := match j with
  | 0 => [3, 4, 1, 1]
  | 1 => [3, 1, 5, 40, 8]
  | 2 => [9, 9, 9, 3]
  | 3 => [1, 1, 0, 1, 1]
  | _ => [9, 3, 9, 99, 20]
def zW (j : Nat) : Nat := match j with
  | 0 => 42
  | 1 => 44
  | 2 => 520
  | 3 => 500
  | _ => 502
def zTm (j : Nat) : Term := .static RX5 (sN j) "[I"
def zF (j : Nat) : Nat → Value := fun i => .int (Int32.ofInt ((zV j).getD i 0))
def zcA (j : Nat) : Jvm.Cond := .arrayOf (zTm j) .int
def zcL (j : Nat) : Jvm.Cond := .eq (.length (zTm j)) (.int (Int32.ofNat (zV j).length))
def zcN (j : Nat) : Jvm.Cond := .not (.eq (.arg 0) (zTm j))
def zcE (j i : Nat) : Jvm.Cond := .eq (.elem (zTm j) (.int (Int32.ofNat i))) (.int (Int32.ofInt ((zV j).getD i 0)))
def zOk (j : Nat) : Bool := decide (lw_tbl[zW j]? = some (Jvm.Cond.laysStatic RX5 (sN j) "[I")) && decide (zcA j ∈ flatC (Jvm.Cond.and given_1 narrow_1)) && decide (zcL j ∈ flatC (Jvm.Cond.and given_1 narrow_1)) && decide (zcN j ∈ flatC (Jvm.Cond.and given_1 narrow_1)) && (List.range (zV j).length).all (fun i => decide (zcE j i ∈ flatC (Jvm.Cond.and given_1 narrow_1))) && decide (2 ≤ (zV j).length ∧ (zV j).length ≤ 5)
theorem z_ok : (List.range 5).all zOk = true := by decide +kernel
theorem z_ini : lw_tbl[13]? = some (Jvm.Cond.initialized RX5) := by decide +kernel
theorem z_sig : ∀ i, i < 5 → ∀ j, j < 5 → i ≠ j → ¬ (Int32.ofInt ((zV i).getD 0 0) = Int32.ofInt ((zV j).getD 0 0) ∧ Int32.ofInt ((zV i).getD 1 0) = Int32.ofInt ((zV j).getD 1 0)) := by decide +kernel
theorem z_get {s : State} {b : Nat} (hts : ∀ w ∈ lw_tbl, w.before #[Value.ref b] s = true) (hgv : (Jvm.Cond.and given_1 narrow_1).before #[Value.ref b] s = true) {j : Nat} (hj : j < 5) : ∃ t : Nat, va_T .int t (zV j).length (zF j) (fun q => s.heap.size ≤ q) s s.heap ∧ va_Z RX5 (sN j) "[I" (.ref t) (fun q => s.heap.size ≤ q) s s.heap ∧ b ≠ t := by
  have hs := flat_of_before _ hgv
  have h := List.all_eq_true.mp z_ok j (List.mem_range.mpr hj)
  unfold zOk at h
  simp only [Bool.and_eq_true, decide_eq_true_eq] at h
  obtain ⟨⟨⟨⟨⟨h1, h2⟩, h3⟩, h4⟩, h5⟩, h6⟩ := h
  have hA : ∀ a : Nat, a < s.heap.size → ¬ (fun q : Nat => s.heap.size ≤ q) a := fun a h => Nat.not_le.mpr h
  obtain ⟨t, ht, hT⟩ := va_Tof (N := (zV j).length) (f := zF j) (A := fun q : Nat => s.heap.size ≤ q) (by omega) (hs _ h2) (va_eqt (hs _ h3)) (fun i hi => va_eqt (hs _ (of_decide_eq_true (List.all_eq_true.mp h5 i (List.mem_range.mpr hi))))) hA
  refine ⟨t, hT, va_Zref (hts _ (List.mem_of_getElem? h1)) (hts _ (List.mem_of_getElem? z_ini)) ht hA, fun e => ?_⟩
  have hn := hs _ h4
  have ha : (Term.arg 0).eval #[Value.ref b] s none [] s = some (.ref b) := rfl
  rw [← e] at ht
  unfold zcN at hn
  simp [Jvm.Cond.before, Jvm.Cond.holds, Jvm.Cond.value, ha, ht] at hn
theorem z_apart {s : State} {i j t : Nat} (hi : i < 5) (hj : j < 5) (h1 : va_T .int t (zV i).length (zF i) (fun q => s.heap.size ≤ q) s s.heap) (h2 : va_T .int t (zV j).length (zF j) (fun q => s.heap.size ≤ q) s s.heap) : i = j := by
  by_cases e : i = j
  · exact e
  exfalso
  obtain ⟨c1, a1, a2, a3, a4, a5, a6, a7⟩ := h1
  obtain ⟨c2, b1, b2, b3, b4, b5, b6, b7⟩ := h2
  cases a1.symm.trans b1
  have len : ∀ j, j < 5 → 2 ≤ (zV j).length := by decide
  have l1 := len i hi
  have l2 := len j hj
  have key : ∀ q, q < 2 → zF i q = zF j q := fun q hq => Option.some.inj ((a6 q (by omega)).symm.trans (b6 q (by omega)))
  exact z_sig i hi j hj e ⟨Value.int.inj (key 0 (by omega)), Value.int.inj (key 1 (by omega))⟩
-- the abstract machine's start
def zIx (zt : Nat → Nat) (a : Nat) : Option Nat := (List.range 5).find? (fun j => zt j == a)
def zSh (zt : Nat → Nat) (b L a : Nat) : Option (Nat × Nat) := if a = b then some (4, L) else (zIx zt a).map (fun j => (4, (zV j).length))
def zG (zt : Nat → Nat) (b : Nat) (xs : Nat → Int32) (a i : Nat) : Int := if a = b then (xs i).toInt else match zIx zt a with
  | some j => (zV j).getD i 0
  | none => 0
def zSt (zt : Nat → Nat) (b L top : Nat) (xs : Nat → Int32) : Sto := (zG zt b xs, fun _ _ => none, zSh zt b L, top, 0)
theorem zIx_at {zt : Nat → Nat} (hz : ∀ i, i < 5 → ∀ j, j < 5 → zt i = zt j → i = j) {j : Nat} (hj : j < 5) : zIx zt (zt j) = some j := by
  cases h : zIx zt (zt j) with
  | none =>
    have := List.find?_eq_none.mp h j (List.mem_range.mpr hj)
    simp at this
  | some i =>
    have h1 := List.find?_some h
    have h2 := List.mem_range.mp (List.mem_of_find?_eq_some h)
    rw [hz i h2 j hj (by simpa using h1)]
theorem zIx_of {zt : Nat → Nat} {a j : Nat} (h : zIx zt a = some j) : j < 5 ∧ zt j = a := ⟨List.mem_range.mp (List.mem_of_find?_eq_some h), by have := List.find?_some h; simpa using this⟩
theorem st_rep {D : va_G} {cA : Nat → ClassId} {s : State} {zt : Nat → Nat} {b L : Nat} {xs : Nat → Int32} (hX : va_X b L xs s s.heap) (hbl : b < s.heap.size) (hz : ∀ j, j < 5 → va_T .int (zt j) (zV j).length (zF j) (fun q => s.heap.size ≤ q) s s.heap ∧ va_Z RX5 (sN j) "[I" (.ref (zt j)) (fun q => s.heap.size ≤ q) s s.heap ∧ b ≠ zt j) : Rep D cA s.heap.size zt s (zSt zt b L s.heap.size xs) s.heap := by
  refine ⟨rfl, Nat.le_refl _, fun a kd N hs => ?_, fun j hj => (hz j hj).2.1⟩
  have hs : zSh zt b L a = some (kd, N) := hs
  unfold zSh at hs
  by_cases e : a = b
  · subst e
    rw [if_pos rfl] at hs
    cases hs
    refine ⟨fun q => by omega, fun q => by omega, fun _ => ?_, fun q => by omega⟩
    obtain ⟨scr, x1, x2, x3, x4, x5⟩ := hX
    refine ⟨scr, x1, x2, x3, by omega, by rw [x4], fun j hj => ?_, Nat.not_le.mpr hbl⟩
    rw [x5 j hj]
    show _ = some (Value.int (Int32.ofInt (zG zt a xs a j)))
    unfold zG
    rw [if_pos rfl, Int32.ofInt_toInt]
  · rw [if_neg e] at hs
    cases hi : zIx zt a with
    | none => rw [hi] at hs; cases hs
    | some j =>
      rw [hi] at hs
      cases hs
      obtain ⟨h1, h2⟩ := zIx_of hi
      refine ⟨fun q => by omega, fun q => by omega, fun _ => ?_, fun q => by omega⟩
      have hT := (hz j h1).1
      rw [h2] at hT
      have e2 : (fun i => Value.int (Int32.ofInt ((zSt zt b L s.heap.size xs).1 a i))) = zF j := by
        funext i
        show Value.int (Int32.ofInt (zG zt b xs a i)) = _
        unfold zG zF
        rw [if_neg e, hi]
      rw [e2]
      exact hT
theorem st_zr {s : State} {zt : Nat → Nat} {b L : Nat} {xs : Nat → Int32} (hz : ∀ j, j < 5 → va_T .int (zt j) (zV j).length (zF j) (fun q => s.heap.size ≤ q) s s.heap ∧ va_Z RX5 (sN j) "[I" (.ref (zt j)) (fun q => s.heap.size ≤ q) s s.heap ∧ b ≠ zt j) : zrI (zSt zt b L s.heap.size xs).1 (zSt zt b L s.heap.size xs).2 zt s.heap.size := by
  have hap : ∀ i, i < 5 → ∀ j, j < 5 → zt i = zt j → i = j := fun i hi j hj e => z_apart hi hj (hz i hi).1 (by rw [e]; exact (hz j hj).1)
  have key : ∀ j, j < 5 → zrR (zSt zt b L s.heap.size xs).1 (zSt zt b L s.heap.size xs).2 (zt j) (zV j) := fun j hj => by
    have hne : zt j ≠ b := fun e => (hz j hj).2.2 e.symm
    have hsh : (zSt zt b L s.heap.size xs).2.2.1 (zt j) = some (4, (zV j).length) := by
      show zSh zt b L (zt j) = _
      unfold zSh
      rw [if_neg hne, zIx_at hap hj]
      rfl
    refine ⟨kdI_of hsh, lnA_of hsh, fun i hi => ?_⟩
    show zG zt b xs (zt j) i = _
    unfold zG
    rw [if_neg hne, zIx_at hap hj]
  refine ⟨fun i hi => ?_, key 0 (by omega), key 1 (by omega), key 2 (by omega), key 3 (by omega), key 4 (by omega)⟩
  obtain ⟨c1, a1, -⟩ := (hz i hi).1
  exact (Array.getElem?_eq_some_iff.mp a1).1
theorem law_runs {s : State} {zt : Nat → Nat} {b L : Nat} {xs : Nat → Int32} (hL : L ≤ 260) (hbl : b < s.heap.size) (hz : ∀ j, j < 5 → va_T .int (zt j) (zV j).length (zF j) (fun q => s.heap.size ≤ q) s s.heap ∧ va_Z RX5 (sN j) "[I" (.ref (zt j)) (fun q => s.heap.size ≤ q) s s.heap ∧ b ≠ zt j) :
    ∃ (n : Nat) (σ' : Sto), run zt n 95 (P 95 0) (ent 95 [AR b]) [] (zSt zt b L s.heap.size xs) = some (some (AI 1), σ') ∧ topS σ' = s.heap.size + 204 ∧ usdS σ' = 9964 := by
  have h : WpM zt 95 [AR b] (zSt zt b L s.heap.size xs) (fun v σ' => v = some (AI 1) ∧ topS σ' = s.heap.size + 204 ∧ usdS σ' = 9964) :=
    law_ok (n := L) (by show zSh zt b L b = _; unfold zSh; rw [if_pos rfl]) hbl (by omega) rfl (st_zr hz) (fun g' ρ' h1 h2 => ⟨rfl, h1, h2.trans (Nat.zero_add _)⟩)
  obtain ⟨n, v, σ', hr, hv, h1, h2⟩ := h
  rw [hv] at hr
  exact ⟨n, σ', hr, h1, h2⟩
theorem by95 : byM 95 = code := rfl
theorem mx95 : mxM 95 = 5 := rfl
theorem dp95 : dpM 95 ≤ 10 := by decide +kernel
theorem dq95 : 40 * dpM 95 ≤ 394 := by decide +kernel
theorem cl95 : RN (clM 95) = "LipFlapsLaw" := rfl
theorem in95 : inM 95 = false := by decide +kernel
