/-! steps: arrays, new cells, statics, natives -/
section SNE
variable {p : Program} {l : Launch} {e : Env} {R : Room} {s : State} {m : MethodId} {args : Array Value} {below : List Frame} {meth : Method} {c : Code} {H : Heap} {locs : List Loc} {cells slots : Nat} {Q : State → Prop}
variable {D : va_G} {cA : Nat → ClassId} {b0 : Nat} {zt : Nat → Nat} {k pc pc' : Nat} {lsA : Array Slot} {ls ls' : LsT} {st st' : List AV} {σ σ' : Sto} {x : List Nat}
theorem ty_at (hK : Kx D cA s) {kd : Nat} {ty : FieldType} (h : (tyL cA)[kd]? = some (cA kd, ty)) : ArrOfT s (cA kd) ty ∧ va_RA s (cA kd) ty := hK.1.2 kd _ h
theorem wrI_ne {f : Nat → Nat → Int} {a i : Nat} {v : Int} {x : Nat} (h : x ≠ a) (j : Nat) : wrI f a i v x j = f x j := if_neg (fun q => h q.1)
theorem wrR_ne {f : Nat → Nat → Option Nat} {a i : Nat} {v : Option Nat} {x : Nat} (h : x ≠ a) (j : Nat) : wrR f a i v x j = f x j := if_neg (fun q => h q.1)
theorem c_ald (C : Cx D cA p s args m meth c k) {a kd N : Nat} {i : Int} (hc : celR D cA b0 s σ H a kd N) (hkd : kd = 0 ∨ kd = 4) (h0 : 0 ≤ i) (h1 : i < N) (h2 : i < 65536) (hd : decode (byM k) pc = .ok (.iaload, 1)) {rest : List Value}
    (kk : W p l e R s m args below meth c H locs cells slots Q (F0 m (pc + 1) lsA (.int (Int32.ofInt (σ.1 a i.toNat)) :: rest))) : W p l e R s m args below meth c H locs cells slots Q (F0 m pc lsA (.int (Int32.ofInt i) :: .ref a :: rest)) := by
  obtain ⟨hx, hb, hml, hown, hts, hin, hK, hT⟩ := C
  have hvi := z_in h0 h1 h2
  have hlt : i.toNat < N := by omega
  rcases hkd with rfl | rfl
  · have hcell := (hc.1 (Or.inl rfl)).1
    exact W.iald (v := .int (Int32.ofInt (σ.1 a i.toNat))) hx hb hcell ((ty_at hK (kd := 0) rfl).1 N _) (fun q => by cases q) (by rw [arrV_size]; exact hvi) (by rw [z_nat h0 h2, arrV_read _ _ hlt]) rfl rfl hd kk
  · obtain ⟨cell, d1, d2, d3, d4, d5, d6, d7⟩ := hc.2.2.1 rfl
    have hvi2 : vp_in (Int32.ofInt i) cell.slots.size := z_in h0 (by omega) h2
    exact W.iald (v := .int (Int32.ofInt (σ.1 a i.toNat))) hx hb d1 d2 d3 hvi2 (by rw [z_nat h0 h2]; exact d6 _ hlt) rfl rfl hd kk
theorem c_bld (C : Cx D cA p s args m meth c k) {a kd N : Nat} {i : Int} (hc : celR D cA b0 s σ H a kd N) (hkd : kd = 1) (h0 : 0 ≤ i) (h1 : i < N) (h2 : i < 65536) (hd : decode (byM k) pc = .ok (.baload, 1)) {rest : List Value}
    (kk : W p l e R s m args below meth c H locs cells slots Q (F0 m (pc + 1) lsA (.int (Int32.ofInt (σ.1 a i.toNat)) :: rest))) : W p l e R s m args below meth c H locs cells slots Q (F0 m pc lsA (.int (Int32.ofInt i) :: .ref a :: rest)) := by
  obtain ⟨hx, hb, hml, hown, hts, hin, hK, hT⟩ := C
  subst hkd
  have hcell := (hc.1 (Or.inr rfl)).1
  exact W.zald (v := .int (Int32.ofInt (σ.1 a i.toNat))) hx hb hcell ((ty_at hK (kd := 1) rfl).1 N _) (fun q => by cases q) (by rw [arrV_size]; exact z_in h0 h1 h2) (by rw [z_nat h0 h2, arrV_read _ _ (by omega)]) rfl rfl hd kk
theorem rep_wrI (hR : Rep D cA b0 zt s σ H) {H1 : Heap} {a kd N i : Nat} {v : Int} (hs : shp σ a = some (kd, N)) (hkd : kd = 0 ∨ kd = 1) (e1 : H1[a]? = some ((arrV (cA kd) N (fun j => .int (Int32.ofInt (σ.1 a j)))).setSlot i (.int (Int32.ofInt v)))) (e2 : H1.size = H.size) (e3 : ∀ q, q ≠ a → H1[q]? = H[q]?) : Rep D cA b0 zt s (wrI σ.1 a i v, σ.2) H1 := by
  have hc := hR.2.2.1 a kd N hs
  refine hR.put rfl e2 e3 (hc.1 hkd).2 (fun x hx j => wrI_ne hx j) (fun x _ j => rfl) (fun kd' N' hs' => ?_)
  rw [hs] at hs'
  cases hs'
  refine ⟨fun q => ⟨?_, (hc.1 hkd).2⟩, fun q => by omega, fun q => by omega, fun q => by omega⟩
  rw [e1, arrV_store]
  congr 2
  funext j
  show (if j = i then _ else _) = Value.int (Int32.ofInt (if a = a ∧ j = i then v else σ.1 a j))
  by_cases hj : j = i
  · rw [if_pos hj, if_pos ⟨rfl, hj⟩]
  · rw [if_neg hj, if_neg (fun q => hj q.2)]
theorem c_ast (C : Cx D cA p s args m meth c k) {a N : Nat} {i v : Int} (hR : Rep D cA b0 zt s σ H) (hs : shp σ a = some (0, N)) (h0 : 0 ≤ i) (h1 : i < N) (h2 : i < 65536) (hd : decode (byM k) pc = .ok (.iastore, 1)) {rest : List Value} (hlo : ∀ x ∈ locs, b0 ≤ x.base)
    (kk : ∀ (H1 : Heap) (locs1 : List Loc), Rep D cA b0 zt s (wrI σ.1 a i.toNat v, σ.2) H1 → (∀ x ∈ locs1, b0 ≤ x.base) → W p l e R s m args below meth c H1 locs1 cells slots Q (F0 m (pc + 1) lsA rest)) : W p l e R s m args below meth c H locs cells slots Q (F0 m pc lsA (.int (Int32.ofInt v) :: .int (Int32.ofInt i) :: .ref a :: rest)) := by
  obtain ⟨hx, hb, hml, hown, hts, hin, hK, hT⟩ := C
  have hc := hR.2.2.1 a 0 N hs
  have hcell := hc.1 (Or.inl rfl)
  refine W.iast hx hb hcell.1 ((ty_at hK (kd := 0) rfl).1 N _) (fun q => by cases q) (by rw [arrV_size]; exact z_in h0 h1 h2) rfl rfl hd fun H1 e1 e2 e3 => ?_
  rw [z_nat h0 h2] at e1 ⊢
  exact kk H1 _ (rep_wrI hR hs (Or.inl rfl) e1 e2 e3) (lo_put hlo hcell.2)
theorem c_bst (C : Cx D cA p s args m meth c k) {a N : Nat} {i v : Int} (hR : Rep D cA b0 zt s σ H) (hs : shp σ a = some (1, N)) (h0 : 0 ≤ i) (h1 : i < N) (h2 : i < 65536) (hv : v = 0 ∨ v = 1) (hd : decode (byM k) pc = .ok (.bastore, 1)) {rest : List Value} (hlo : ∀ x ∈ locs, b0 ≤ x.base)
    (kk : ∀ (H1 : Heap) (locs1 : List Loc), Rep D cA b0 zt s (wrI σ.1 a i.toNat v, σ.2) H1 → (∀ x ∈ locs1, b0 ≤ x.base) → W p l e R s m args below meth c H1 locs1 cells slots Q (F0 m (pc + 1) lsA rest)) : W p l e R s m args below meth c H locs cells slots Q (F0 m pc lsA (.int (Int32.ofInt v) :: .int (Int32.ofInt i) :: .ref a :: rest)) := by
  obtain ⟨hx, hb, hml, hown, hts, hin, hK, hT⟩ := C
  have hc := hR.2.2.1 a 1 N hs
  have hcell := hc.1 (Or.inr rfl)
  refine W.zast hx hb hcell.1 ((ty_at hK (kd := 1) rfl).1 N _) (fun q => by cases q) (by rw [arrV_size]; exact z_in h0 h1 h2) rfl rfl hd fun H1 e1 e2 e3 => ?_
  have hn : narrow .boolean (.int (Int32.ofInt v)) = .int (Int32.ofInt v) := by rcases hv with rfl | rfl <;> rfl
  rw [z_nat h0 h2, hn] at e1
  rw [z_nat h0 h2]
  exact kk H1 _ (rep_wrI hR hs (Or.inr rfl) e1 e2 e3) (lo_put hlo hcell.2)
theorem c_qld (C : Cx D cA p s args m meth c k) {a kd N : Nat} {i : Int} (hc : celR D cA b0 s σ H a kd N) (hkd : kd = 2 ∨ kd = 3) (h0 : 0 ≤ i) (h1 : i < N) (h2 : i < 65536) (hd : decode (byM k) pc = .ok (.aaload, 1)) {rest : List Value}
    (kk : W p l e R s m args below meth c H locs cells slots Q (F0 m (pc + 1) lsA (con (.inr (σ.2.1 a i.toNat)) :: rest))) : W p l e R s m args below meth c H locs cells slots Q (F0 m pc lsA (.int (Int32.ofInt i) :: .ref a :: rest)) := by
  obtain ⟨hx, hb, hml, hown, hts, hin, hK, hT⟩ := C
  have hcell := (hc.2.1 hkd).1
  have hlt : i.toNat < N := by omega
  rcases hkd with rfl | rfl
  · exact W.aald (v := con (.inr (σ.2.1 a i.toNat))) (ty := .object RX4) hx hb hcell ((ty_at hK (kd := 2) rfl).1 N _) rfl (fun q => by cases q) (by rw [arrV_size]; exact z_in h0 h1 h2) (by rw [z_nat h0 h2, arrV_read _ _ hlt]) rfl rfl hd kk
  · exact W.aald (v := con (.inr (σ.2.1 a i.toNat))) (ty := .object RX3) hx hb hcell ((ty_at hK (kd := 3) rfl).1 N _) rfl (fun q => by cases q) (by rw [arrV_size]; exact z_in h0 h1 h2) (by rw [z_nat h0 h2, arrV_read _ _ hlt]) rfl rfl hd kk
theorem c_qst (C : Cx D cA p s args m meth c k) {a b kd kb N M : Nat} {i : Int} (hR : Rep D cA b0 zt s σ H) (hs : shp σ a = some (kd, N)) (hs2 : shp σ b = some (kb, M)) (hkd : kd = 2 ∧ kb = 14 ∨ kd = 3 ∧ kb = 13) (h0 : 0 ≤ i) (h1 : i < N) (h2 : i < 65536) (hd : decode (byM k) pc = .ok (.aastore, 1)) {rest : List Value} (hlo : ∀ x ∈ locs, b0 ≤ x.base)
    (kk : ∀ (H1 : Heap) (locs1 : List Loc), Rep D cA b0 zt s (σ.1, wrR σ.2.1 a i.toNat (some b), σ.2.2) H1 → (∀ x ∈ locs1, b0 ≤ x.base) → W p l e R s m args below meth c H1 locs1 cells slots Q (F0 m (pc + 1) lsA rest)) : W p l e R s m args below meth c H locs cells slots Q (F0 m pc lsA (.ref b :: .int (Int32.ofInt i) :: .ref a :: rest)) := by
  obtain ⟨hx, hb, hml, hown, hts, hin, hK, hT⟩ := C
  have hc := hR.2.2.1 a kd N hs
  have hkd2 : kd = 2 ∨ kd = 3 := by omega
  have hcell := hc.2.1 hkd2
  obtain ⟨ci, e1, hci, ⟨cellV, g1, g2, g3, -⟩, -⟩ := (hR.2.2.1 b kb M hs2).2.2.2 (by omega)
  have hcls := (hK.1.1 ci _ (cl_at hci)).2
  have key : ∃ (kA : Class) (t : FieldType), s.vm.classes[cA kd]? = some kA ∧ kA.kind = .array (D.1 ci) t ∧ t.isReference = true := by
    rcases hkd with ⟨rfl, rfl⟩ | ⟨rfl, rfl⟩
    · have e2 : ci = 4 := by omega
      subst e2
      obtain ⟨kA, comp, k1, k2, k3, -⟩ := (ty_at hK (kd := 2) rfl).2
      have hcomp : comp = D.1 4 := Option.some.inj (k3.symm.trans hcls.1)
      subst hcomp
      exact ⟨kA, _, k1, k2, rfl⟩
    · have e2 : ci = 3 := by omega
      subst e2
      obtain ⟨kA, comp, k1, k2, k3, -⟩ := (ty_at hK (kd := 3) rfl).2
      have hcomp : comp = D.1 3 := Option.some.inj (k3.symm.trans hcls.1)
      subst hcomp
      exact ⟨kA, _, k1, k2, rfl⟩
  obtain ⟨kA, t, k1, k2, kr⟩ := key
  obtain ⟨kC, hkC, -⟩ := hcls.2
  have hlt : i.toNat < N := by omega
  refine W.aast hx hb hcell.1 (fun q h => by cases h) (fun h => by cases h) k1 k2 kr hkC ⟨z_nn h0 h2, by rw [z_nat h0 h2, arrV_size]; exact hlt⟩ g1 (fun q h => by rw [g3] at h; cases h) (by rw [g2]; exact hkC) (by rw [g2]; exact va_assign hcls) rfl rfl hd fun H1 e1 e2 e3 => ?_
  rw [z_nat h0 h2] at e1 ⊢
  refine kk H1 _ (hR.put rfl e2 e3 hcell.2 (fun x _ j => rfl) (fun x hx j => wrR_ne hx j) (fun kd' N' hs' => ?_)) (lo_put hlo hcell.2)
  rw [hs] at hs'
  cases hs'
  refine ⟨fun q => by omega, fun q => ⟨?_, hcell.2⟩, fun q => by omega, fun q => by omega⟩
  rw [e1, arrV_store]
  congr 2
  funext j
  show (if j = i.toNat then _ else _) = con (.inr (if a = a ∧ j = i.toNat then some b else σ.2.1 a j))
  by_cases hj : j = i.toNat
  · rw [if_pos hj, if_pos ⟨rfl, hj⟩]; rfl
  · rw [if_neg hj, if_neg (fun q => hj q.2)]
theorem c_len (C : Cx D cA p s args m meth c k) {a kd N : Nat} (hc : celR D cA b0 s σ H a kd N) (hkd : kd ≤ 4) (hd : decode (byM k) pc = .ok (.arraylength, 1)) {rest : List Value}
    (kk : W p l e R s m args below meth c H locs cells slots Q (F0 m (pc + 1) lsA (.int (Int32.ofInt (N : Int)) :: rest))) : W p l e R s m args below meth c H locs cells slots Q (F0 m pc lsA (.ref a :: rest)) := by
  obtain ⟨hx, hb, hml, hown, hts, hin, hK, hT⟩ := C
  have hN : ∀ n : Nat, n.toInt32 = Int32.ofInt (n : Int) := fun n => Int32.ofInt_eq_ofNat.symm
  rcases (show kd = 0 ∨ kd = 1 ∨ kd = 2 ∨ kd = 3 ∨ kd = 4 by omega) with rfl | rfl | rfl | rfl | rfl
  · exact W.alen hx hb (hc.1 (Or.inl rfl)).1 ((ty_at hK (kd := 0) rfl).1 N _) (by rw [arrV_size]; exact hN N) rfl rfl hd kk
  · exact W.alen hx hb (hc.1 (Or.inr rfl)).1 ((ty_at hK (kd := 1) rfl).1 N _) (by rw [arrV_size]; exact hN N) rfl rfl hd kk
  · exact W.alen hx hb (hc.2.1 (Or.inl rfl)).1 ((ty_at hK (kd := 2) rfl).1 N _) (by rw [arrV_size]; exact hN N) rfl rfl hd kk
  · exact W.alen hx hb (hc.2.1 (Or.inr rfl)).1 ((ty_at hK (kd := 3) rfl).1 N _) (by rw [arrV_size]; exact hN N) rfl rfl hd kk
  · obtain ⟨cell, d1, d2, d3, d4, d5, -⟩ := hc.2.2.1 rfl
    exact W.alen hx hb d1 d2 (by rw [d5]; exact Int32.ofInt_eq_ofNat.symm) rfl rfl hd kk
theorem mk_lt {a : Nat} {kd N : Nat} : (mkS σ kd N).1 (topS σ) a = 0 ∧ (mkS σ kd N).2.1 (topS σ) a = none := ⟨if_pos rfl, if_pos rfl⟩
theorem c_newa (C : Cx D cA p s args m meth c k) {t : ArrayType} {kd : Nat} {n : Int} (hR : Rep D cA b0 zt s σ H) (ht : (t = .int ∧ kd = 0) ∨ (t = .boolean ∧ kd = 1)) (h0 : 0 ≤ n) (h2 : n < 65536) (hd : decode (byM k) pc = .ok (.newarray t, 2)) {rest : List Value} (hc1 : cells + 1 ≤ R.cells) (hs1 : slots + n.toNat ≤ R.slots)
    (kk : ∀ H1 : Heap, Rep D cA b0 zt s (mkS σ kd n.toNat) H1 → W p l e R s m args below meth c H1 locs (cells + 1) (slots + n.toNat) Q (F0 m (pc + 2) lsA (.ref (topS σ) :: rest))) : W p l e R s m args below meth c H locs cells slots Q (F0 m pc lsA (.int (Int32.ofInt n) :: rest)) := by
  obtain ⟨hx, hb, hml, hown, hts, hin, hK, hT⟩ := C
  have hw : (Jvm.Cond.arrayClass (newarray.typeOf t)).before args s = true := by
    rcases ht with ⟨rfl, -⟩ | ⟨rfl, -⟩
    · exact hts _ (inP_mem (t_wd_ari hT))
    · exact hts _ (inP_mem (t_wd_arz hT))
  have hby : n.toNat * componentBytes (newarray.typeOf t) ≤ 536870912 := by
    rcases ht with ⟨rfl, -⟩ | ⟨rfl, -⟩
    · show n.toNat * 4 ≤ _; omega
    · show n.toNat * 1 ≤ _; omega
  refine va_newaK hx hb hw rfl hd rfl (z_nn h0 h2) (z_nat h0 h2) hby hc1 hs1 hR.1 fun H1 cB e1 z1 o1 hAr hNm => ?_
  refine kk H1 (hR.new (by rw [z1, hR.1]) (fun q hq => o1 q (by rw [← hR.1]; exact hq)) ?_)
  have hb0 : b0 ≤ topS σ := by rw [← hR.1]; exact hR.2.1
  rcases ht with ⟨rfl, rfl⟩ | ⟨rfl, rfl⟩
  · have hcB : cB = cA 0 := Option.some.inj (hNm.symm.trans (ty_at hK (kd := 0) rfl).2)
    subst hcB
    refine ⟨fun q => ⟨?_, hb0⟩, fun q => by omega, fun q => by omega, fun q => by omega⟩
    rw [e1]
    congr 2
    funext j
    rw [mk_lt.1]; rfl
  · have hcB : cB = cA 1 := Option.some.inj (hNm.symm.trans (ty_at hK (kd := 1) rfl).2)
    subst hcB
    refine ⟨fun q => ⟨?_, hb0⟩, fun q => by omega, fun q => by omega, fun q => by omega⟩
    rw [e1]
    congr 2
    funext j
    rw [mk_lt.1]; rfl
theorem anew_word (hT : Tbs) {o i kd : Nat} (h : anewT.contains [o, i, kd] = true) : (Jvm.Cond.classLink (RN o) i (kN kd)) ∈ bigW ∧ (kd = 2 ∨ kd = 3) := by
  have h1 : [o, i, kd] ∈ anewT := by simpa using h
  rw [t_okA_map hT] at h1
  obtain ⟨e, he, he2⟩ := List.mem_map.mp h1
  have h2 := List.all_eq_true.mp (t_okA_all hT) e he
  unfold okA at h2
  simp only [Bool.and_eq_true, decide_eq_true_eq] at h2
  have e0 : at4 e 0 = o ∧ at4 e 1 = i ∧ at4 e 2 = kd := by
    match e, he2 with
    | x0 :: x1 :: x2 :: _, he2 =>
      simp only [List.take_succ_cons, List.take_zero, List.cons.injEq, and_true] at he2
      exact he2
    | [], he2 => cases he2
    | [_], he2 => cases he2
    | [_, _], he2 => cases he2
  obtain ⟨rfl, rfl, rfl⟩ := e0
  exact ⟨inP_mem h2.1, h2.2⟩
theorem c_newq (C : Cx D cA p s args m meth c k) {i kd : Nat} {n : Int} (hR : Rep D cA b0 zt s σ H) (ht : anewT.contains [clM k, i, kd] = true) (h0 : 0 ≤ n) (h2 : n < 65536) (hd : decode (byM k) pc = .ok (.anewarray i, 3)) {rest : List Value} (hc1 : cells + 1 ≤ R.cells) (hs1 : slots + n.toNat ≤ R.slots)
    (kk : ∀ H1 : Heap, Rep D cA b0 zt s (mkS σ kd n.toNat) H1 → W p l e R s m args below meth c H1 locs (cells + 1) (slots + n.toNat) Q (F0 m (pc + 3) lsA (.ref (topS σ) :: rest))) : W p l e R s m args below meth c H locs cells slots Q (F0 m pc lsA (.int (Int32.ofInt n) :: rest)) := by
  obtain ⟨hx, hb, hml, hown, hts, hin, hK, hT⟩ := C
  obtain ⟨hw, hkd⟩ := anew_word hT ht
  have hov : va_AO (kN kd) s := by
    rcases hkd with rfl | rfl
    · exact hK.2.2.2.1
    · exact hK.2.2.2.2
  refine W.anew hx hb hown (hts _ hw) (va_AO.use hov) rfl hd rfl (z_nn h0 h2) (by rw [z_nat h0 h2]; omega) hc1 (by rw [z_nat h0 h2]; exact hs1) fun cB kA comp f1 f2 f3 f4 => ?_
  rw [z_nat h0 h2, hR.1]
  generalize hH1 : H.push ({ cls := cB, slots := Array.replicate n.toNat .null, vm := .none } : Cell) = H1
  have z1 : H1.size = H.size + 1 := by rw [← hH1, Array.size_push]
  have e1 : H1[topS σ]? = some (arrV cB n.toNat (fun _ => .null)) := by rw [← hR.1, ← hH1, Array.getElem?_push_size, ← arrV_new]
  have o1 : ∀ q : Nat, q < H.size → H1[q]? = H[q]? := fun q hq => by rw [← hH1, Array.getElem?_push, if_neg (Nat.ne_of_lt hq)]
  have hb0 : b0 ≤ topS σ := by rw [← hR.1]; exact hR.2.1
  refine kk H1 (hR.new z1 o1 ?_)
  rcases hkd with rfl | rfl
  · have hcB : cB = cA 2 := by
      obtain ⟨_, _, _, _, _, h4⟩ := (ty_at hK (kd := 2) rfl).2
      exact Option.some.inj (f1.symm.trans h4)
    subst hcB
    refine ⟨fun q => by omega, fun q => ⟨?_, hb0⟩, fun q => by omega, fun q => by omega⟩
    rw [e1]
    congr 2
    funext j
    rw [mk_lt.2]; rfl
  · have hcB : cB = cA 3 := by
      obtain ⟨_, _, _, _, _, h4⟩ := (ty_at hK (kd := 3) rfl).2
      exact Option.some.inj (f1.symm.trans h4)
    subst hcB
    refine ⟨fun q => by omega, fun q => ⟨?_, hb0⟩, fun q => by omega, fun q => by omega⟩
    rw [e1]
    congr 2
    funext j
    rw [mk_lt.2]; rfl
theorem new_word (hT : Tbs) {o i ci : Nat} (h : newT.contains [o, i, ci] = true) : (Jvm.Cond.classLink (RN o) i (RN ci)) ∈ bigW ∧ ci < 6 ∧ (Jvm.Cond.instantiable (RN ci) (NF ci)) ∈ bigW ∧ (Jvm.Cond.initialized (RN ci)) ∈ bigW := by
  have h1 : [o, i, ci] ∈ newT := by simpa using h
  rw [t_okN_map hT] at h1
  obtain ⟨e, he, he2⟩ := List.mem_map.mp h1
  have h2 := List.all_eq_true.mp (t_okN_all hT) e he
  unfold okN at h2
  simp only [Bool.and_eq_true, decide_eq_true_eq] at h2
  have e0 : at4 e 0 = o ∧ at4 e 1 = i ∧ at4 e 2 = ci := by
    match e, he2 with
    | x0 :: x1 :: x2 :: _, he2 =>
      simp only [List.take_succ_cons, List.take_zero, List.cons.injEq, and_true] at he2
      exact he2
    | [], he2 => cases he2
    | [_], he2 => cases he2
    | [_, _], he2 => cases he2
  obtain ⟨rfl, rfl, rfl⟩ := e0
  exact ⟨inP_mem h2.1.1.1, h2.1.1.2, inP_mem h2.1.2, inP_mem h2.2⟩
theorem ty_def {ci : Nat} (h : ci < 6) : ∀ j, j < NF ci → defaultValue (tyN ci j) = con (if fI ci j = true then .inl 0 else .inr none) := by
  have key : (List.range 6).all (fun ci => (List.range (NF ci)).all (fun j => decide (defaultValue (tyN ci j) = con (if fI ci j = true then .inl 0 else .inr none)))) = true := by decide +kernel
  intro j hj
  have h1 := List.all_eq_true.mp key ci (List.mem_range.mpr h)
  exact of_decide_eq_true (List.all_eq_true.mp h1 j (List.mem_range.mpr hj))
theorem c_new (C : Cx D cA p s args m meth c k) {i ci : Nat} (hR : Rep D cA b0 zt s σ H) (ht : newT.contains [clM k, i, ci] = true) (hd : decode (byM k) pc = .ok (.new i, 3)) {rest : List Value} (hc1 : cells + 1 ≤ R.cells) (hs1 : slots + NF ci ≤ R.slots)
    (kk : ∀ H1 : Heap, Rep D cA b0 zt s (mkS σ (10 + ci) (NF ci)) H1 → W p l e R s m args below meth c H1 locs (cells + 1) (slots + NF ci) Q (F0 m (pc + 3) lsA (.ref (topS σ) :: rest))) : W p l e R s m args below meth c H locs cells slots Q (F0 m pc lsA rest) := by
  obtain ⟨hx, hb, hml, hown, hts, hin, hK, hT⟩ := C
  obtain ⟨hw, hci, hi, hn⟩ := new_word hT ht
  have hKn := hK.1.1 ci _ (cl_at hci)
  refine W.newcK hx hb hown (hts _ hw) (hts _ hi) (hts _ hn) rfl hd hc1 hs1 hKn.2.1 hR.1 fun H1 kC hkC e1 z1 o1 => ?_
  have hb0 : b0 ≤ topS σ := by rw [← hR.1]; exact hR.2.1
  refine kk H1 (hR.new (by rw [z1, hR.1]) (fun q hq => o1 q (by rw [← hR.1]; exact hq)) ?_)
  refine ⟨fun q => by omega, fun q => by omega, fun q => by omega, fun _ => ⟨ci, rfl, hci, ?_, hb0⟩⟩
  refine (u_born (tyN ci) hts (uw_in hT hci) hKn hkC e1 (ty_ok hci)).to (fun j hj => ?_)
  rw [ty_def hci j hj]
  unfold fval
  rw [mk_lt.1, mk_lt.2]
theorem stat_word (hT : Tbs) {o i j : Nat} (h : statT.contains [o, i, j] = true) : j < 5 ∧ ((o = 3 ∧ ((i = 40 ∧ j = 0) ∨ (i = 43 ∧ j = 1))) ∨ (o = 5 ∧ (Jvm.Cond.fieldLink RX5 i RX5 (sN j) "[I") ∈ bigW)) := by
  have h1 : [o, i, j] ∈ statT := by simpa using h
  rw [t_okS_map hT] at h1
  obtain ⟨e, he, he2⟩ := List.mem_map.mp h1
  have h2 := List.all_eq_true.mp (t_okS_all hT) e he
  unfold okS at h2
  simp only [Bool.and_eq_true, decide_eq_true_eq] at h2
  have e0 : at4 e 0 = o ∧ at4 e 1 = i ∧ at4 e 2 = j := by
    match e, he2 with
    | x0 :: x1 :: x2 :: _, he2 =>
      simp only [List.take_succ_cons, List.take_zero, List.cons.injEq, and_true] at he2
      exact he2
    | [], he2 => cases he2
    | [_], he2 => cases he2
    | [_, _], he2 => cases he2
  obtain ⟨rfl, rfl, rfl⟩ := e0
  refine ⟨h2.1, ?_⟩
  have h3 := h2.2
  by_cases h30 : at4 e 0 = 3
  · rw [if_pos h30] at h3
    simp only [Bool.and_eq_true, decide_eq_true_eq] at h3
    exact Or.inl ⟨h30, h3.2⟩
  · rw [if_neg h30] at h3
    simp only [Bool.and_eq_true, decide_eq_true_eq] at h3
    exact Or.inr ⟨h3.1, inP_mem h3.2⟩
theorem c_gets (C : Cx D cA p s args m meth c k) {i j : Nat} (hR : Rep D cA b0 zt s σ H) (ht : statT.contains [clM k, i, j] = true) (hd : decode (byM k) pc = .ok (.getstatic i, 3)) {rest : List Value}
    (kk : W p l e R s m args below meth c H locs cells slots Q (F0 m (pc + 3) lsA (.ref (zt j) :: rest))) : W p l e R s m args below meth c H locs cells slots Q (F0 m pc lsA rest) := by
  obtain ⟨hx, hb, hml, hown, hts, hin, hK, hT⟩ := C
  obtain ⟨hj, hw⟩ := stat_word hT ht
  obtain ⟨cf, kf, fi, f, a, cell, h1, h2, h3, h4, h5, h6, h7, h8⟩ := hR.2.2.2 j hj
  rcases hw with ⟨ho, ⟨rfl, rfl⟩ | ⟨rfl, rfl⟩⟩ | ⟨ho, hw⟩
  · rw [ho] at hown
    exact va_WgetsN hx hb hown (va_Nw.use rfl hK.2.1) h1 h2 h3 h4 h5 (fun e => by rw [e] at h6; cases h6) h7 rfl hd kk
  · rw [ho] at hown
    exact va_WgetsN hx hb hown (va_Nw.use rfl hK.2.2.1) h1 h2 h3 h4 h5 (fun e => by rw [e] at h6; cases h6) h7 rfl hd kk
  · rw [ho] at hown
    exact W.gets hx hb hown (hts _ hw) h1 h2 h3 h4 h5 (fun e => by rw [e] at h6; cases h6) h7 rfl hd kk
theorem nat_word (hT : Tbs) {o i kk : Nat} (h : natT.contains [o, i, kk] = true) : (Jvm.Cond.methodLink (RN o) i (ntN kk)) ∈ bigW := by
  have h1 : [o, i, kk] ∈ natT := by simpa using h
  rw [t_okT_map hT] at h1
  obtain ⟨e, he, he2⟩ := List.mem_map.mp h1
  have h2 := List.all_eq_true.mp (t_okT_all hT) e he
  unfold okT at h2
  simp only [Bool.and_eq_true, decide_eq_true_eq] at h2
  have e0 : at4 e 0 = o ∧ at4 e 1 = i ∧ at4 e 2 = kk := by
    match e, he2 with
    | x0 :: x1 :: x2 :: _, he2 =>
      simp only [List.take_succ_cons, List.take_zero, List.cons.injEq, and_true] at he2
      exact he2
    | [], he2 => cases he2
    | [_], he2 => cases he2
    | [_, _], he2 => cases he2
  obtain ⟨rfl, rfl, rfl⟩ := e0
  exact inP_mem h2.1
end SNE
