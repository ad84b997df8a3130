/-! steps: natives, branches, and every instruction that goes on to the next one -/
section SNF
variable {p : Program} {l : Launch} {e : Env} {R : Room} {s : State} {m : MethodId} {args : Array Value} {below : List Frame} {meth : Method} {c : Code} {H : Heap} {locs : List Loc} {cells slots : Nat} {Q : State → Prop}
variable {D : va_G} {cA : Nat → ClassId} {b0 : Nat} {zt : Nat → Nat} {k pc pc' : Nat} {lsA : Array Slot} {ls ls' : LsT} {st st' : List AV} {σ σ' : Sto} {x : List Nat}
theorem c_copy (C : Cx D cA p s args m meth c k) {i a0 a n0 n1 : Nat} {sp dp n : Int} (hR : Rep D cA b0 zt s σ H) (hs0 : shp σ a0 = some (0, n0)) (hs1 : shp σ a = some (0, n1)) (h1 : 0 ≤ sp) (h2 : 0 ≤ dp) (h3 : 0 ≤ n) (h4 : sp + n ≤ n0) (h5 : dp + n ≤ n1) (h6 : n0 < 65536) (h7 : n1 < 65536) (hn : natT.contains [clM k, i, 1001] = true) (hml : lsA.size = mxM k) (hd : decode (byM k) pc = .ok (.invokestatic i, 3)) {rest : List Value}
    (hframes : 1 ≤ R.frames) (hlocals : (rest.map fun v => v.category).sum + 18 ≤ R.locals) (hlo : ∀ x ∈ locs, b0 ≤ x.base)
    (kk : ∀ (H1 : Heap) (locs1 : List Loc), Rep D cA b0 zt s (cpI σ.1 a0 sp.toNat a dp.toNat n.toNat, σ.2) H1 → (∀ x ∈ locs1, b0 ≤ x.base) → W p l e R s m args below meth c H1 locs1 cells slots Q (F0 m (pc + 3) lsA rest)) : W p l e R s m args below meth c H locs cells slots Q (F0 m pc lsA (.int (Int32.ofInt n) :: .int (Int32.ofInt dp) :: .ref a :: .int (Int32.ofInt sp) :: .ref a0 :: rest)) := by
  obtain ⟨hx, hb, hmc, hown, hts, hin, hK, hT⟩ := C
  have hc0 := (hR.2.2.1 a0 0 n0 hs0).1 (Or.inl rfl)
  have hc1 := (hR.2.2.1 a 0 n1 hs1).1 (Or.inl rfl)
  have tsp : (Int32.ofInt sp).toInt = sp := z_toInt ⟨by omega, by omega⟩
  have tdp : (Int32.ofInt dp).toInt = dp := z_toInt ⟨by omega, by omega⟩
  have tn : (Int32.ofInt n).toInt = n := z_toInt ⟨by omega, by omega⟩
  have nsp : (Int32.ofInt sp).toNatClampNeg = sp.toNat := z_nat h1 (by omega)
  have ndp : (Int32.ofInt dp).toNatClampNeg = dp.toNat := z_nat h2 (by omega)
  have nn : (Int32.ofInt n).toNatClampNeg = n.toNat := z_nat h3 (by omega)
  intro T hTh X
  obtain ⟨-, k0, hk0, cm0, hkk0⟩ := (ty_at hK (kd := 0) rfl).1 n0 (fun j => .int (Int32.ofInt (σ.1 a0 j)))
  obtain ⟨-, k1, hk1, cm1, hkk1⟩ := (ty_at hK (kd := 0) rfl).1 n1 (fun j => .int (Int32.ofInt (σ.1 a j)))
  have e1 : copied (arrV (cA 0) n0 (fun j => .int (Int32.ofInt (σ.1 a0 j)))) (arrV (cA 0) n1 (fun j => .int (Int32.ofInt (σ.1 a j)))) (Int32.ofInt sp) (Int32.ofInt dp) (Int32.ofInt n) = arrV (cA 0) n1 (fun j => .int (va_cpy (fun j => Int32.ofInt (σ.1 a0 j)) (fun j => Int32.ofInt (σ.1 a j)) sp.toNat dp.toNat n.toNat j)) := by
    have h := va_copied (fun z => Value.int z) (cA 0) (cA 0) (n0 := n0) (n1 := n1) (sp := sp.toNat) (dp := dp.toNat) (n := n.toNat) (fun j => Int32.ofInt (σ.1 a0 j)) (fun j => Int32.ofInt (σ.1 a j)) (by omega)
    unfold copied
    rw [nsp, ndp, nn]
    exact h
  obtain ⟨vm', X', step⟩ := X.arraycopy hx hown (hts _ (nat_word hT hn)) (hts _ (inP_mem (t_wd_acn hT))) (hts _ (inP_mem (t_wd_acs hT))) (hts _ (inP_mem (t_wd_sys hT))) (src := a0) (dst := a) (cs := arrV (cA 0) n0 (fun j => .int (Int32.ofInt (σ.1 a0 j)))) (cd := arrV (cA 0) n1 (fun j => .int (Int32.ofInt (σ.1 a j)))) (srcPos := Int32.ofInt sp) (destPos := Int32.ofInt dp) (n := Int32.ofInt n) (by rw [hTh]; exact hc0.1) (by rw [hTh]; exact hc1.1)
    (fun _ h => by cases h) (fun _ h => by cases h) (fun h => by cases h) (fun h => by cases h) hk0 hk1 hkk0 hkk1 (by simp [refKind]) (z_nn h1 (by omega)) (z_nn h2 (by omega)) (z_nn h3 (by omega))
    (by rw [tsp, tn, arrV_size]; omega)
    (by rw [tdp, tn, arrV_size]; omega)
    (fun vm₁ _ i hi => by
      rw [nn] at hi
      have e : (arrV (cA 0) n0 (fun j => .int (Int32.ofInt (σ.1 a0 j)))).slots.getD ((Int32.ofInt sp).toNatClampNeg + i) .null = .int (Int32.ofInt (σ.1 a0 ((Int32.ofInt sp).toNatClampNeg + i))) := by
        rw [Array.getD_eq_getD_getElem?, arrV_read _ _ (by rw [nsp]; omega)]
        rfl
      refine ⟨?_, ?_⟩
      · rw [e]; rfl
      · rw [e]; exact trivial)
    (g := F0 m pc lsA (.int (Int32.ofInt n) :: .int (Int32.ofInt dp) :: .ref a :: .int (Int32.ofInt sp) :: .ref a0 :: rest)) rfl (by rw [hmc]; exact hml) (rest := rest) rfl (by rw [hb]; exact hd) hframes (by
      have : nativeFrameWords "java/lang/System" "arraycopy" 5 = 7 := by decide
      show 2 * 0 + _ + _ ≤ _; omega)
  rw [e1] at X' step
  have hl : a < H.size := (Array.getElem?_eq_some_iff.mp hc1.1).1
  generalize hcell : arrV (cA 0) n1 (fun j => .int (va_cpy (fun j => Int32.ofInt (σ.1 a0 j)) (fun j => Int32.ofInt (σ.1 a j)) sp.toNat dp.toNat n.toNat j)) = cl at X' step
  have hheap : ((T.setVm vm').setCell a cl).heap = H.setIfInBounds a cl := by rw [← hTh]; rfl
  have oq : ∀ q : Nat, q ≠ a → (H.setIfInBounds a cl)[q]? = H[q]? := fun q hq => by simp [Array.getElem?_setIfInBounds, Ne.symm hq]
  have oa : (H.setIfInBounds a cl)[a]? = some cl := by simp [Array.getElem?_setIfInBounds, hl]
  obtain ⟨t, a1, b1⟩ := kk _ _ (hR.put (σ' := (cpI σ.1 a0 sp.toNat a dp.toNat n.toNat, σ.2)) rfl (by simp) oq hc1.2 (fun x hx j => if_neg (fun q => hx q.1)) (fun x _ j => rfl) (fun kd' N' hs' => by
      rw [hs1] at hs'
      cases hs'
      refine ⟨fun q => ⟨?_, hc1.2⟩, fun q => by omega, fun q => by omega, fun q => by omega⟩
      rw [oa, ← hcell]
      congr 2
      funext j
      show Value.int (if dp.toNat ≤ j ∧ j < dp.toNat + n.toNat then _ else _) = Value.int (Int32.ofInt (if a = a ∧ dp.toNat ≤ j ∧ j < dp.toNat + n.toNat then σ.1 a0 (sp.toNat + (j - dp.toNat)) else σ.1 a j))
      by_cases hj : dp.toNat ≤ j ∧ j < dp.toNat + n.toNat
      · rw [if_pos hj, if_pos ⟨rfl, hj⟩]
      · rw [if_neg hj, if_neg (fun q => hj q.2)])) (fun q hq => by
      rcases List.mem_append.mp hq with h | h
      · exact hlo q h
      · obtain ⟨z, -, hz⟩ := List.mem_map.mp h
        rw [← hz]
        exact hc1.2) _ hheap X'
  exact ⟨t, step t a1, b1⟩
theorem c_icmp (C : Cx D cA p s args m meth c k) {cc : Jvm.ClassFile.Cond} {a b off : Int} {tgt : Nat} {t f : Option Out} {o : Out} (h : cj cc a b t f = some o) (hd : decode (byM k) pc = .ok (.if_icmp cc off, 3)) (ht : (pc : Int) + off = (tgt : Int)) {rest : List Value}
    (kt : t = some o → W p l e R s m args below meth c H locs cells slots Q (F0 m tgt lsA rest)) (kf : f = some o → W p l e R s m args below meth c H locs cells slots Q (F0 m (pc + 3) lsA rest)) : W p l e R s m args below meth c H locs cells slots Q (F0 m pc lsA (.int (Int32.ofInt b) :: .int (Int32.ofInt a) :: rest)) := by
  obtain ⟨hx, hb, hmc, hown, hts, hin, hK, hT⟩ := C
  cases cc <;> simp only [cj] at h
  · by_cases hab : a = b
    · rw [if_pos hab] at h
      exact lv_icmp_eq hx hb hd ht (fun _ => kt h) (fun q => absurd (by rw [hab]) q)
    · rw [if_neg hab] at h
      by_cases hr : rng a ∧ rng b
      · rw [if_pos hr] at h
        exact lv_icmp_eq hx hb hd ht (fun q => absurd ((z_eq hr.1 hr.2).mp q) hab) (fun _ => kf h)
      · rw [if_neg hr] at h; cases h
  · by_cases hab : a = b
    · rw [if_pos hab] at h
      exact lv_icmp_ne hx hb hd ht (fun q => absurd (by rw [hab]) q) (fun _ => kf h)
    · rw [if_neg hab] at h
      by_cases hr : rng a ∧ rng b
      · rw [if_pos hr] at h
        exact lv_icmp_ne hx hb hd ht (fun _ => kt h) (fun q => absurd ((z_eq hr.1 hr.2).mp q) hab)
      · rw [if_neg hr] at h; cases h
  · by_cases hr : rng a ∧ rng b
    · rw [if_pos hr] at h
      exact lv_icmp_lt hx hb hd ht (fun q => kt (by rw [if_pos ((z_lt hr.1 hr.2).mp q)] at h; exact h)) (fun q => kf (by rw [if_neg (fun z => q ((z_lt hr.1 hr.2).mpr z))] at h; exact h))
    · rw [if_neg hr] at h; cases h
  · by_cases hr : rng a ∧ rng b
    · rw [if_pos hr] at h
      exact lv_icmp_ge hx hb hd ht (fun q => kt (by rw [if_pos ((z_le hr.2 hr.1).mp q)] at h; exact h)) (fun q => kf (by rw [if_neg (fun z => q ((z_le hr.2 hr.1).mpr z))] at h; exact h))
    · rw [if_neg hr] at h; cases h
  · by_cases hr : rng a ∧ rng b
    · rw [if_pos hr] at h
      exact lv_icmp_gt hx hb hd ht (fun q => kt (by rw [if_pos ((z_lt hr.2 hr.1).mp q)] at h; exact h)) (fun q => kf (by rw [if_neg (fun z => q ((z_lt hr.2 hr.1).mpr z))] at h; exact h))
    · rw [if_neg hr] at h; cases h
  · by_cases hr : rng a ∧ rng b
    · rw [if_pos hr] at h
      exact lv_icmp_le hx hb hd ht (fun q => kt (by rw [if_pos ((z_le hr.1 hr.2).mp q)] at h; exact h)) (fun q => kf (by rw [if_neg (fun z => q ((z_le hr.1 hr.2).mpr z))] at h; exact h))
    · rw [if_neg hr] at h; cases h
theorem c_ifc (C : Cx D cA p s args m meth c k) {cc : Jvm.ClassFile.Cond} {a off : Int} {tgt : Nat} {t f : Option Out} {o : Out} (h : cj cc a 0 t f = some o) (hd : decode (byM k) pc = .ok (.ifCond cc off, 3)) (ht : (pc : Int) + off = (tgt : Int)) {rest : List Value}
    (kt : t = some o → W p l e R s m args below meth c H locs cells slots Q (F0 m tgt lsA rest)) (kf : f = some o → W p l e R s m args below meth c H locs cells slots Q (F0 m (pc + 3) lsA rest)) : W p l e R s m args below meth c H locs cells slots Q (F0 m pc lsA (.int (Int32.ofInt a) :: rest)) := by
  obtain ⟨hx, hb, hmc, hown, hts, hin, hK, hT⟩ := C
  cases cc <;> simp only [cj] at h
  · by_cases hab : a = 0
    · rw [if_pos hab] at h
      exact lv_if_eq hx hb hd ht (fun _ => kt h) (fun q => absurd (by rw [hab]; rfl) q)
    · rw [if_neg hab] at h
      by_cases hr : rng a ∧ rng 0
      · rw [if_pos hr] at h
        exact lv_if_eq hx hb hd ht (fun q => absurd ((z_eq hr.1 hr.2).mp q) hab) (fun _ => kf h)
      · rw [if_neg hr] at h; cases h
  · by_cases hab : a = 0
    · rw [if_pos hab] at h
      exact lv_if_ne hx hb hd ht (fun q => absurd (by rw [hab]; rfl) q) (fun _ => kf h)
    · rw [if_neg hab] at h
      by_cases hr : rng a ∧ rng 0
      · rw [if_pos hr] at h
        exact lv_if_ne hx hb hd ht (fun _ => kt h) (fun q => absurd ((z_eq hr.1 hr.2).mp q) hab)
      · rw [if_neg hr] at h; cases h
  · by_cases hr : rng a ∧ rng 0
    · rw [if_pos hr] at h
      exact lv_if_lt hx hb hd ht (fun q => kt (by rw [if_pos ((z_lt hr.1 hr.2).mp q)] at h; exact h)) (fun q => kf (by rw [if_neg (fun z => q ((z_lt hr.1 hr.2).mpr z))] at h; exact h))
    · rw [if_neg hr] at h; cases h
  · by_cases hr : rng a ∧ rng 0
    · rw [if_pos hr] at h
      exact lv_if_ge hx hb hd ht (fun q => kt (by rw [if_pos ((z_le hr.2 hr.1).mp q)] at h; exact h)) (fun q => kf (by rw [if_neg (fun z => q ((z_le hr.2 hr.1).mpr z))] at h; exact h))
    · rw [if_neg hr] at h; cases h
  · by_cases hr : rng a ∧ rng 0
    · rw [if_pos hr] at h
      exact lv_if_gt hx hb hd ht (fun q => kt (by rw [if_pos ((z_lt hr.2 hr.1).mp q)] at h; exact h)) (fun q => kf (by rw [if_neg (fun z => q ((z_lt hr.2 hr.1).mpr z))] at h; exact h))
    · rw [if_neg hr] at h; cases h
  · by_cases hr : rng a ∧ rng 0
    · rw [if_pos hr] at h
      exact lv_if_le hx hb hd ht (fun q => kt (by rw [if_pos ((z_le hr.1 hr.2).mp q)] at h; exact h)) (fun q => kf (by rw [if_neg (fun z => q ((z_le hr.1 hr.2).mpr z))] at h; exact h))
    · rw [if_neg hr] at h; cases h
theorem bin_same {f : Int → Int → Option Int} (h : bin f ls st σ = some (.inl (ls', st', σ'))) : σ' = σ := by
  unfold bin at h
  split at h
  · split at h
    · cases h; rfl
    · cases h
  · cases h
theorem c_nat (C : Cx D cA p s args m meth c k) {i kn na : Nat} (hR : Rep D cA b0 zt s σ H) (hl : locR lsA (mxM k) ls) (hdp : dpM k ≤ R.frames ∧ 40 * dpM k ≤ R.locals) (hlo : ∀ x ∈ locs, b0 ≤ x.base) (hcl : topS σ' + cells ≤ topS σ + R.cells) (hsl : usdS σ' + slots ≤ usdS σ + R.slots) (hlen : st.length ≤ 8) (hn : ntB k i kn na = true)
    (hd : (kn = 1000 ∧ decode (byM k) pc = .ok (.invokespecial i, 3)) ∨ (1001 ≤ kn ∧ decode (byM k) pc = .ok (.invokestatic i, 3))) (hef : natC kn ls st σ = some (.inl (ls', st', σ')))
    (kk : Knt p l e R s m args below meth c Q D cA b0 zt k (pc + 3) cells slots σ ls' st' σ') : W p l e R s m args below meth c H locs cells slots Q (F0 m pc lsA (st.map con)) := by
  have C0 := C
  obtain ⟨hx, hb, hmc, hown, hts, hin, hK, hT⟩ := C
  unfold ntB at hn
  simp only [Bool.and_eq_true, decide_eq_true_eq] at hn
  obtain ⟨⟨hn1, hn2⟩, -⟩ := hn
  have hw := hts _ (nat_word hT hn1)
  have hfr : 1 ≤ R.frames := by omega
  have hlc : 40 ≤ R.locals := by omega
  unfold natC at hef
  by_cases h0 : kn = 1000
  · rw [if_pos h0] at hef
    have hd1 : decode (byM k) pc = .ok (.invokespecial i, 3) := by
      rcases hd with h | h
      · exact h.2
      · omega
    subst h0
    split at hef
    · next a st2 =>
      have hlen2 : st2.length + 1 ≤ 8 := hlen
      have hrm : 2 * (F0 m pc lsA (.ref a :: st2.map con)).monitorRoom + ((st2.map con).map fun v => v.category).sum + 12 ≤ R.locals := by
        rw [con_sum]
        show 2 * 0 + _ + _ ≤ _
        omega
      cases hef
      exact W.objInit (g := F0 m pc lsA (.ref a :: _)) hx hb hown hw (hts _ (inP_mem (t_wd_obi hT))) (hts _ (inP_mem (t_wd_obj hT))) rfl (by rw [hmc]; exact hl.1) rfl hd1 hfr hrm (kk H locs lsA cells slots hl hR hlo rfl rfl)
    · cases hef
  · rw [if_neg h0] at hef
    have hd1 : decode (byM k) pc = .ok (.invokestatic i, 3) := by
      rcases hd with h | h
      · exact absurd h.1 h0
      · exact h.2
    by_cases h1 : kn = 1001
    · rw [if_pos h1] at hef
      subst h1
      split at hef
      · next n dp d sp a st2 =>
        have hlen2 : st2.length + 5 ≤ 8 := hlen
        have hrm : ((st2.map con).map fun v => v.category).sum + 18 ≤ R.locals := by rw [con_sum]; omega
        split at hef
        · next ks n0 kd n1 hs0 hs1 =>
          split at hef
          · next hh =>
            obtain ⟨rfl, rfl, h3, h4, h5, h6, h7, h8, h9⟩ := hh
            cases hef
            exact c_copy C0 hR hs0 hs1 h5 h4 h3 h6 h7 h8 h9 hn1 hl.1 hd1 hfr hrm hlo (fun H1 locs1 hR1 hlo1 => kk H1 locs1 lsA cells slots hl hR1 hlo1 rfl rfl)
          · cases hef
        · cases hef
      · cases hef
    · rw [if_neg h1] at hef
      by_cases h2 : kn = 1002
      · rw [if_pos h2] at hef
        subst h2
        split at hef
        · next a st2 =>
          have hlen2 : st2.length + 1 ≤ 8 := hlen
          have hrm : ((st2.map con).map fun v => v.category).sum + 13 ≤ R.locals := by rw [con_sum]; omega
          split at hef
          · next hh =>
            cases hef
            refine va_mabs hx hb (by rw [hmc]; exact hl.1.symm) hown hw (hts _ (inP_mem (t_wd_sabs hT))) (hts _ (inP_mem (t_wd_mat hT))) (hts _ (inP_mem (t_wd_cabs hT))) hfr hrm (by omega) (by omega) hd1 ?_
            · rw [z_abs hh.1]
              exact kk H locs lsA cells slots hl hR hlo rfl rfl
          · cases hef
        · cases hef
      · rw [if_neg h2] at hef
        by_cases h3 : kn = 1003
        · rw [if_pos h3] at hef
          subst h3
          have hsm := bin_same hef
          have hb1 : cells ≤ R.cells := by rw [hsm] at hcl; omega
          have hb2 : slots ≤ R.slots := by rw [hsm] at hsl; omega
          refine s_bin hl hR hlo hef (fun a b z rest hst hf hk => ?_) (fun H' locs' lsA' cells' slots' q1 q2 q3 q4 q5 => kk H' locs' lsA' cells' slots' q1 q2 q3 q4 q5)
          subst hst
          split at hf
          · next hh =>
            cases hf
            refine va_mmin hx hb (by rw [hmc]; exact hl.1.symm) hown hw (hts _ (inP_mem (t_wd_smin hT))) (hts _ (inP_mem (t_wd_mat hT))) (hts _ (inP_mem (t_wd_cmin hT))) hfr ?_ ?_ ?_ hd1 ?_
            · rw [con_sum]
              have : rest.length + 2 ≤ 8 := hlen
              omega
            · exact hb1
            · exact hb2
            · rw [z_min hh.1 hh.2]; exact hk
          · cases hf
        · rw [if_neg h3] at hef
          by_cases h4 : kn = 1004
          · rw [if_pos h4] at hef
            subst h4
            have hsm := bin_same hef
            have hb1 : cells ≤ R.cells := by rw [hsm] at hcl; omega
            have hb2 : slots ≤ R.slots := by rw [hsm] at hsl; omega
            refine s_bin hl hR hlo hef (fun a b z rest hst hf hk => ?_) (fun H' locs' lsA' cells' slots' q1 q2 q3 q4 q5 => kk H' locs' lsA' cells' slots' q1 q2 q3 q4 q5)
            subst hst
            split at hf
            · next hh =>
              cases hf
              refine va_mmax hx hb (by rw [hmc]; exact hl.1.symm) hown hw (hts _ (inP_mem (t_wd_smax hT))) (hts _ (inP_mem (t_wd_mat hT))) (hts _ (inP_mem (t_wd_cmax hT))) hfr ?_ ?_ ?_ hd1 ?_
              · rw [con_sum]
                have : rest.length + 2 ≤ 8 := hlen
                omega
              · exact hb1
              · exact hb2
              · rw [z_max hh.1 hh.2]; exact hk
            · cases hf
          · rw [if_neg h4] at hef
            cases hef
end SNF
