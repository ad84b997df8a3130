/-! every instruction that goes on to the next one -/
section SNG
variable {p : Program} {l : Launch} {e : Env} {R : Room} {s : State} {m : MethodId} {args : Array Value} {below : List Frame} {meth : Method} {c : Code} {H : Heap} {locs : List Loc} {cells slots : Nat} {Q : State → Prop}
variable {D : va_G} {cA : Nat → ClassId} {b0 : Nat} {zt : Nat → Nat} {k pc pc' : Nat} {lsA : Array Slot} {ls ls' : LsT} {st st' : List AV} {σ σ' : Sto} {x : List Nat}
theorem ldc_word (hT : Tbs) {o i v : Nat} (h : ldcT.contains [o, i, v] = true) : (Jvm.Cond.constant (RN o) i (Int32.ofNat v)) ∈ bigW := by
  have h1 : [o, i, v] ∈ ldcT := by simpa using h
  rw [t_okL_map hT] at h1
  obtain ⟨e, he, he2⟩ := List.mem_map.mp h1
  have h2 := List.all_eq_true.mp (t_okL_all hT) e he
  unfold okL at h2
  have e0 : at4 e 0 = o ∧ at4 e 1 = i ∧ at4 e 2 = v := by
    match e, he2 with
    | x0 :: x1 :: x2 :: _, he2 =>
      simp only [List.take_succ_cons, List.take_zero, List.cons.injEq, and_true] at he2
      exact he2
    | [], he2 => cases he2
    | [_], he2 => cases he2
    | [_, _], he2 => cases he2
  obtain ⟨rfl, rfl, rfl⟩ := e0
  exact inP_mem h2
theorem cj_nx {cc : Jvm.ClassFile.Cond} {a b : Int} {L : Nat} {stt : List AV} {o : Out} (h : cj cc a b (jp L stt) (nx ls stt σ) = some o) : o = .inl (ls, stt, σ) ∨ o = .inr (.inl (L, stt)) := by
  unfold jp nx at h
  cases cc <;> simp only [cj] at h <;> (repeat' split at h) <;> cases h <;> first | exact Or.inl rfl | exact Or.inr rfl
theorem ex_s {i : Nat} {y : List Nat} (he : exI k pc (.invokestatic i, y) = true) : ∃ k' na rk, y = [k', na, rk] ∧ (if 1000 ≤ k' then ntB k i k' na && decide (1001 ≤ k') else mtB k i k' na rk true) = true := by
  match y, he with
  | [k', na, rk], he => exact ⟨k', na, rk, rfl, he⟩
  | [], he => exact Bool.noConfusion he
  | [_], he => exact Bool.noConfusion he
  | [_, _], he => exact Bool.noConfusion he
  | _ :: _ :: _ :: _ :: _, he => exact Bool.noConfusion he
theorem ex_i {i : Nat} {y : List Nat} (he : exI k pc (.invokespecial i, y) = true) : ∃ k' na rk, y = [k', na, rk] ∧ (if 1000 ≤ k' then ntB k i k' na && decide (k' = 1000) else mtB k i k' na rk false && inM k') = true := by
  match y, he with
  | [k', na, rk], he => exact ⟨k', na, rk, rfl, he⟩
  | [], he => exact Bool.noConfusion he
  | [_], he => exact Bool.noConfusion he
  | [_, _], he => exact Bool.noConfusion he
  | _ :: _ :: _ :: _ :: _, he => exact Bool.noConfusion he
theorem ex_v {i : Nat} {y : List Nat} (he : exI k pc (.invokevirtual i, y) = true) : ∃ k' na rk, y = [k', na, rk] ∧ (mtB k i k' na rk false && !(inM k')) = true := by
  match y, he with
  | [k', na, rk], he => exact ⟨k', na, rk, rfl, he⟩
  | [], he => exact Bool.noConfusion he
  | [_], he => exact Bool.noConfusion he
  | [_, _], he => exact Bool.noConfusion he
  | _ :: _ :: _ :: _ :: _, he => exact Bool.noConfusion he
theorem cal_no {y : List Nat} {o : LsT × List AV × Sto} (h : cal y st σ = some (.inl o)) : False := by
  unfold cal at h
  split at h
  · split at h <;> cases h
  · cases h
set_option maxHeartbeats 8000000 in
theorem s_next {q : RI} (C : Cx D cA p s args m meth c k) (hd : decode (byM k) pc = .ok (q.1, lenI q.1)) (he : exI k pc q = true) (hdp : dpM k ≤ R.frames ∧ 40 * dpM k ≤ R.locals) (hl : locR lsA (mxM k) ls) (hR : Rep D cA b0 zt s σ H) (hlo : ∀ x ∈ locs, b0 ≤ x.base) (hcl : topS σ' + cells ≤ topS σ + R.cells) (hsl : usdS σ' + slots ≤ usdS σ + R.slots)
    (hef : eff zt q ls st σ = some (.inl (ls', st', σ'))) (kk : Knt p l e R s m args below meth c Q D cA b0 zt k (pc + lenI q.1) cells slots σ ls' st' σ') : W p l e R s m args below meth c H locs cells slots Q (F0 m pc lsA (st.map con)) := by
  have C0 := C
  obtain ⟨hx, hb, hmc, hown, hts, hin, hK, hT⟩ := C
  obtain ⟨i, y⟩ := q
  have same : ls' = ls → σ' = σ → W p l e R s m args below meth c H locs cells slots Q (F0 m (pc + lenI i) lsA (st'.map con)) := fun e1 e2 => kk H locs lsA cells slots (by rw [e1]; exact hl) (by rw [e2]; exact hR) hlo (by rw [e2]) (by rw [e2])
  cases i
  case aload i => exact s_ldR hl hR hlo (show ldR ls i st σ = _ from hef) (fun a h hk => lv_aload hx hb hd h hk) kk
  case aload_n i => exact s_ldR hl hR hlo (show ldR ls i.val st σ = _ from hef) (fun a h hk => lv_aload_n hx hb hd rfl h hk) kk
  case iload i => exact s_ldI hl hR hlo (show ldI ls i st σ = _ from hef) (fun a h hk => lv_iload hx hb hd h hk) kk
  case iload_n i => exact s_ldI hl hR hlo (show ldI ls i.val st σ = _ from hef) (fun a h hk => lv_iload_n hx hb hd rfl h hk) kk
  case istore i => exact s_stI hl hR hlo (show stI ls i st σ = _ from hef) (fun z rest h hk => lv_istore hx hb hd h (of_decide_eq_true he) rfl hk) kk
  case istore_n i => exact s_stI hl hR hlo (show stI ls i.val st σ = _ from hef) (fun z rest h hk => lv_istore_n hx hb hd rfl h (of_decide_eq_true he) rfl hk) kk
  case astore i => exact s_stR hl hR hlo (show stR ls i st σ = _ from hef) (fun z rest h hk => lv_astore hx hb hd h (of_decide_eq_true he) rfl hk) kk
  case astore_n i => exact s_stR hl hR hlo (show stR ls i.val st σ = _ from hef) (fun z rest h hk => lv_astore_n hx hb hd rfl h (of_decide_eq_true he) rfl hk) kk
  case iconst v =>
    cases (show some (Sum.inl (ls, .inl v :: st, σ)) = _ from hef)
    exact lv_iconst hx hb hd rfl (same rfl rfl)
  case bipush v =>
    cases (show some (Sum.inl (ls, .inl v :: st, σ)) = _ from hef)
    have hv := of_decide_eq_true he
    exact lv_bipush hx hb hd (z_i8 v hv.1 hv.2) (same rfl rfl)
  case sipush v =>
    cases (show some (Sum.inl (ls, .inl v :: st, σ)) = _ from hef)
    have hv := of_decide_eq_true he
    exact lv_sipush hx hb hd (z_i16 v hv.1 hv.2) (same rfl rfl)
  case ldc i =>
    cases (show some (Sum.inl (ls, .inl (x0 y : Int) :: st, σ)) = _ from hef)
    have he2 : (ldcT.contains [clM k, i, x0 y] && decide (x0 y < 4294967296)) = true := he
    rw [Bool.and_eq_true] at he2
    refine lv_ldc hx hb hown (hts _ (ldc_word hT he2.1)) hd ?_
    have e1 := same rfl rfl
    rw [← Int32.ofInt_eq_ofNat]
    exact e1
  case iadd =>
    refine s_bin hl hR hlo (show bin (fun a b => some (a + b)) ls st σ = _ from hef) (fun a b z rest hst hf hk => ?_) kk
    cases hf
    rw [Int32.ofInt_add] at hk
    exact lv_iadd hx hb hd hk
  case isub =>
    refine s_bin hl hR hlo (show bin (fun a b => some (a - b)) ls st σ = _ from hef) (fun a b z rest hst hf hk => ?_) kk
    cases hf
    rw [Int32.ofInt_sub] at hk
    exact lv_isub hx hb hd hk
  case imul =>
    refine s_bin hl hR hlo (show bin (fun a b => some (a * b)) ls st σ = _ from hef) (fun a b z rest hst hf hk => ?_) kk
    cases hf
    rw [Int32.ofInt_mul] at hk
    exact lv_imul hx hb hd hk
  case iand =>
    refine s_bin hl hR hlo (show bin (fun a b => if b = 2147483647 then some (a % 2147483648) else none) ls st σ = _ from hef) (fun a b z rest hst hf hk => ?_) kk
    split at hf
    · next h63 =>
      cases hf
      subst h63
      rw [← z_and] at hk
      exact lv_iand hx hb hd hk
    · cases hf
  case ishr =>
    refine s_bin hl hR hlo (show bin (fun a b => some (shrI a b)) ls st σ = _ from hef) (fun a b z rest hst hf hk => ?_) kk
    cases hf
    unfold shrI at hk
    rw [Int32.ofInt_toInt] at hk
    exact lv_ishr hx hb hd hk
  case idiv =>
    refine s_bin hl hR hlo (show bin (fun a b => if rng a ∧ 0 < b ∧ rng b then some (a.tdiv b) else none) ls st σ = _ from hef) (fun a b z rest hst hf hk => ?_) kk
    split at hf
    · next hh =>
      cases hf
      rw [← z_div hh.1 hh.2.2 hh.2.1] at hk
      exact lv_idiv hx hb hd (z_ne hh.2.2 hh.2.1) hk
    · cases hf
  case irem =>
    refine s_bin hl hR hlo (show bin (fun a b => if 0 ≤ a ∧ rng a ∧ 0 < b ∧ rng b then some (a % b) else none) ls st σ = _ from hef) (fun a b z rest hst hf hk => ?_) kk
    split at hf
    · next hh =>
      cases hf
      rw [← z_rem hh.2.1 hh.1 hh.2.2.2 hh.2.2.1] at hk
      exact lv_irem hx hb hd (z_ne hh.2.2.2 hh.2.2.1) hk
    · cases hf
  case ineg =>
    simp only [eff] at hef
    split at hef
    · next a st2 =>
      cases hef
      have hk := same rfl rfl
      refine lv_ineg hx hb hd ?_
      rw [← Int32.ofInt_neg]
      exact hk
    · cases hef
  case iinc i d =>
    simp only [eff] at hef
    split at hef
    · next z hz =>
      cases hef
      have hm := lvOf_mem hz
      obtain ⟨j, hj⟩ := List.getElem?_of_mem hm
      exact lv_iinc hx hb hd hl.has hj (by rw [← Int32.ofInt_add]) (of_decide_eq_true he) rfl (fun lsB hB => kk H locs lsB cells slots (locR.set (v := .inl (z + d)) hB) hR hlo rfl rfl)
    · cases hef
  case dup =>
    simp only [eff] at hef
    split at hef
    · next a st2 =>
      cases hef
      exact lv_dup hx hb hd (con_cat a) (same rfl rfl)
    · cases hef
  case dup2 =>
    simp only [eff] at hef
    split at hef
    · next b a st2 =>
      cases hef
      exact lv_dup2_11 hx hb hd (con_cat b) (con_cat a) (same rfl rfl)
    · cases hef
  case pop =>
    simp only [eff] at hef
    split at hef
    · next a st2 =>
      cases hef
      exact lv_pop hx hb hd (con_cat a) (same rfl rfl)
    · cases hef
  case if_icmp cc off =>
    simp only [eff] at hef
    split at hef
    · next b a st2 =>
      have he2 : tgB k pc off (x0 y) = true := he
      unfold tgB at he2
      rw [Bool.and_eq_true] at he2
      have e0 := cj_nx hef
      rcases e0 with e0 | e0
      · cases e0
        refine c_icmp C0 hef hd (of_decide_eq_true he2.1) (fun q => ?_) (fun _ => same rfl rfl)
        cases q
      · cases e0
    · cases hef
  case ifCond cc off =>
    simp only [eff] at hef
    split at hef
    · next a st2 =>
      have he2 : tgB k pc off (x0 y) = true := he
      unfold tgB at he2
      rw [Bool.and_eq_true] at he2
      have e0 := cj_nx hef
      rcases e0 with e0 | e0
      · cases e0
        refine c_ifc C0 hef hd (of_decide_eq_true he2.1) (fun q => ?_) (fun _ => same rfl rfl)
        cases q
      · cases e0
    · cases hef
  case tableswitch d lo hi offs =>
    simp only [eff, jp] at hef
    repeat' split at hef
    all_goals cases hef
  case nop => cases hef
  case goto off => cases hef
  case getfield i =>
    simp only [eff] at hef
    split at hef
    · next a st2 =>
      split at hef
      · next kd N hs =>
        split at hef
        · next hkd =>
          cases hef
          exact c_get C0 (hR.2.2.1 a kd N hs) hkd (show fldT.contains [clM k, i, x0 y, x1 y] = true from he) hd (same rfl rfl)
        · cases hef
      · cases hef
    · cases hef
  case putfield i =>
    have he2 : (fldT.contains [clM k, i, x0 y, x1 y] && (!(TN (x0 y) (x1 y)).2.2.2 || (inM k && decide ((TN (x0 y) (x1 y)).1 = RN (clM k))))) = true := he
    rw [Bool.and_eq_true] at he2
    simp only [eff] at hef
    split at hef
    · next v a st2 =>
      split at hef
      · next kd N hs =>
        split at hef
        · next hkd =>
          cases hef
          refine c_put C0 (σ' := (wrI σ.1 a (x1 y) v, σ.2)) (v := .inl v) hR hs hkd.1 he2.1 he2.2 hd (Or.inl ⟨v, rfl, hkd.2⟩) rfl (fun x hx j => wrI_ne hx j) (fun x _ j => rfl) (fun j => ?_) hlo (fun H1 locs1 hR1 hlo1 => kk H1 locs1 lsA cells slots hl hR1 hlo1 rfl rfl)
          unfold fval wrI
          by_cases hj : j = x1 y
          · subst hj; simp [hkd.2]
          · simp [hj]
        · cases hef
      · cases hef
    · next b a st2 =>
      split at hef
      · next kd N hs =>
        split at hef
        · next hkd =>
          cases hef
          refine c_put C0 (σ' := (σ.1, wrR σ.2.1 a (x1 y) (some b), σ.2.2)) (v := .inr (some b)) hR hs hkd.1 he2.1 he2.2 hd (Or.inr ⟨b, rfl, hkd.2⟩) rfl (fun x _ j => rfl) (fun x hx j => wrR_ne hx j) (fun j => ?_) hlo (fun H1 locs1 hR1 hlo1 => kk H1 locs1 lsA cells slots hl hR1 hlo1 rfl rfl)
          unfold fval wrR
          by_cases hj : j = x1 y
          · subst hj; simp [hkd.2]
          · simp [hj]
        · cases hef
      · cases hef
    · cases hef
  case getstatic i =>
    cases (show some (Sum.inl (ls, .inr (some (zt (x0 y))) :: st, σ)) = _ from hef)
    exact c_gets C0 hR (show statT.contains [clM k, i, x0 y] = true from he) hd (same rfl rfl)
  case iaload =>
    refine s_ald hl hR hlo (show aldI _ ls st σ = _ from hef) (fun a i kd N rest hok h0 h1 h2 hc hk => ?_) kk
    simp only [Bool.or_eq_true, beq_iff_eq] at hok
    exact c_ald C0 hc hok h0 h1 h2 hd hk
  case baload =>
    refine s_ald hl hR hlo (show aldI _ ls st σ = _ from hef) (fun a i kd N rest hok h0 h1 h2 hc hk => ?_) kk
    exact c_bld C0 hc (by simpa using hok) h0 h1 h2 hd hk
  case iastore =>
    simp only [eff] at hef
    split at hef
    · next v i a st2 =>
      split at hef
      · next kd N hs =>
        split at hef
        · next hh =>
          obtain ⟨rfl, h0, h1, h2⟩ := hh
          cases hef
          exact c_ast C0 hR hs h0 h1 h2 hd hlo (fun H1 locs1 hR1 hlo1 => kk H1 locs1 lsA cells slots hl hR1 hlo1 rfl rfl)
        · cases hef
      · cases hef
    · cases hef
  case bastore =>
    simp only [eff] at hef
    split at hef
    · next v i a st2 =>
      split at hef
      · next kd N hs =>
        split at hef
        · next hh =>
          obtain ⟨rfl, h0, h1, h2, h3⟩ := hh
          cases hef
          exact c_bst C0 hR hs h0 h1 h2 h3 hd hlo (fun H1 locs1 hR1 hlo1 => kk H1 locs1 lsA cells slots hl hR1 hlo1 rfl rfl)
        · cases hef
      · cases hef
    · cases hef
  case aaload =>
    simp only [eff] at hef
    split at hef
    · next i a st2 =>
      split at hef
      · next kd N hs =>
        split at hef
        · next hh =>
          obtain ⟨hkd, h0, h1, h2⟩ := hh
          cases hef
          exact c_qld C0 (hR.2.2.1 a kd N hs) hkd h0 h1 h2 hd (same rfl rfl)
        · cases hef
      · cases hef
    · cases hef
  case aastore =>
    simp only [eff] at hef
    split at hef
    · next b i a st2 =>
      split at hef
      · next kd N kb M hs hs2 =>
        split at hef
        · next hh =>
          obtain ⟨hkd, h0, h1, h2⟩ := hh
          cases hef
          exact c_qst C0 hR hs hs2 hkd h0 h1 h2 hd hlo (fun H1 locs1 hR1 hlo1 => kk H1 locs1 lsA cells slots hl hR1 hlo1 rfl rfl)
        · cases hef
      · cases hef
    · cases hef
  case arraylength =>
    simp only [eff] at hef
    split at hef
    · next a st2 =>
      split at hef
      · next kd N hs =>
        split at hef
        · next hkd =>
          cases hef
          exact c_len C0 (hR.2.2.1 a kd N hs) hkd hd (same rfl rfl)
        · cases hef
      · cases hef
    · cases hef
  case newarray t =>
    have he2 : ((decide (t = .int) && (x0 y == 0)) || (decide (t = .boolean) && (x0 y == 1))) = true := he
    simp only [Bool.or_eq_true, Bool.and_eq_true, decide_eq_true_eq, beq_iff_eq] at he2
    simp only [eff] at hef
    split at hef
    · next n st2 =>
      split at hef
      · next hh =>
        cases hef
        have e1 : topS (mkS σ (x0 y) n.toNat) = topS σ + 1 := rfl
        have e2 : usdS (mkS σ (x0 y) n.toNat) = usdS σ + n.toNat := rfl
        exact c_newa C0 hR he2 hh.1 hh.2 hd (by omega) (by omega) (fun H1 hR1 => kk H1 locs lsA _ _ hl hR1 hlo (by omega) (by omega))
      · cases hef
    · cases hef
  case anewarray i =>
    simp only [eff] at hef
    split at hef
    · next n st2 =>
      split at hef
      · next hh =>
        cases hef
        have e1 : topS (mkS σ (x0 y) n.toNat) = topS σ + 1 := rfl
        have e2 : usdS (mkS σ (x0 y) n.toNat) = usdS σ + n.toNat := rfl
        exact c_newq C0 hR (show anewT.contains [clM k, i, x0 y] = true from he) hh.1 hh.2 hd (by omega) (by omega) (fun H1 hR1 => kk H1 locs lsA _ _ hl hR1 hlo (by omega) (by omega))
      · cases hef
    · cases hef
  case new i =>
    cases (show some (Sum.inl (ls, .inr (some (topS σ)) :: st, mkS σ (10 + x0 y) (NF (x0 y)))) = _ from hef)
    have e1 : topS (mkS σ (10 + x0 y) (NF (x0 y))) = topS σ + 1 := rfl
    have e2 : usdS (mkS σ (10 + x0 y) (NF (x0 y))) = usdS σ + NF (x0 y) := rfl
    exact c_new C0 hR (show newT.contains [clM k, i, x0 y] = true from he) hd (by omega) (by omega) (fun H1 hR1 => kk H1 locs lsA _ _ hl hR1 hlo (by omega) (by omega))
  case invokevirtual i => exact absurd hef (fun h => cal_no h)
  case invokestatic i =>
    obtain ⟨k', na, rk, rfl, he2⟩ := ex_s he
    simp only [eff] at hef
    split at hef
    · next h1000 =>
      split at hef
      · next hlen =>
        rw [if_pos (show 1000 ≤ k' from h1000), Bool.and_eq_true] at he2
        exact c_nat C0 hR hl hdp hlo hcl hsl hlen he2.1 (Or.inr ⟨of_decide_eq_true he2.2, hd⟩) hef kk
      · cases hef
    · exact absurd hef (fun h => cal_no h)
  case invokespecial i =>
    obtain ⟨k', na, rk, rfl, he2⟩ := ex_i he
    simp only [eff] at hef
    split at hef
    · next h1000 =>
      split at hef
      · next hlen =>
        rw [if_pos (show 1000 ≤ k' from h1000), Bool.and_eq_true] at he2
        exact c_nat C0 hR hl hdp hlo hcl hsl hlen he2.1 (Or.inl ⟨of_decide_eq_true he2.2, hd⟩) hef kk
      · cases hef
    · exact absurd hef (fun h => cal_no h)
  case ireturn =>
    simp only [eff] at hef
    split at hef
    · split at hef <;> cases hef
    · cases hef
  case return_ =>
    simp only [eff] at hef
    split at hef <;> cases hef
  all_goals cases hef
end SNG
