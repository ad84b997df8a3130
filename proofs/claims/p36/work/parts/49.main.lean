/-! SOUNDNESS, the induction -/
section SNU
variable {D : va_G} {cA : Nat → ClassId} {b0 : Nat} {zt : Nat → Nat} {k pc pc' : Nat} {ls ls' : LsT} {st st' : List AV} {σ σ' : Sto}
set_option maxHeartbeats 8000000 in
theorem eff_nt {q : RI} {o : LsT × List AV × Sto} (h : eff zt q ls st σ = some (.inl o)) : isSw q.1 = false ∧ isTm q.1 = false := by
  obtain ⟨i, y⟩ := q
  cases i
  case goto off => cases h
  case tableswitch d lo hi offs =>
    simp only [eff, jp] at h
    (repeat' split at h)
    all_goals cases h
  case ireturn =>
    simp only [eff] at h
    (repeat' split at h)
    all_goals cases h
  case return_ =>
    simp only [eff] at h
    (repeat' split at h)
    all_goals cases h
  all_goals exact ⟨rfl, rfl⟩
theorem cal_spec {y : List Nat} {k' : Nat} {as rest : List AV} (h : cal y st σ = some (.inr (.inr (.inl (k', as, rest))))) : ∃ na rk, y = [k', na, rk] ∧ na ≤ st.length ∧ st.length ≤ na + 7 ∧ rcB σ rk as = true ∧ as = (st.take na).reverse ∧ rest = st.drop na := by
  unfold cal at h
  split at h
  · next k0 na rk =>
    split at h
    · next hh =>
      cases h
      exact ⟨na, rk, rfl, hh.1, hh.2.1, hh.2.2, rfl, rfl⟩
    · cases h
  · cases h
theorem run_on {p : Program} {l : Launch} {e : Env} {R : Room} {s : State} {m : MethodId} {args : Array Value} {below : List Frame} {meth : Method} {c : Code} {H : Heap} {locs : List Loc} {cells slots mc ms : Nat} {Q : State → Prop} {lsA : Array Slot} {st0 rest : List Value} {v1 : Option AV} {σ1 : Sto} {arr : Array Value}
    (hr : va_Run p l e R s m args below meth c H locs cells slots mc ms (F0 m pc lsA st0) rest (QcM D cA b0 zt v1 σ1 arr) (fun q => b0 ≤ q)) (hlo : ∀ x ∈ locs, b0 ≤ x.base)
    (kk : ∀ (H1 : Heap) (locs1 : List Loc), Rep D cA b0 zt s σ1 H1 → (∀ x ∈ locs1, b0 ≤ x.base) → W p l e R s m args below meth c H1 locs1 (cells + mc) (slots + ms) Q (F0 m (pc + 3) lsA ((v1.map con).toList ++ rest))) : W p l e R s m args below meth c H locs cells slots Q (F0 m pc lsA st0) := by
  intro T hT X
  obtain ⟨v0, st₀, t, T', L, h0, X', hL, e1, e2, ⟨hv, hRep⟩, stp⟩ := hr T hT X
  cases hv
  have hRs : Rep D cA b0 zt s σ1 T'.heap := by
    rw [e1]
    refine hRep.moved ?_
    rw [← e2]
    exact X'.warmed.alike.symm
  obtain ⟨t2, a1, b1⟩ := kk T'.heap (locs ++ L) hRs (fun x hx => by
    rcases List.mem_append.mp hx with q | q
    · exact hlo x q
    · exact hL x q) T' rfl X'
  exact ⟨t2, stp t2 a1, b1⟩
theorem call_b (hT : Tbs) {p : Program} {R : Room} {s : State} {m : MethodId} {args : Array Value} {meth : Method} {c : Code} {i k' na rk mc ms : Nat} {sf : Bool} (C : Cx D cA p s args m meth c k) (hm : mtB k i k' na rk sf = true) (hfr : dpM k ≤ R.frames) (hlc : 40 * dpM k ≤ R.locals) :
    k' < 95 ∧ stM k' = sf ∧ naM k' = na ∧ rk = (if sf then 0 else 10 + clM k') ∧ CallB R s args (RN (clM k)) i (yM k') (byM k') (mxM k') (rtM k') (wsM k') (rmM k' mc ms) mc ms (na - (if sf then 0 else 1)) := by
  unfold mtB at hm
  simp only [Bool.and_eq_true, decide_eq_true_eq, beq_iff_eq] at hm
  obtain ⟨⟨⟨⟨⟨h1, h2⟩, h3⟩, h4⟩, h5⟩, h6⟩ := hm
  have hk' : k' < 95 := by
    have : NM = 96 := rfl
    omega
  obtain ⟨o1, o2, o3, o4, o5, o6, o7, o8, o9, o10, o11, o12, o13, o14⟩ := okM_spec hT hk'
  obtain ⟨hx, hb, hmc, hown, hts, hin, hK, -⟩ := C
  refine ⟨hk', h2, h3, h4, rfl, rfl, ?_, ?_, ?_, List.mem_cons_self, hts _ o1, ?_, o8, ?_, hts _ (meth_word hT h1)⟩
  · show dpM k' + 1 ≤ R.frames
    omega
  · show 8 + (mxM k' + 11) + 40 * dpM k' ≤ R.locals
    omega
  · intro w hw a' U hW
    have hw2 : w ∈ bigW := by
      rcases List.mem_cons.mp hw with rfl | q
      · exact o1
      · exact q
    exact word_at hW (big_good hw2) (hts _ hw2)
  · rw [o6]; exact hts _ o5
  · intro sig hsig
    rw [hsig] at o9
    have := Option.some.inj o9
    rw [h2, h3] at this
    exact this.symm
set_option maxHeartbeats 8000000 in
theorem sound (hT : Tbs) (hC : Chs) : ∀ n, Snd D cA b0 zt n
  | 0 => fun k c ls st σ v σ' h => by cases h
  | n + 1 => by
    have ih := sound hT hC n
    intro k c ls st σ v σ' h p l e R s m args below meth cd H locs cells slots Q pc lsA hk Cxx hma hfr hlc hl hR hlo hcl hsl kk
    have C0 := Cxx
    obtain ⟨hx, hb, hmc, hown, hts, hin, hK, -⟩ := Cxx
    cases c with
    | nil => cases h
    | cons q c =>
      simp only [run] at h
      unfold maB at hma
      by_cases hnop : isNop q.1 = true
      · rw [if_pos hnop] at hma
        simp only [Bool.and_eq_true, beq_iff_eq] at hma
        obtain ⟨i, y⟩ := q
        cases i <;> first | (cases hnop; done) | skip
        have h2 : run zt n k (P k (x0 y)) ls st σ = some (v, σ') := h
        have hpc : pc = x0 y := hma.1
        rw [← hpc] at h2
        exact ih k _ _ _ _ _ _ h2 p l e R s m args below meth cd H locs cells slots Q pc lsA hk C0 (chs_at hC hk hma.2) hfr hlc hl hR hlo hcl hsl kk
      · rw [if_neg hnop] at hma
        have hnop2 : isNop q.1 = false := by simpa using hnop
        split at hma
        · next r hd0 =>
          simp only [Bool.and_eq_true, Bool.or_eq_true, decide_eq_true_eq] at hma
          obtain ⟨⟨⟨hr1, hr2⟩, he⟩, hnx⟩ := hma
          have hd : decode (byM k) pc = .ok (q.1, r.2) := by rw [hd0, ← hr1]
          split at h
          · cases h
          · next ls' st' σ1 hef =>
            obtain ⟨hns, hnt⟩ := eff_nt hef
            have hr3 : r.2 = lenI q.1 := hr2.resolve_left (by rw [hns]; decide)
            rw [hr3] at hd
            have hm2 : maB k (pc + lenI q.1) c = true := hnx.resolve_left (by rw [hnt]; decide)
            have hmo := run_mono n _ _ _ _ _ _ _ h
            refine s_next C0 hd he ⟨hfr, hlc⟩ hl hR hlo (by omega) (by omega) hef (fun H' locs' lsA' cells' slots' hl' hR' hlo' e1 e2 => ?_)
            exact ih k _ _ _ _ _ _ h p l e R s m args below meth cd H' locs' cells' slots' Q _ lsA' hk C0 hm2 hfr hlc hl' hR' hlo' (by omega) (by omega) (fun pc' H2 locs2 lsA2 cells2 slots2 q1 q2 q3 q4 q5 => kk pc' H2 locs2 lsA2 cells2 slots2 q1 q2 q3 (by omega) (by omega))
          · next L st' hef =>
            obtain ⟨hlb, hj⟩ := s_jump (H := H) (locs := locs) (cells := cells) (slots := slots) (Q := Q) (lsA := lsA) C0 hd hr2 hnop2 he hef
            exact hj (ih k _ _ _ _ _ _ h p l e R s m args below meth cd H locs cells slots Q L lsA hk C0 (chs_at hC hk hlb) hfr hlc hl hR hlo hcl hsl kk)
          · next k' as rest hef =>
            split at h
            · next v1 σ1 hrun =>
              have hmo := run_mono n _ _ _ _ _ _ _ h
              have hmo1 := run_mono n _ _ _ _ _ _ _ hrun
              obtain ⟨hcal, hq⟩ := eff_cal hef
              obtain ⟨hns, hnt⟩ : isSw q.1 = false ∧ isTm q.1 = false := by rcases hq with ⟨i, hi⟩ | ⟨i, hi, -⟩ | ⟨i, hi, -⟩ <;> rw [hi] <;> exact ⟨rfl, rfl⟩
              have hlen3 : lenI q.1 = 3 := by rcases hq with ⟨i, hi⟩ | ⟨i, hi, -⟩ | ⟨i, hi, -⟩ <;> rw [hi] <;> rfl
              have hr3 : r.2 = 3 := (hr2.resolve_left (by rw [hns]; decide)).trans hlen3
              rw [hr3] at hd
              have hm2 : maB k (pc + 3) c = true := by rw [← hlen3]; exact hnx.resolve_left (by rw [hnt]; decide)
              obtain ⟨na, rk, hy, hle, hle2, hrc, has, hrest⟩ := cal_spec hcal
              have hst : st = as.reverse ++ rest := by rw [has, hrest, List.reverse_reverse, List.take_append_drop]
              have haslen : as.length = na := by rw [has, List.length_reverse, List.length_take]; omega
              have hrl : rest.length ≤ 7 := by rw [hrest, List.length_drop]; omega
              have hroom : 2 * (F0 m pc lsA (st.map con)).monitorRoom + ((rest.map con).map fun v => v.category).sum ≤ 8 := lv_room (by rw [con_sum]; omega)
              have hf : cells + (topS σ1 - topS σ) ≤ R.cells ∧ slots + (usdS σ1 - usdS σ) ≤ R.slots := ⟨by omega, by omega⟩
              have hCF : CallFix p m cd (byM k) (mxM k) s args bigW (RN (clM k)) := ⟨hx, hb, hmc, hown, hts⟩
              have hPc : ∀ U : State, U.heap = H → s.WarmedH U.vm → PcM D cA b0 zt as σ (as.map con).toArray U := fun U hU hW => ⟨rfl, by rw [hU]; exact hR.moved hW.alike, hK.warm hW⟩
              have hgo : ∀ (H1 : Heap) (locs1 : List Loc), Rep D cA b0 zt s σ1 H1 → (∀ x ∈ locs1, b0 ≤ x.base) → W p l e R s m args below meth cd H1 locs1 (cells + (topS σ1 - topS σ)) (slots + (usdS σ1 - usdS σ)) Q (F0 m (pc + 3) lsA ((v1.map con).toList ++ rest.map con)) := by
                intro H1 locs1 hR1 hlo1
                rw [← con_app]
                exact ih k _ _ _ _ _ _ h p l e R s m args below meth cd H1 locs1 _ _ Q _ lsA hk C0 hm2 hfr hlc hl hR1 hlo1 (by omega) (by omega) (fun pc' H2 locs2 lsA2 cells2 slots2 q1 q2 q3 q4 q5 => kk pc' H2 locs2 lsA2 cells2 slots2 q1 q2 q3 (by omega) (by omega))
              obtain ⟨i0, y⟩ := q
              have hy2 : y = [k', na, rk] := hy
              subst hy2
              rcases hq with ⟨i, hi⟩ | ⟨i, hi, h1000⟩ | ⟨i, hi, h1000⟩
              · have hi2 : i0 = .invokevirtual i := hi
                subst hi2
                obtain ⟨k2, na2, rk2, he1, he2⟩ := ex_v he
                cases he1
                rw [Bool.and_eq_true] at he2
                obtain ⟨hk', hst', hna', hrk, hCB⟩ := call_b (mc := topS σ1 - topS σ) (ms := usdS σ1 - usdS σ) hT C0 he2.1 hfr hlc
                obtain ⟨o1, o2, o3, o4, o5, o6, o7, o8, o9, o10, o11, o12, o13, o14⟩ := okM_spec hT hk'
                have hM := met_run hT hC ih hk' (haslen.trans hna'.symm) hrun l
                have hrk2 : rk = 10 + clM k' := hrk
                obtain ⟨b, asT, N, hasb, hsb⟩ : ∃ b asT N, as = .inr (some b) :: asT ∧ shp σ b = some (rk, N) := by
                  unfold rcB at hrc
                  rw [Bool.or_eq_true] at hrc
                  rcases hrc with hz | hz
                  · rw [beq_iff_eq] at hz; omega
                  · split at hz
                    · next b tl =>
                      split at hz
                      · next kd N hs =>
                        rw [beq_iff_eq] at hz
                        exact ⟨b, tl, N, rfl, by rw [hs, hz]⟩
                      · cases hz
                    · cases hz
                obtain ⟨ci, e1, hci6, ⟨cellB, g1, g2, g3, -⟩, -⟩ := (hR.2.2.1 b rk N hsb).2.2.2 (by omega)
                have e2 : ci = clM k' := by omega
                have hfc := (hK.1.1 ci _ (cl_at (by omega))).2.1
                rw [e2] at hfc g2
                have hin' : inM k' = false := by simpa using he2.2
                subst hasb
                refine run_on (va_runV (rest := rest.map con) (As := asT.map con) (b := b) hCF hM ⟨hCB, hts _ (o3 hst'), hts _ (o4 hst' hin')⟩ ⟨pc_blind, ⟨cellB, g1, by rw [g3]; rfl, by rw [g2]; exact hfc⟩, hPc⟩ rfl ?_ hl.1 ?_ hroom hd hf) hlo hgo
                · rw [List.length_map]
                  have : asT.length + 1 = na := haslen
                  simp only [Bool.false_eq_true, if_false]
                  omega
                · show st.map con = _
                  rw [hst]
                  simp [con]
              · have hi2 : i0 = .invokestatic i := hi
                subst hi2
                obtain ⟨k2, na2, rk2, he1, he2⟩ := ex_s he
                cases he1
                rw [if_neg (show ¬ 1000 ≤ k' from h1000)] at he2
                obtain ⟨hk', hst', hna', hrk, hCB⟩ := call_b (mc := topS σ1 - topS σ) (ms := usdS σ1 - usdS σ) hT C0 he2 hfr hlc
                obtain ⟨o1, o2, o3, o4, o5, o6, o7, o8, o9, o10, o11, o12, o13, o14⟩ := okM_spec hT hk'
                have hM := met_run hT hC ih hk' (haslen.trans hna'.symm) hrun l
                refine run_on (va_runS (rest := rest.map con) (As := as.map con) hCF hM ⟨hCB, hts _ (o2 hst')⟩ ⟨pc_blind, hPc⟩ rfl ?_ hl.1 ?_ hroom hd hf) hlo hgo
                · rw [List.length_map, haslen]; rfl
                · show st.map con = _
                  rw [hst]
                  simp
              · have hi2 : i0 = .invokespecial i := hi
                subst hi2
                obtain ⟨k2, na2, rk2, he1, he2⟩ := ex_i he
                cases he1
                rw [if_neg (show ¬ 1000 ≤ k' from h1000), Bool.and_eq_true] at he2
                obtain ⟨hk', hst', hna', hrk, hCB⟩ := call_b (mc := topS σ1 - topS σ) (ms := usdS σ1 - usdS σ) hT C0 he2.1 hfr hlc
                obtain ⟨o1, o2, o3, o4, o5, o6, o7, o8, o9, o10, o11, o12, o13, o14⟩ := okM_spec hT hk'
                have hM := met_run hT hC ih hk' (haslen.trans hna'.symm) hrun l
                have hrk2 : rk = 10 + clM k' := hrk
                obtain ⟨b, asT, hasb⟩ : ∃ b asT, as = .inr (some b) :: asT := by
                  unfold rcB at hrc
                  rw [Bool.or_eq_true] at hrc
                  rcases hrc with hz | hz
                  · rw [beq_iff_eq] at hz; omega
                  · split at hz
                    · next b tl => exact ⟨b, tl, rfl⟩
                    · cases hz
                have hrt := (o10 he2.2).2
                rw [hrt] at hCB
                subst hasb
                refine run_on (va_runI (rest := rest.map con) (As := asT.map con) (b := b) hCF hM ⟨hCB, (o10 he2.2).1, hts _ (o3 hst')⟩ ⟨pc_blind, hPc⟩ rfl ?_ hl.1 ?_ hroom hd hf) hlo hgo
                · rw [List.length_map]
                  have : asT.length + 1 = na := haslen
                  simp only [Bool.false_eq_true, if_false]
                  omega
                · show st.map con = _
                  rw [hst]
                  simp [con]
            · cases h
          · next v2 hef =>
            cases h
            have hrt : RetAt k pc v ∧ st = v.toList := by
              rcases eff_ret hef with ⟨hi, z, h1, h2, h3⟩ | ⟨hi, h1, h2⟩
              · have hr3 : r.2 = 1 := by
                  have := hr2.resolve_left (by rw [hi]; decide)
                  rw [this, hi]; rfl
                refine ⟨Or.inl ⟨z, h2, by rw [hd, hr3, hi], ?_⟩, by rw [h1, h2]; rfl⟩
                obtain ⟨i0, y⟩ := q
                have hi2 : i0 = .ireturn := hi
                subst hi2
                have he2 : ((x0 y == 0 && decide (rtM k = some .int)) || (x0 y == 1 && decide (rtM k = some .boolean))) = true := he
                simp only [Bool.or_eq_true, Bool.and_eq_true, beq_iff_eq, decide_eq_true_eq] at he2
                rcases he2 with q | q
                · exact Or.inl q.2
                · refine Or.inr ⟨q.2, ?_⟩
                  have h4 : x0 y = 0 ∨ z = 0 ∨ z = 1 := h3
                  rcases h4 with h4 | h4
                  · omega
                  · exact h4
              · have hr3 : r.2 = 1 := by
                  have := hr2.resolve_left (by rw [hi]; decide)
                  rw [this, hi]; rfl
                refine ⟨Or.inr ⟨h2, by rw [hd, hr3, hi], ?_⟩, by rw [h1, h2]; rfl⟩
                obtain ⟨i0, y⟩ := q
                have hi2 : i0 = .return_ := hi
                subst hi2
                exact of_decide_eq_true he
            rw [hrt.2]
            exact kk pc H locs lsA cells slots hrt.1 hR hlo rfl rfl
        · cases hma
end SNU
