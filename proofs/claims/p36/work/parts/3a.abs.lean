/-! THE ABSTRACT VIEW U: none is -1; a view V with its own none n stands for it where it is live -/
def nn (n x : Int) : Int := if x = -1 then n else x
def LR (n : Int) (V U : Vw) : Prop :=
  V 0 0 = U 0 0 ∧ V 5 0 = U 5 0 ∧ V 8 0 = U 8 0 ∧ (∀ j : Nat, (j : Int) < U 0 0 → V 1 j = U 1 j ∧ V 2 j = U 2 j) ∧ (∀ j : Nat, j < 36 → V 3 j = U 3 j) ∧ (∀ j : Nat, j < 5 → V 4 j = U 4 j) ∧ (∀ j : Nat, (j : Int) < U 5 0 → V 6 j = U 6 j ∧ V 7 j = U 7 j) ∧ ∀ j : Nat, (j : Int) < U 8 0 → V 9 j = nn n (U 9 j) ∧ V 10 j = nn n (U 10 j)
section LRA
variable {n : Int} {V U : Vw}
theorem LR.l0 (h : LR n V U) : V 0 0 = U 0 0 := h.1
theorem LR.l5 (h : LR n V U) : V 5 0 = U 5 0 := h.2.1
theorem LR.l8 (h : LR n V U) : V 8 0 = U 8 0 := h.2.2.1
theorem LR.l1 (h : LR n V U) {j : Nat} (hj : (j : Int) < U 0 0) : V 1 j = U 1 j := (h.2.2.2.1 j hj).1
theorem LR.l2 (h : LR n V U) {j : Nat} (hj : (j : Int) < U 0 0) : V 2 j = U 2 j := (h.2.2.2.1 j hj).2
theorem LR.l3 (h : LR n V U) {j : Nat} (hj : j < 36) : V 3 j = U 3 j := h.2.2.2.2.1 j hj
theorem LR.l4 (h : LR n V U) {j : Nat} (hj : j < 5) : V 4 j = U 4 j := h.2.2.2.2.2.1 j hj
theorem LR.l6 (h : LR n V U) {j : Nat} (hj : (j : Int) < U 5 0) : V 6 j = U 6 j := (h.2.2.2.2.2.2.1 j hj).1
theorem LR.l7 (h : LR n V U) {j : Nat} (hj : (j : Int) < U 5 0) : V 7 j = U 7 j := (h.2.2.2.2.2.2.1 j hj).2
theorem LR.l9 (h : LR n V U) {j : Nat} (hj : (j : Int) < U 8 0) : V 9 j = nn n (U 9 j) := (h.2.2.2.2.2.2.2 j hj).1
theorem LR.l10 (h : LR n V U) {j : Nat} (hj : (j : Int) < U 8 0) : V 10 j = nn n (U 10 j) := (h.2.2.2.2.2.2.2 j hj).2
theorem LR.sum (h : LR n V U) : ∀ s : Nat, (s : Int) ≤ U 5 0 → sumL V s = sumL U s
  | 0, _ => rfl
  | s + 1, hs => by
    have h1 := LR.sum h s (by omega)
    have h2 := h.l7 (j := s) (by omega)
    simp only [sumL]
    omega
theorem LR.wf (h : LR n V U) (hn : n < 0) (hW : WFV (-1) U) : WFV n V := by
  obtain ⟨w1, w2, w3, w4, w5, w6, w7, w8, w9⟩ := hW
  refine ⟨by rw [h.l0]; exact w1, fun j hj => ?_, fun j hj => by rw [h.l3 hj]; exact w3 j hj, ?_, by rw [h.l5]; exact w5, fun j hj => ?_, by rw [h.l8]; exact w7, ?_, fun j hj => ?_⟩
  · rw [h.l0] at hj
    rw [h.l1 hj, h.l2 hj]
    exact w2 j hj
  · rw [h.l4 (by omega), h.l4 (by omega), h.l4 (by omega), h.l4 (by omega), h.l4 (by omega)]
    exact w4
  · rw [h.l5] at hj
    rw [h.l6 hj, h.l7 hj]
    exact w6 j hj
  · rw [h.l5, h.l8, h.sum _ (by omega)]
    exact w8
  · rw [h.l8] at hj
    rw [h.l9 hj, h.l10 hj, h.l0]
    have := w9 j hj
    unfold nn
    constructor
    · split <;> omega
    · split <;> omega
theorem LR.dst (h : LR n V U) {m : Nat} (hm : (m : Int) < U 0 0) {o w : Int} : dstV V m o w = dstV U m o w := by
  unfold dstV
  rw [h.l1 hm, h.l2 hm]
theorem LR.jmp (h : LR n V U) {x y : Nat} (hx : (x : Int) < U 0 0) (hy : (y : Int) < U 0 0) : jmpV V x y = jmpV U x y := by
  unfold jmpV
  rw [h.dst hx, h.l1 hy, h.l2 hy]
theorem LR.wrg (h : LR n V U) {kd : Int} (h0 : 0 ≤ kd) (h9 : kd ≤ 9) {m : Nat} (hm : (m : Int) < U 0 0) : wrgV V kd m = wrgV U kd m := by
  unfold wrgV
  by_cases e : kd = 9
  · rw [if_pos e, if_pos e, h.l1 hm, h.l4 (by omega)]
  · rw [if_neg e, if_neg e, h.l1 hm, h.l2 hm, h.l3 (by omega), h.l3 (by omega), h.l3 (by omega)]
theorem LR.sgF (h : LR n V U) {f : Int} : ∀ (d s : Nat), ((s + d : Nat) : Int) ≤ U 5 0 → segF V f d s = segF U f d s
  | 0, _, _ => rfl
  | d + 1, s, hs => by
    have h1 := LR.sgF h (f := f) d (s + 1) (by omega)
    simp only [segF]
    rw [h.sum (s + 1) (by omega), h1]
theorem LR.seg (h : LR n V U) (hW : WFV (-1) U) {f : Int} : segV V f = segV U f := by
  have := hW.2.2.2.2.1
  unfold segV
  rw [h.l5]
  exact h.sgF _ _ (by omega)
theorem LR.cls (h : LR n V U) {s : Int} : clsV V s = clsV U s := by
  funext x y
  unfold clsV
  rw [h.l0]
  apply decide_eq_decide.2
  constructor
  · intro q
    rw [h.jmp q.1 q.2.1] at q
    exact q
  · intro q
    rw [h.jmp q.1 q.2.1]
    exact q
theorem segV_lt (hW : WFV (-1) U) {f : Nat} (hf : (f : Int) < U 8 0) : 0 ≤ segV U f ∧ segV U f < U 5 0 := by
  have h1 : U 5 0 ≠ 0 := by
    intro e
    have := hW.2.2.2.2.2.2.2.1
    rw [e] at this
    have h2 : sumL U (0 : Int).toNat = 0 := rfl
    omega
  have h2 := hW.2.2.2.2.1
  have h3 := segF_b (V := U) (f := f) (U 5 0).toNat 0
  unfold segV
  omega
theorem LR.knd (h : LR n V U) (hW : WFV (-1) U) {f : Nat} (hf : (f : Int) < U 8 0) : kndV V f = kndV U f := by
  have h1 := segV_lt hW hf
  unfold kndV
  rw [h.seg hW, h.l6 (by omega)]
theorem kndV_lt (hW : WFV (-1) U) {f : Nat} (hf : (f : Int) < U 8 0) : 0 ≤ kndV U f ∧ kndV U f ≤ 9 := by
  have h1 := segV_lt hW hf
  unfold kndV
  exact (hW.2.2.2.2.2.1 _ (by omega)).1
theorem LR.cst (h : LR n V U) (hn : n < 0) (hW : WFV (-1) U) : cstV n V = cstV (-1) U := by
  funext f m
  unfold cstV
  rw [h.l8, h.l0]
  by_cases e : (f : Int) < U 8 0 ∧ (m : Int) < U 0 0
  · have k := kndV_lt hW e.1
    rw [if_pos e, if_pos e, h.knd hW e.1, h.wrg k.1 k.2 e.2, h.l9 e.1]
    have w9 := (hW.2.2.2.2.2.2.2.2 f e.1).1
    unfold nn
    by_cases q : U 9 f = -1
    · rw [if_pos q, if_pos (Or.inl rfl), if_pos (Or.inl q)]
    · rw [if_neg q]
      by_cases q2 : U 9 f = m
      · rw [if_pos (Or.inr q2), if_pos (Or.inr q2)]
      · rw [if_neg (by omega), if_neg (by omega)]
  · rw [if_neg e, if_neg e]
theorem LR.chg (h : LR n V U) {kd : Int} (h0 : 0 ≤ kd) (h9 : kd ≤ 9) : chgV V kd = chgV U kd := by
  unfold chgV
  by_cases e : kd = 9
  · rw [if_pos e, if_pos e, h.l4 (by omega)]
  · rw [if_neg e, if_neg e, h.l3 (by omega)]
end LRA
