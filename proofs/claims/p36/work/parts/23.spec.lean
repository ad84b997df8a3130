/-! THE SPECIFICATION's words: a view V of a scene (or of the reference's page): V 0 0 the mouths, V 1, V 2 their openings and widths, V 3 the sounds' numbers, V 4 the settings, V 5 0 the segments, V 6, V 7 their kinds and lengths, V 8 0 the frames, V 9, V 10 what is pinned and drawn -/
abbrev Vw : Type := Nat → Nat → Int
def vwC (g : Nat → Nat → Int) (a : Nat) : Vw := fun k j => match k with
  | 0 => g a 0
  | 1 => g (ad a 1) j
  | 2 => g (ad a 2) j
  | 3 => g (ad a 3) j
  | 4 => g (ad a 4) j
  | 5 => g a 5
  | 6 => g (ad a 5) j
  | 7 => g (ad a 6) j
  | 8 => g a 8
  | 9 => g (ad a 7) j
  | 10 => g (ad a 8) j
  | _ => 0
def sumL (V : Vw) : Nat → Int
  | 0 => 0
  | s + 1 => sumL V s + V 7 s
/-- a view in its bounds; n stands for none -/
def WFV (n : Int) (V : Vw) : Prop :=
  (1 ≤ V 0 0 ∧ V 0 0 ≤ 8) ∧
  (∀ j : Nat, (j : Int) < V 0 0 → (0 ≤ V 1 j ∧ V 1 j ≤ 9) ∧ (0 ≤ V 2 j ∧ V 2 j ≤ 9)) ∧
  (∀ j : Nat, j < 36 → 0 ≤ V 3 j ∧ V 3 j ≤ 9) ∧
  ((1 ≤ V 4 0 ∧ V 4 0 ≤ 9) ∧ (1 ≤ V 4 1 ∧ V 4 1 ≤ 3) ∧ (0 ≤ V 4 2 ∧ V 4 2 ≤ 9) ∧ (1 ≤ V 4 3 ∧ V 4 3 ≤ 99) ∧ (1 ≤ V 4 4 ∧ V 4 4 ≤ 20)) ∧
  (0 ≤ V 5 0 ∧ V 5 0 ≤ 30) ∧
  (∀ j : Nat, (j : Int) < V 5 0 → (0 ≤ V 6 j ∧ V 6 j ≤ 9) ∧ (1 ≤ V 7 j ∧ V 7 j ≤ 20)) ∧
  (0 ≤ V 8 0 ∧ V 8 0 ≤ 99) ∧ sumL V (V 5 0).toNat = V 8 0 ∧
  (∀ j : Nat, (j : Int) < V 8 0 → (V 9 j = n ∨ (0 ≤ V 9 j ∧ V 9 j < V 0 0)) ∧ (V 10 j = n ∨ (0 ≤ V 10 j ∧ V 10 j < V 0 0)))
def dstV (V : Vw) (m : Nat) (o w : Int) : Int := max ((V 1 m - o).natAbs : Int) ((V 2 m - w).natAbs : Int)
def jmpV (V : Vw) (x y : Nat) : Int := dstV V x (V 1 y) (V 2 y)
def wrgV (V : Vw) (kind : Int) (m : Nat) : Int := if kind = 9 then 9 * max 0 (V 4 2 - V 1 m) else V 3 (kind * 4 + 2).toNat * (((V 1 m - V 3 (kind * 4 + 0).toNat).natAbs : Int) + ((V 2 m - V 3 (kind * 4 + 1).toNat).natAbs : Int))
/-- the first place of the least value among the first n -/
def amin (f : Nat → Int) : Nat → Nat
  | 0 => 0
  | n + 1 => if f n < f (amin f n) then n else amin f n
/-- the same among those that p tells; -1 where there is none -/
def aminP (p : Nat → Bool) (f : Nat → Int) : Nat → Int
  | 0 => -1
  | n + 1 => if p n = true ∧ (aminP p f n = -1 ∨ f n < f (aminP p f n).toNat) then (n : Int) else aminP p f n
def cntS (n : Int) (row : Nat → Int) : Nat → Int
  | 0 => 0
  | j + 1 => if row j = n then cntS n row j else cntS n row j + 1
/-- the segment of a frame, looked for from s on among d ones -/
def segF (V : Vw) (f : Int) : Nat → Nat → Int
  | 0, _ => 0
  | d + 1, s => if f < sumL V (s + 1) then (s : Int) else segF V f d (s + 1)
def segV (V : Vw) (f : Int) : Int := segF V f (V 5 0).toNat 0
def kndV (V : Vw) (f : Int) : Int := V 6 (segV V f).toNat
section WFA
variable {n : Int} {g : Nat → Nat → Int} {a : Nat}
theorem w_M (h : WFV n (vwC g a)) : 1 ≤ g a 0 ∧ g a 0 ≤ 8 := h.1
theorem w_op (h : WFV n (vwC g a)) {j : Nat} (hj : (j : Int) < g a 0) : 0 ≤ g (ad a 1) j ∧ g (ad a 1) j ≤ 9 := (h.2.1 j hj).1
theorem w_wd (h : WFV n (vwC g a)) {j : Nat} (hj : (j : Int) < g a 0) : 0 ≤ g (ad a 2) j ∧ g (ad a 2) j ≤ 9 := (h.2.1 j hj).2
theorem w_sn (h : WFV n (vwC g a)) {j : Nat} (hj : j < 36) : 0 ≤ g (ad a 3) j ∧ g (ad a 3) j ≤ 9 := h.2.2.1 j hj
theorem w_nm (h : WFV n (vwC g a)) : (1 ≤ g (ad a 4) 0 ∧ g (ad a 4) 0 ≤ 9) ∧ (1 ≤ g (ad a 4) 1 ∧ g (ad a 4) 1 ≤ 3) ∧ (0 ≤ g (ad a 4) 2 ∧ g (ad a 4) 2 ≤ 9) ∧ (1 ≤ g (ad a 4) 3 ∧ g (ad a 4) 3 ≤ 99) ∧ (1 ≤ g (ad a 4) 4 ∧ g (ad a 4) 4 ≤ 20) := h.2.2.2.1
theorem w_G (h : WFV n (vwC g a)) : 0 ≤ g a 5 ∧ g a 5 ≤ 30 := h.2.2.2.2.1
theorem w_kd (h : WFV n (vwC g a)) {j : Nat} (hj : (j : Int) < g a 5) : 0 ≤ g (ad a 5) j ∧ g (ad a 5) j ≤ 9 := (h.2.2.2.2.2.1 j hj).1
theorem w_ln (h : WFV n (vwC g a)) {j : Nat} (hj : (j : Int) < g a 5) : 1 ≤ g (ad a 6) j ∧ g (ad a 6) j ≤ 20 := (h.2.2.2.2.2.1 j hj).2
theorem w_F (h : WFV n (vwC g a)) : 0 ≤ g a 8 ∧ g a 8 ≤ 99 := h.2.2.2.2.2.2.1
theorem w_sum (h : WFV n (vwC g a)) : sumL (vwC g a) (g a 5).toNat = g a 8 := h.2.2.2.2.2.2.2.1
theorem w_pn (h : WFV n (vwC g a)) {j : Nat} (hj : (j : Int) < g a 8) : g (ad a 7) j = n ∨ (0 ≤ g (ad a 7) j ∧ g (ad a 7) j < g a 0) := (h.2.2.2.2.2.2.2.2 j hj).1
theorem w_dr (h : WFV n (vwC g a)) {j : Nat} (hj : (j : Int) < g a 8) : g (ad a 8) j = n ∨ (0 ≤ g (ad a 8) j ∧ g (ad a 8) j < g a 0) := (h.2.2.2.2.2.2.2.2 j hj).2
end WFA
theorem sumL_mono {V : Vw} {m : Int} (h : ∀ j : Nat, (j : Int) < m → 1 ≤ V 7 j ∧ V 7 j ≤ 20) : ∀ s : Nat, (s : Int) ≤ m → (s : Int) ≤ sumL V s ∧ sumL V s ≤ 20 * s
  | 0, _ => ⟨Int.le_refl _, Int.le_refl _⟩
  | s + 1, hs => by
    have h1 := sumL_mono h s (by omega)
    have h2 := h s (by omega)
    simp only [sumL]
    omega
theorem sumL_le {V : Vw} {m : Int} (h : ∀ j : Nat, (j : Int) < m → 1 ≤ V 7 j ∧ V 7 j ≤ 20) {s : Nat} : ∀ d : Nat, ((s + d : Nat) : Int) ≤ m → sumL V s + d ≤ sumL V (s + d)
  | 0, _ => by simp
  | d + 1, hs => by
    have h1 := sumL_le h (s := s) d (by omega)
    have h2 := h (s + d) (by omega)
    show _ ≤ sumL V (s + d) + V 7 (s + d)
    omega
theorem amin_lt {f : Nat → Int} : ∀ n : Nat, 0 < n → amin f n < n
  | 1, _ => by
    show (if f 0 < f 0 then 0 else 0) < 1
    split <;> omega
  | n + 2, _ => by
    have h := amin_lt (f := f) (n + 1) (by omega)
    show (if f (n + 1) < f (amin f (n + 1)) then n + 1 else amin f (n + 1)) < n + 2
    split <;> omega
