/-! LAYOUT: where the cells of an object lie (ad a j is the j-th cell behind a), as rewriting rules -/
def ad (a j : Nat) : Nat := a + j
def isSc (ρ : Ri) (a : Nat) : Prop := ρ.2.1 a = some (13, 11) ∧ ρ.2.1 (ad a 1) = some (0, 8) ∧ ρ.1 a 1 = some (ad a 1) ∧ ρ.2.1 (ad a 2) = some (0, 8) ∧ ρ.1 a 2 = some (ad a 2) ∧ ρ.2.1 (ad a 3) = some (0, 36) ∧ ρ.1 a 3 = some (ad a 3) ∧ ρ.2.1 (ad a 4) = some (0, 5) ∧ ρ.1 a 4 = some (ad a 4) ∧ ρ.2.1 (ad a 5) = some (0, 30) ∧ ρ.1 a 6 = some (ad a 5) ∧ ρ.2.1 (ad a 6) = some (0, 30) ∧ ρ.1 a 7 = some (ad a 6) ∧ ρ.2.1 (ad a 7) = some (0, 99) ∧ ρ.1 a 9 = some (ad a 7) ∧ ρ.2.1 (ad a 8) = some (0, 99) ∧ ρ.1 a 10 = some (ad a 8)
section LAYSc
variable {zt : Nat → Nat} {k : Nat} {c : List RI} {ls : LsT} {st : List AV} {g : Nat → Nat → Int} {ρ : Ri} {Q : Option AV → Sto → Prop} {x : List Nat} {a : Nat}
theorem qsc_f0 (h : isSc ρ a) : ρ.2.1 a = some (13, 11) := h.1
theorem qsc_kd (h : isSc ρ a) : kdI ρ a 13 := kdI_of (qsc_f0 h)
theorem qsc_f1 (h : isSc ρ a) : ρ.2.1 (ad a 1) = some (0, 8) := h.2.1
theorem qsc_k1 (h : isSc ρ a) : kdI ρ (ad a 1) 0 := kdI_of (qsc_f1 h)
theorem qsc_l1 (h : isSc ρ a) : lnA ρ (ad a 1) = 8 := lnA_of (qsc_f1 h)
theorem qsc_f2 (h : isSc ρ a) : ρ.1 a 1 = some (ad a 1) := h.2.2.1
theorem qsc_gf1 {i : Nat} (h : isSc ρ a) : Wp zt k ((.getfield i, [3, 1]) :: c) ls (.inr (some a) :: st) (g, ρ) Q ↔ Wp zt k c ls (.inr (some (ad a 1)) :: st) (g, ρ) Q := gf_3_1 (qsc_kd h) (qsc_f2 h)
theorem qsc_f3 (h : isSc ρ a) : ρ.2.1 (ad a 2) = some (0, 8) := h.2.2.2.1
theorem qsc_k2 (h : isSc ρ a) : kdI ρ (ad a 2) 0 := kdI_of (qsc_f3 h)
theorem qsc_l2 (h : isSc ρ a) : lnA ρ (ad a 2) = 8 := lnA_of (qsc_f3 h)
theorem qsc_f4 (h : isSc ρ a) : ρ.1 a 2 = some (ad a 2) := h.2.2.2.2.1
theorem qsc_gf2 {i : Nat} (h : isSc ρ a) : Wp zt k ((.getfield i, [3, 2]) :: c) ls (.inr (some a) :: st) (g, ρ) Q ↔ Wp zt k c ls (.inr (some (ad a 2)) :: st) (g, ρ) Q := gf_3_2 (qsc_kd h) (qsc_f4 h)
theorem qsc_f5 (h : isSc ρ a) : ρ.2.1 (ad a 3) = some (0, 36) := h.2.2.2.2.2.1
theorem qsc_k3 (h : isSc ρ a) : kdI ρ (ad a 3) 0 := kdI_of (qsc_f5 h)
theorem qsc_l3 (h : isSc ρ a) : lnA ρ (ad a 3) = 36 := lnA_of (qsc_f5 h)
theorem qsc_f6 (h : isSc ρ a) : ρ.1 a 3 = some (ad a 3) := h.2.2.2.2.2.2.1
theorem qsc_gf3 {i : Nat} (h : isSc ρ a) : Wp zt k ((.getfield i, [3, 3]) :: c) ls (.inr (some a) :: st) (g, ρ) Q ↔ Wp zt k c ls (.inr (some (ad a 3)) :: st) (g, ρ) Q := gf_3_3 (qsc_kd h) (qsc_f6 h)
theorem qsc_f7 (h : isSc ρ a) : ρ.2.1 (ad a 4) = some (0, 5) := h.2.2.2.2.2.2.2.1
theorem qsc_k4 (h : isSc ρ a) : kdI ρ (ad a 4) 0 := kdI_of (qsc_f7 h)
theorem qsc_l4 (h : isSc ρ a) : lnA ρ (ad a 4) = 5 := lnA_of (qsc_f7 h)
theorem qsc_f8 (h : isSc ρ a) : ρ.1 a 4 = some (ad a 4) := h.2.2.2.2.2.2.2.2.1
theorem qsc_gf4 {i : Nat} (h : isSc ρ a) : Wp zt k ((.getfield i, [3, 4]) :: c) ls (.inr (some a) :: st) (g, ρ) Q ↔ Wp zt k c ls (.inr (some (ad a 4)) :: st) (g, ρ) Q := gf_3_4 (qsc_kd h) (qsc_f8 h)
theorem qsc_f9 (h : isSc ρ a) : ρ.2.1 (ad a 5) = some (0, 30) := h.2.2.2.2.2.2.2.2.2.1
theorem qsc_k5 (h : isSc ρ a) : kdI ρ (ad a 5) 0 := kdI_of (qsc_f9 h)
theorem qsc_l5 (h : isSc ρ a) : lnA ρ (ad a 5) = 30 := lnA_of (qsc_f9 h)
theorem qsc_f10 (h : isSc ρ a) : ρ.1 a 6 = some (ad a 5) := h.2.2.2.2.2.2.2.2.2.2.1
theorem qsc_gf6 {i : Nat} (h : isSc ρ a) : Wp zt k ((.getfield i, [3, 6]) :: c) ls (.inr (some a) :: st) (g, ρ) Q ↔ Wp zt k c ls (.inr (some (ad a 5)) :: st) (g, ρ) Q := gf_3_6 (qsc_kd h) (qsc_f10 h)
theorem qsc_f11 (h : isSc ρ a) : ρ.2.1 (ad a 6) = some (0, 30) := h.2.2.2.2.2.2.2.2.2.2.2.1
theorem qsc_k6 (h : isSc ρ a) : kdI ρ (ad a 6) 0 := kdI_of (qsc_f11 h)
theorem qsc_l6 (h : isSc ρ a) : lnA ρ (ad a 6) = 30 := lnA_of (qsc_f11 h)
theorem qsc_f12 (h : isSc ρ a) : ρ.1 a 7 = some (ad a 6) := h.2.2.2.2.2.2.2.2.2.2.2.2.1
theorem qsc_gf7 {i : Nat} (h : isSc ρ a) : Wp zt k ((.getfield i, [3, 7]) :: c) ls (.inr (some a) :: st) (g, ρ) Q ↔ Wp zt k c ls (.inr (some (ad a 6)) :: st) (g, ρ) Q := gf_3_7 (qsc_kd h) (qsc_f12 h)
theorem qsc_f13 (h : isSc ρ a) : ρ.2.1 (ad a 7) = some (0, 99) := h.2.2.2.2.2.2.2.2.2.2.2.2.2.1
theorem qsc_k7 (h : isSc ρ a) : kdI ρ (ad a 7) 0 := kdI_of (qsc_f13 h)
theorem qsc_l7 (h : isSc ρ a) : lnA ρ (ad a 7) = 99 := lnA_of (qsc_f13 h)
theorem qsc_f14 (h : isSc ρ a) : ρ.1 a 9 = some (ad a 7) := h.2.2.2.2.2.2.2.2.2.2.2.2.2.2.1
theorem qsc_gf9 {i : Nat} (h : isSc ρ a) : Wp zt k ((.getfield i, [3, 9]) :: c) ls (.inr (some a) :: st) (g, ρ) Q ↔ Wp zt k c ls (.inr (some (ad a 7)) :: st) (g, ρ) Q := gf_3_9 (qsc_kd h) (qsc_f14 h)
theorem qsc_f15 (h : isSc ρ a) : ρ.2.1 (ad a 8) = some (0, 99) := h.2.2.2.2.2.2.2.2.2.2.2.2.2.2.2.1
theorem qsc_k8 (h : isSc ρ a) : kdI ρ (ad a 8) 0 := kdI_of (qsc_f15 h)
theorem qsc_l8 (h : isSc ρ a) : lnA ρ (ad a 8) = 99 := lnA_of (qsc_f15 h)
theorem qsc_f16 (h : isSc ρ a) : ρ.1 a 10 = some (ad a 8) := h.2.2.2.2.2.2.2.2.2.2.2.2.2.2.2.2
theorem qsc_gf10 {i : Nat} (h : isSc ρ a) : Wp zt k ((.getfield i, [3, 10]) :: c) ls (.inr (some a) :: st) (g, ρ) Q ↔ Wp zt k c ls (.inr (some (ad a 8)) :: st) (g, ρ) Q := gf_3_10 (qsc_kd h) (qsc_f16 h)
theorem qsc_gf0 {i : Nat} (h : isSc ρ a) : Wp zt k ((.getfield i, [3, 0]) :: c) ls (.inr (some a) :: st) (g, ρ) Q ↔ Wp zt k c ls (.inl (g a 0) :: st) (g, ρ) Q := gf_3_0 (qsc_kd h)
theorem qsc_pf0 {i : Nat} {v : Int} (h : isSc ρ a) : Wp zt k ((.putfield i, [3, 0]) :: c) ls (.inl v :: .inr (some a) :: st) (g, ρ) Q ↔ Wp zt k c ls st (wrI g a 0 v, ρ) Q := pf_3_0 (qsc_kd h)
theorem qsc_gf5 {i : Nat} (h : isSc ρ a) : Wp zt k ((.getfield i, [3, 5]) :: c) ls (.inr (some a) :: st) (g, ρ) Q ↔ Wp zt k c ls (.inl (g a 5) :: st) (g, ρ) Q := gf_3_5 (qsc_kd h)
theorem qsc_pf5 {i : Nat} {v : Int} (h : isSc ρ a) : Wp zt k ((.putfield i, [3, 5]) :: c) ls (.inl v :: .inr (some a) :: st) (g, ρ) Q ↔ Wp zt k c ls st (wrI g a 5 v, ρ) Q := pf_3_5 (qsc_kd h)
theorem qsc_gf8 {i : Nat} (h : isSc ρ a) : Wp zt k ((.getfield i, [3, 8]) :: c) ls (.inr (some a) :: st) (g, ρ) Q ↔ Wp zt k c ls (.inl (g a 8) :: st) (g, ρ) Q := gf_3_8 (qsc_kd h)
theorem qsc_pf8 {i : Nat} {v : Int} (h : isSc ρ a) : Wp zt k ((.putfield i, [3, 8]) :: c) ls (.inl v :: .inr (some a) :: st) (g, ρ) Q ↔ Wp zt k c ls st (wrI g a 8 v, ρ) Q := pf_3_8 (qsc_kd h)
end LAYSc
def isAr (ρ : Ri) (a : Nat) : Prop := ρ.2.1 a = some (10, 4) ∧ ρ.2.1 (ad a 1) = some (0, 99) ∧ ρ.1 a 0 = some (ad a 1) ∧ ρ.2.1 (ad a 2) = some (1, 99) ∧ ρ.1 a 1 = some (ad a 2)
section LAYAr
variable {zt : Nat → Nat} {k : Nat} {c : List RI} {ls : LsT} {st : List AV} {g : Nat → Nat → Int} {ρ : Ri} {Q : Option AV → Sto → Prop} {x : List Nat} {a : Nat}
theorem qar_f0 (h : isAr ρ a) : ρ.2.1 a = some (10, 4) := h.1
theorem qar_kd (h : isAr ρ a) : kdI ρ a 10 := kdI_of (qar_f0 h)
theorem qar_f1 (h : isAr ρ a) : ρ.2.1 (ad a 1) = some (0, 99) := h.2.1
theorem qar_k1 (h : isAr ρ a) : kdI ρ (ad a 1) 0 := kdI_of (qar_f1 h)
theorem qar_l1 (h : isAr ρ a) : lnA ρ (ad a 1) = 99 := lnA_of (qar_f1 h)
theorem qar_f2 (h : isAr ρ a) : ρ.1 a 0 = some (ad a 1) := h.2.2.1
theorem qar_gf0 {i : Nat} (h : isAr ρ a) : Wp zt k ((.getfield i, [0, 0]) :: c) ls (.inr (some a) :: st) (g, ρ) Q ↔ Wp zt k c ls (.inr (some (ad a 1)) :: st) (g, ρ) Q := gf_0_0 (qar_kd h) (qar_f2 h)
theorem qar_f3 (h : isAr ρ a) : ρ.2.1 (ad a 2) = some (1, 99) := h.2.2.2.1
theorem qar_k2 (h : isAr ρ a) : kdI ρ (ad a 2) 1 := kdI_of (qar_f3 h)
theorem qar_l2 (h : isAr ρ a) : lnA ρ (ad a 2) = 99 := lnA_of (qar_f3 h)
theorem qar_f4 (h : isAr ρ a) : ρ.1 a 1 = some (ad a 2) := h.2.2.2.2
theorem qar_gf1 {i : Nat} (h : isAr ρ a) : Wp zt k ((.getfield i, [0, 1]) :: c) ls (.inr (some a) :: st) (g, ρ) Q ↔ Wp zt k c ls (.inr (some (ad a 2)) :: st) (g, ρ) Q := gf_0_1 (qar_kd h) (qar_f4 h)
theorem qar_gf2 {i : Nat} (h : isAr ρ a) : Wp zt k ((.getfield i, [0, 2]) :: c) ls (.inr (some a) :: st) (g, ρ) Q ↔ Wp zt k c ls (.inl (g a 2) :: st) (g, ρ) Q := gf_0_2 (qar_kd h)
theorem qar_pf2 {i : Nat} {v : Int} (h : isAr ρ a) : Wp zt k ((.putfield i, [0, 2]) :: c) ls (.inl v :: .inr (some a) :: st) (g, ρ) Q ↔ Wp zt k c ls st (wrI g a 2 v, ρ) Q := pf_0_2 (qar_kd h)
theorem qar_gf3 {i : Nat} (h : isAr ρ a) : Wp zt k ((.getfield i, [0, 3]) :: c) ls (.inr (some a) :: st) (g, ρ) Q ↔ Wp zt k c ls (.inl (g a 3) :: st) (g, ρ) Q := gf_0_3 (qar_kd h)
theorem qar_pf3 {i : Nat} {v : Int} (h : isAr ρ a) : Wp zt k ((.putfield i, [0, 3]) :: c) ls (.inl v :: .inr (some a) :: st) (g, ρ) Q ↔ Wp zt k c ls st (wrI g a 3 v, ρ) Q := pf_0_3 (qar_kd h)
end LAYAr
def isPl (ρ : Ri) (a : Nat) : Prop := ρ.2.1 a = some (11, 9) ∧ ρ.2.1 (ad a 1) = some (0, 99) ∧ ρ.1 a 0 = some (ad a 1) ∧ ρ.2.1 (ad a 2) = some (0, 792) ∧ ρ.1 a 1 = some (ad a 2) ∧ ρ.2.1 (ad a 3) = some (1, 64) ∧ ρ.1 a 2 = some (ad a 3) ∧ ρ.2.1 (ad a 4) = some (0, 2376) ∧ ρ.1 a 3 = some (ad a 4) ∧ ρ.2.1 (ad a 5) = some (0, 24) ∧ ρ.1 a 4 = some (ad a 5) ∧ ρ.2.1 (ad a 6) = some (0, 24) ∧ ρ.1 a 5 = some (ad a 6)
section LAYPl
variable {zt : Nat → Nat} {k : Nat} {c : List RI} {ls : LsT} {st : List AV} {g : Nat → Nat → Int} {ρ : Ri} {Q : Option AV → Sto → Prop} {x : List Nat} {a : Nat}
theorem qpl_f0 (h : isPl ρ a) : ρ.2.1 a = some (11, 9) := h.1
theorem qpl_kd (h : isPl ρ a) : kdI ρ a 11 := kdI_of (qpl_f0 h)
theorem qpl_f1 (h : isPl ρ a) : ρ.2.1 (ad a 1) = some (0, 99) := h.2.1
theorem qpl_k1 (h : isPl ρ a) : kdI ρ (ad a 1) 0 := kdI_of (qpl_f1 h)
theorem qpl_l1 (h : isPl ρ a) : lnA ρ (ad a 1) = 99 := lnA_of (qpl_f1 h)
theorem qpl_f2 (h : isPl ρ a) : ρ.1 a 0 = some (ad a 1) := h.2.2.1
theorem qpl_gf0 {i : Nat} (h : isPl ρ a) : Wp zt k ((.getfield i, [1, 0]) :: c) ls (.inr (some a) :: st) (g, ρ) Q ↔ Wp zt k c ls (.inr (some (ad a 1)) :: st) (g, ρ) Q := gf_1_0 (qpl_kd h) (qpl_f2 h)
theorem qpl_f3 (h : isPl ρ a) : ρ.2.1 (ad a 2) = some (0, 792) := h.2.2.2.1
theorem qpl_k2 (h : isPl ρ a) : kdI ρ (ad a 2) 0 := kdI_of (qpl_f3 h)
theorem qpl_l2 (h : isPl ρ a) : lnA ρ (ad a 2) = 792 := lnA_of (qpl_f3 h)
theorem qpl_f4 (h : isPl ρ a) : ρ.1 a 1 = some (ad a 2) := h.2.2.2.2.1
theorem qpl_gf1 {i : Nat} (h : isPl ρ a) : Wp zt k ((.getfield i, [1, 1]) :: c) ls (.inr (some a) :: st) (g, ρ) Q ↔ Wp zt k c ls (.inr (some (ad a 2)) :: st) (g, ρ) Q := gf_1_1 (qpl_kd h) (qpl_f4 h)
theorem qpl_f5 (h : isPl ρ a) : ρ.2.1 (ad a 3) = some (1, 64) := h.2.2.2.2.2.1
theorem qpl_k3 (h : isPl ρ a) : kdI ρ (ad a 3) 1 := kdI_of (qpl_f5 h)
theorem qpl_l3 (h : isPl ρ a) : lnA ρ (ad a 3) = 64 := lnA_of (qpl_f5 h)
theorem qpl_f6 (h : isPl ρ a) : ρ.1 a 2 = some (ad a 3) := h.2.2.2.2.2.2.1
theorem qpl_gf2 {i : Nat} (h : isPl ρ a) : Wp zt k ((.getfield i, [1, 2]) :: c) ls (.inr (some a) :: st) (g, ρ) Q ↔ Wp zt k c ls (.inr (some (ad a 3)) :: st) (g, ρ) Q := gf_1_2 (qpl_kd h) (qpl_f6 h)
theorem qpl_f7 (h : isPl ρ a) : ρ.2.1 (ad a 4) = some (0, 2376) := h.2.2.2.2.2.2.2.1
theorem qpl_k4 (h : isPl ρ a) : kdI ρ (ad a 4) 0 := kdI_of (qpl_f7 h)
theorem qpl_l4 (h : isPl ρ a) : lnA ρ (ad a 4) = 2376 := lnA_of (qpl_f7 h)
theorem qpl_f8 (h : isPl ρ a) : ρ.1 a 3 = some (ad a 4) := h.2.2.2.2.2.2.2.2.1
theorem qpl_gf3 {i : Nat} (h : isPl ρ a) : Wp zt k ((.getfield i, [1, 3]) :: c) ls (.inr (some a) :: st) (g, ρ) Q ↔ Wp zt k c ls (.inr (some (ad a 4)) :: st) (g, ρ) Q := gf_1_3 (qpl_kd h) (qpl_f8 h)
theorem qpl_f9 (h : isPl ρ a) : ρ.2.1 (ad a 5) = some (0, 24) := h.2.2.2.2.2.2.2.2.2.1
theorem qpl_k5 (h : isPl ρ a) : kdI ρ (ad a 5) 0 := kdI_of (qpl_f9 h)
theorem qpl_l5 (h : isPl ρ a) : lnA ρ (ad a 5) = 24 := lnA_of (qpl_f9 h)
theorem qpl_f10 (h : isPl ρ a) : ρ.1 a 4 = some (ad a 5) := h.2.2.2.2.2.2.2.2.2.2.1
theorem qpl_gf4 {i : Nat} (h : isPl ρ a) : Wp zt k ((.getfield i, [1, 4]) :: c) ls (.inr (some a) :: st) (g, ρ) Q ↔ Wp zt k c ls (.inr (some (ad a 5)) :: st) (g, ρ) Q := gf_1_4 (qpl_kd h) (qpl_f10 h)
theorem qpl_f11 (h : isPl ρ a) : ρ.2.1 (ad a 6) = some (0, 24) := h.2.2.2.2.2.2.2.2.2.2.2.1
theorem qpl_k6 (h : isPl ρ a) : kdI ρ (ad a 6) 0 := kdI_of (qpl_f11 h)
theorem qpl_l6 (h : isPl ρ a) : lnA ρ (ad a 6) = 24 := lnA_of (qpl_f11 h)
theorem qpl_f12 (h : isPl ρ a) : ρ.1 a 5 = some (ad a 6) := h.2.2.2.2.2.2.2.2.2.2.2.2
theorem qpl_gf5 {i : Nat} (h : isPl ρ a) : Wp zt k ((.getfield i, [1, 5]) :: c) ls (.inr (some a) :: st) (g, ρ) Q ↔ Wp zt k c ls (.inr (some (ad a 6)) :: st) (g, ρ) Q := gf_1_5 (qpl_kd h) (qpl_f12 h)
theorem qpl_gf6 {i : Nat} (h : isPl ρ a) : Wp zt k ((.getfield i, [1, 6]) :: c) ls (.inr (some a) :: st) (g, ρ) Q ↔ Wp zt k c ls (.inl (g a 6) :: st) (g, ρ) Q := gf_1_6 (qpl_kd h)
theorem qpl_pf6 {i : Nat} {v : Int} (h : isPl ρ a) : Wp zt k ((.putfield i, [1, 6]) :: c) ls (.inl v :: .inr (some a) :: st) (g, ρ) Q ↔ Wp zt k c ls st (wrI g a 6 v, ρ) Q := pf_1_6 (qpl_kd h)
theorem qpl_gf7 {i : Nat} (h : isPl ρ a) : Wp zt k ((.getfield i, [1, 7]) :: c) ls (.inr (some a) :: st) (g, ρ) Q ↔ Wp zt k c ls (.inl (g a 7) :: st) (g, ρ) Q := gf_1_7 (qpl_kd h)
theorem qpl_pf7 {i : Nat} {v : Int} (h : isPl ρ a) : Wp zt k ((.putfield i, [1, 7]) :: c) ls (.inl v :: .inr (some a) :: st) (g, ρ) Q ↔ Wp zt k c ls st (wrI g a 7 v, ρ) Q := pf_1_7 (qpl_kd h)
theorem qpl_gf8 {i : Nat} (h : isPl ρ a) : Wp zt k ((.getfield i, [1, 8]) :: c) ls (.inr (some a) :: st) (g, ρ) Q ↔ Wp zt k c ls (.inl (g a 8) :: st) (g, ρ) Q := gf_1_8 (qpl_kd h)
theorem qpl_pf8 {i : Nat} {v : Int} (h : isPl ρ a) : Wp zt k ((.putfield i, [1, 8]) :: c) ls (.inl v :: .inr (some a) :: st) (g, ρ) Q ↔ Wp zt k c ls st (wrI g a 8 v, ρ) Q := pf_1_8 (qpl_kd h)
end LAYPl
def isRd (ρ : Ri) (a : Nat) : Prop := ρ.2.1 a = some (12, 4)
section LAYRd
variable {zt : Nat → Nat} {k : Nat} {c : List RI} {ls : LsT} {st : List AV} {g : Nat → Nat → Int} {ρ : Ri} {Q : Option AV → Sto → Prop} {x : List Nat} {a : Nat}
theorem qrd_f0 (h : isRd ρ a) : ρ.2.1 a = some (12, 4) := h
theorem qrd_kd (h : isRd ρ a) : kdI ρ a 12 := kdI_of (qrd_f0 h)
theorem qrd_gf0 {i : Nat} (h : isRd ρ a) : Wp zt k ((.getfield i, [2, 0]) :: c) ls (.inr (some a) :: st) (g, ρ) Q ↔ Wp zt k c ls (.inl (g a 0) :: st) (g, ρ) Q := gf_2_0 (qrd_kd h)
theorem qrd_pf0 {i : Nat} {v : Int} (h : isRd ρ a) : Wp zt k ((.putfield i, [2, 0]) :: c) ls (.inl v :: .inr (some a) :: st) (g, ρ) Q ↔ Wp zt k c ls st (wrI g a 0 v, ρ) Q := pf_2_0 (qrd_kd h)
theorem qrd_gf2 {i : Nat} (h : isRd ρ a) : Wp zt k ((.getfield i, [2, 2]) :: c) ls (.inr (some a) :: st) (g, ρ) Q ↔ Wp zt k c ls (.inl (g a 2) :: st) (g, ρ) Q := gf_2_2 (qrd_kd h)
theorem qrd_pf2 {i : Nat} {v : Int} (h : isRd ρ a) : Wp zt k ((.putfield i, [2, 2]) :: c) ls (.inl v :: .inr (some a) :: st) (g, ρ) Q ↔ Wp zt k c ls st (wrI g a 2 v, ρ) Q := pf_2_2 (qrd_kd h)
theorem qrd_gf3 {i : Nat} (h : isRd ρ a) : Wp zt k ((.getfield i, [2, 3]) :: c) ls (.inr (some a) :: st) (g, ρ) Q ↔ Wp zt k c ls (.inl (g a 3) :: st) (g, ρ) Q := gf_2_3 (qrd_kd h)
theorem qrd_pf3 {i : Nat} {v : Int} (h : isRd ρ a) : Wp zt k ((.putfield i, [2, 3]) :: c) ls (.inl v :: .inr (some a) :: st) (g, ρ) Q ↔ Wp zt k c ls st (wrI g a 3 v, ρ) Q := pf_2_3 (qrd_kd h)
end LAYRd
def isSt (ρ : Ri) (a : Nat) : Prop := ρ.2.1 a = some (14, 3) ∧ ρ.1 a 0 = some (ad a 1) ∧ ρ.2.1 (ad a 10) = some (3, 2) ∧ ρ.1 a 1 = some (ad a 10) ∧ ρ.2.1 (ad a 29) = some (1, 2) ∧ ρ.1 a 2 = some (ad a 29)
section LAYSt
variable {zt : Nat → Nat} {k : Nat} {c : List RI} {ls : LsT} {st : List AV} {g : Nat → Nat → Int} {ρ : Ri} {Q : Option AV → Sto → Prop} {x : List Nat} {a : Nat}
theorem qst_f0 (h : isSt ρ a) : ρ.2.1 a = some (14, 3) := h.1
theorem qst_kd (h : isSt ρ a) : kdI ρ a 14 := kdI_of (qst_f0 h)
theorem qst_f1 (h : isSt ρ a) : ρ.1 a 0 = some (ad a 1) := h.2.1
theorem qst_gf0 {i : Nat} (h : isSt ρ a) : Wp zt k ((.getfield i, [4, 0]) :: c) ls (.inr (some a) :: st) (g, ρ) Q ↔ Wp zt k c ls (.inr (some (ad a 1)) :: st) (g, ρ) Q := gf_4_0 (qst_kd h) (qst_f1 h)
theorem qst_f2 (h : isSt ρ a) : ρ.2.1 (ad a 10) = some (3, 2) := h.2.2.1
theorem qst_k10 (h : isSt ρ a) : kdI ρ (ad a 10) 3 := kdI_of (qst_f2 h)
theorem qst_l10 (h : isSt ρ a) : lnA ρ (ad a 10) = 2 := lnA_of (qst_f2 h)
theorem qst_f3 (h : isSt ρ a) : ρ.1 a 1 = some (ad a 10) := h.2.2.2.1
theorem qst_gf1 {i : Nat} (h : isSt ρ a) : Wp zt k ((.getfield i, [4, 1]) :: c) ls (.inr (some a) :: st) (g, ρ) Q ↔ Wp zt k c ls (.inr (some (ad a 10)) :: st) (g, ρ) Q := gf_4_1 (qst_kd h) (qst_f3 h)
theorem qst_f4 (h : isSt ρ a) : ρ.2.1 (ad a 29) = some (1, 2) := h.2.2.2.2.1
theorem qst_k29 (h : isSt ρ a) : kdI ρ (ad a 29) 1 := kdI_of (qst_f4 h)
theorem qst_l29 (h : isSt ρ a) : lnA ρ (ad a 29) = 2 := lnA_of (qst_f4 h)
theorem qst_f5 (h : isSt ρ a) : ρ.1 a 2 = some (ad a 29) := h.2.2.2.2.2
theorem qst_gf2 {i : Nat} (h : isSt ρ a) : Wp zt k ((.getfield i, [4, 2]) :: c) ls (.inr (some a) :: st) (g, ρ) Q ↔ Wp zt k c ls (.inr (some (ad a 29)) :: st) (g, ρ) Q := gf_4_2 (qst_kd h) (qst_f5 h)
end LAYSt
def isLf (ρ : Ri) (a : Nat) : Prop := ρ.2.1 a = some (15, 9) ∧ ρ.1 a 0 = some (ad a 1) ∧ ρ.2.1 (ad a 31) = some (2, 5) ∧ ρ.1 a 1 = some (ad a 31) ∧ ρ.1 a 3 = some (ad a 182) ∧ ρ.1 a 4 = some (ad a 191) ∧ ρ.1 a 5 = some (ad a 194) ∧ ρ.1 a 6 = some (ad a 201) ∧ ρ.2.1 (ad a 203) = some (0, 120) ∧ ρ.1 a 7 = some (ad a 203)
section LAYLf
variable {zt : Nat → Nat} {k : Nat} {c : List RI} {ls : LsT} {st : List AV} {g : Nat → Nat → Int} {ρ : Ri} {Q : Option AV → Sto → Prop} {x : List Nat} {a : Nat}
theorem qlf_f0 (h : isLf ρ a) : ρ.2.1 a = some (15, 9) := h.1
theorem qlf_kd (h : isLf ρ a) : kdI ρ a 15 := kdI_of (qlf_f0 h)
theorem qlf_f1 (h : isLf ρ a) : ρ.1 a 0 = some (ad a 1) := h.2.1
theorem qlf_gf0 {i : Nat} (h : isLf ρ a) : Wp zt k ((.getfield i, [5, 0]) :: c) ls (.inr (some a) :: st) (g, ρ) Q ↔ Wp zt k c ls (.inr (some (ad a 1)) :: st) (g, ρ) Q := gf_5_0 (qlf_kd h) (qlf_f1 h)
theorem qlf_f2 (h : isLf ρ a) : ρ.2.1 (ad a 31) = some (2, 5) := h.2.2.1
theorem qlf_k31 (h : isLf ρ a) : kdI ρ (ad a 31) 2 := kdI_of (qlf_f2 h)
theorem qlf_l31 (h : isLf ρ a) : lnA ρ (ad a 31) = 5 := lnA_of (qlf_f2 h)
theorem qlf_f3 (h : isLf ρ a) : ρ.1 a 1 = some (ad a 31) := h.2.2.2.1
theorem qlf_gf1 {i : Nat} (h : isLf ρ a) : Wp zt k ((.getfield i, [5, 1]) :: c) ls (.inr (some a) :: st) (g, ρ) Q ↔ Wp zt k c ls (.inr (some (ad a 31)) :: st) (g, ρ) Q := gf_5_1 (qlf_kd h) (qlf_f3 h)
theorem qlf_f4 (h : isLf ρ a) : ρ.1 a 3 = some (ad a 182) := h.2.2.2.2.1
theorem qlf_gf3 {i : Nat} (h : isLf ρ a) : Wp zt k ((.getfield i, [5, 3]) :: c) ls (.inr (some a) :: st) (g, ρ) Q ↔ Wp zt k c ls (.inr (some (ad a 182)) :: st) (g, ρ) Q := gf_5_3 (qlf_kd h) (qlf_f4 h)
theorem qlf_f5 (h : isLf ρ a) : ρ.1 a 4 = some (ad a 191) := h.2.2.2.2.2.1
theorem qlf_gf4 {i : Nat} (h : isLf ρ a) : Wp zt k ((.getfield i, [5, 4]) :: c) ls (.inr (some a) :: st) (g, ρ) Q ↔ Wp zt k c ls (.inr (some (ad a 191)) :: st) (g, ρ) Q := gf_5_4 (qlf_kd h) (qlf_f5 h)
theorem qlf_f6 (h : isLf ρ a) : ρ.1 a 5 = some (ad a 194) := h.2.2.2.2.2.2.1
theorem qlf_gf5 {i : Nat} (h : isLf ρ a) : Wp zt k ((.getfield i, [5, 5]) :: c) ls (.inr (some a) :: st) (g, ρ) Q ↔ Wp zt k c ls (.inr (some (ad a 194)) :: st) (g, ρ) Q := gf_5_5 (qlf_kd h) (qlf_f6 h)
theorem qlf_f7 (h : isLf ρ a) : ρ.1 a 6 = some (ad a 201) := h.2.2.2.2.2.2.2.1
theorem qlf_gf6 {i : Nat} (h : isLf ρ a) : Wp zt k ((.getfield i, [5, 6]) :: c) ls (.inr (some a) :: st) (g, ρ) Q ↔ Wp zt k c ls (.inr (some (ad a 201)) :: st) (g, ρ) Q := gf_5_6 (qlf_kd h) (qlf_f7 h)
theorem qlf_f8 (h : isLf ρ a) : ρ.2.1 (ad a 203) = some (0, 120) := h.2.2.2.2.2.2.2.2.1
theorem qlf_k203 (h : isLf ρ a) : kdI ρ (ad a 203) 0 := kdI_of (qlf_f8 h)
theorem qlf_l203 (h : isLf ρ a) : lnA ρ (ad a 203) = 120 := lnA_of (qlf_f8 h)
theorem qlf_f9 (h : isLf ρ a) : ρ.1 a 7 = some (ad a 203) := h.2.2.2.2.2.2.2.2.2
theorem qlf_gf7 {i : Nat} (h : isLf ρ a) : Wp zt k ((.getfield i, [5, 7]) :: c) ls (.inr (some a) :: st) (g, ρ) Q ↔ Wp zt k c ls (.inr (some (ad a 203)) :: st) (g, ρ) Q := gf_5_7 (qlf_kd h) (qlf_f9 h)
theorem qlf_gf2 {i : Nat} (h : isLf ρ a) : Wp zt k ((.getfield i, [5, 2]) :: c) ls (.inr (some a) :: st) (g, ρ) Q ↔ Wp zt k c ls (.inl (g a 2) :: st) (g, ρ) Q := gf_5_2 (qlf_kd h)
theorem qlf_pf2 {i : Nat} {v : Int} (h : isLf ρ a) : Wp zt k ((.putfield i, [5, 2]) :: c) ls (.inl v :: .inr (some a) :: st) (g, ρ) Q ↔ Wp zt k c ls st (wrI g a 2 v, ρ) Q := pf_5_2 (qlf_kd h)
theorem qlf_gf8 {i : Nat} (h : isLf ρ a) : Wp zt k ((.getfield i, [5, 8]) :: c) ls (.inr (some a) :: st) (g, ρ) Q ↔ Wp zt k c ls (.inl (g a 8) :: st) (g, ρ) Q := gf_5_8 (qlf_kd h)
theorem qlf_pf8 {i : Nat} {v : Int} (h : isLf ρ a) : Wp zt k ((.putfield i, [5, 8]) :: c) ls (.inl v :: .inr (some a) :: st) (g, ρ) Q ↔ Wp zt k c ls st (wrI g a 8 v, ρ) Q := pf_5_8 (qlf_kd h)
end LAYLf
