/-! THE ABSTRACT MACHINE: ints are Int (their Int32 by Int32.ofInt), references are addresses; a store is (ints, (references, shapes, top, slots)) by address and slot.
Shapes: 0 int[], 1 boolean[], 2 State[], 3 Scene[], 4 an int[] that nobody writes, 10 + c an object of class c. -/
abbrev AV : Type := Int ⊕ Option Nat
abbrev Ri : Type := (Nat → Nat → Option Nat) × (Nat → Option (Nat × Nat)) × Nat × Nat
abbrev Sto : Type := (Nat → Nat → Int) × Ri
abbrev LsT : Type := List (Option AV)
abbrev AI (z : Int) : AV := .inl z
abbrev AR (a : Nat) : AV := .inr (some a)
abbrev Out : Type := (LsT × List AV × Sto) ⊕ (Nat × List AV) ⊕ (Nat × List AV × List AV) ⊕ Option AV
abbrev rng (z : Int) : Prop := -2147483648 ≤ z ∧ z < 2147483648
abbrev shp (σ : Sto) (a : Nat) : Option (Nat × Nat) := σ.2.2.1 a
abbrev topS (σ : Sto) : Nat := σ.2.2.2.1
abbrev usdS (σ : Sto) : Nat := σ.2.2.2.2
def lget : LsT → Nat → Option AV
  | [], _ => none
  | x :: _, 0 => x
  | _ :: t, i + 1 => lget t i
def lset : LsT → Nat → AV → LsT
  | [], _, _ => []
  | _ :: t, 0, v => some v :: t
  | x :: t, i + 1, v => x :: lset t i v
def wrI (f : Nat → Nat → Int) (a k : Nat) (v : Int) : Nat → Nat → Int := fun x y => if x = a ∧ y = k then v else f x y
def wrR (f : Nat → Nat → Option Nat) (a k : Nat) (v : Option Nat) : Nat → Nat → Option Nat := fun x y => if x = a ∧ y = k then v else f x y
def cpI (f : Nat → Nat → Int) (src sp dst dp n : Nat) : Nat → Nat → Int := fun x y => if x = dst ∧ dp ≤ y ∧ y < dp + n then f src (sp + (y - dp)) else f x y
def mkS (σ : Sto) (kd N : Nat) : Sto := (fun x y => if x = topS σ then 0 else σ.1 x y, fun x y => if x = topS σ then none else σ.2.1 x y, fun x => if x = topS σ then some (kd, N) else σ.2.2.1 x, topS σ + 1, usdS σ + N)
def nx (ls : LsT) (st : List AV) (σ : Sto) : Option Out := some (.inl (ls, st, σ))
def jp (L : Nat) (st : List AV) : Option Out := some (.inr (.inl (L, st)))
def ldI (ls : LsT) (i : Nat) (st : List AV) (σ : Sto) : Option Out := match lget ls i with
  | some (.inl z) => nx ls (.inl z :: st) σ
  | _ => none
def ldR (ls : LsT) (i : Nat) (st : List AV) (σ : Sto) : Option Out := match lget ls i with
  | some (.inr (some a)) => nx ls (.inr (some a) :: st) σ
  | _ => none
def stI (ls : LsT) (i : Nat) (st : List AV) (σ : Sto) : Option Out := match st with
  | .inl z :: st => nx (lset ls i (.inl z)) st σ
  | _ => none
def stR (ls : LsT) (i : Nat) (st : List AV) (σ : Sto) : Option Out := match st with
  | .inr (some a) :: st => nx (lset ls i (.inr (some a))) st σ
  | _ => none
def bin (f : Int → Int → Option Int) (ls : LsT) (st : List AV) (σ : Sto) : Option Out := match st with
  | .inl b :: .inl a :: st => match f a b with
    | some z => nx ls (.inl z :: st) σ
    | none => none
  | _ => none
def cj (c : Jvm.ClassFile.Cond) (a b : Int) (t f : Option Out) : Option Out := match c with
  | .eq => if a = b then t else if rng a ∧ rng b then f else none
  | .ne => if a = b then f else if rng a ∧ rng b then t else none
  | .lt => if rng a ∧ rng b then (if a < b then t else f) else none
  | .ge => if rng a ∧ rng b then (if b ≤ a then t else f) else none
  | .gt => if rng a ∧ rng b then (if b < a then t else f) else none
  | .le => if rng a ∧ rng b then (if a ≤ b then t else f) else none
def natC (k : Nat) (ls : LsT) (st : List AV) (σ : Sto) : Option Out :=
  if k = 1000 then (match st with
    | .inr (some _) :: st => nx ls st σ
    | _ => none)
  else if k = 1001 then (match st with
    | .inl n :: .inl dp :: .inr (some d) :: .inl sp :: .inr (some s) :: st => match shp σ s, shp σ d with
      | some (ks, n0), some (kd, n1) => if ks = 0 ∧ kd = 0 ∧ 0 ≤ n ∧ 0 ≤ dp ∧ 0 ≤ sp ∧ sp + n ≤ n0 ∧ dp + n ≤ n1 ∧ n0 < 65536 ∧ n1 < 65536 then nx ls st (cpI σ.1 s sp.toNat d dp.toNat n.toNat, σ.2) else none
      | _, _ => none
    | _ => none)
  else if k = 1002 then (match st with
    | .inl a :: st => if rng a ∧ a ≠ -2147483648 then nx ls (.inl (a.natAbs : Int) :: st) σ else none
    | _ => none)
  else if k = 1003 then bin (fun a b => if rng a ∧ rng b then some (min a b) else none) ls st σ
  else if k = 1004 then bin (fun a b => if rng a ∧ rng b then some (max a b) else none) ls st σ
  else none
def rcv (σ : Sto) (rk : Nat) (a : AV) : Prop := match a with
  | .inr (some b) => ∃ N, shp σ b = some (rk, N)
  | _ => False
def rcB (σ : Sto) (rk : Nat) (as : List AV) : Bool := rk == 0 || match as with
  | .inr (some b) :: _ => (match shp σ b with
    | some (kd, _) => kd == rk
    | none => false)
  | _ => false
def cal (x : List Nat) (st : List AV) (σ : Sto) : Option Out := match x with
  | [k, na, rk] => if na ≤ st.length ∧ st.length ≤ na + 7 ∧ rcB σ rk (st.take na).reverse = true then some (.inr (.inr (.inl (k, (st.take na).reverse, st.drop na)))) else none
  | _ => none
def x0 (x : List Nat) : Nat := match x with
  | a :: _ => a
  | [] => 0
def x1 (x : List Nat) : Nat := match x with
  | _ :: b :: _ => b
  | _ => 0
def aldI (ok : Nat → Bool) (ls : LsT) (st : List AV) (σ : Sto) : Option Out := match st with
  | .inl i :: .inr (some a) :: st => match shp σ a with
    | some (kd, N) => if ok kd = true ∧ 0 ≤ i ∧ i < N ∧ i < 65536 then nx ls (.inl (σ.1 a i.toNat) :: st) σ else none
    | none => none
  | _ => none
def shrI (a b : Int) : Int := (Int32.ofInt a >>> (Int32.ofInt b &&& 31)).toInt
def eff (zt : Nat → Nat) (q : RI) (ls : LsT) (st : List AV) (σ : Sto) : Option Out := match q.1 with
  | .aload i => ldR ls i st σ
  | .aload_n i => ldR ls i.val st σ
  | .iload i => ldI ls i st σ
  | .iload_n i => ldI ls i.val st σ
  | .istore i => stI ls i st σ
  | .istore_n i => stI ls i.val st σ
  | .astore i => stR ls i st σ
  | .astore_n i => stR ls i.val st σ
  | .iconst v => nx ls (.inl v :: st) σ
  | .bipush v => nx ls (.inl v :: st) σ
  | .sipush v => nx ls (.inl v :: st) σ
  | .ldc _ => nx ls (.inl (x0 q.2 : Int) :: st) σ
  | .iadd => bin (fun a b => some (a + b)) ls st σ
  | .isub => bin (fun a b => some (a - b)) ls st σ
  | .imul => bin (fun a b => some (a * b)) ls st σ
  | .iand => bin (fun a b => if b = 2147483647 then some (a % 2147483648) else none) ls st σ
  | .ishr => bin (fun a b => some (shrI a b)) ls st σ
  | .idiv => bin (fun a b => if rng a ∧ 0 < b ∧ rng b then some (a.tdiv b) else none) ls st σ
  | .irem => bin (fun a b => if 0 ≤ a ∧ rng a ∧ 0 < b ∧ rng b then some (a % b) else none) ls st σ
  | .ineg => (match st with
    | .inl a :: st => nx ls (.inl (-a) :: st) σ
    | _ => none)
  | .iinc i d => (match lget ls i with
    | some (.inl z) => nx (lset ls i (.inl (z + d))) st σ
    | _ => none)
  | .dup => (match st with
    | a :: st => nx ls (a :: a :: st) σ
    | _ => none)
  | .dup2 => (match st with
    | b :: a :: st => nx ls (b :: a :: b :: a :: st) σ
    | _ => none)
  | .pop => (match st with
    | _ :: st => nx ls st σ
    | _ => none)
  | .nop => jp (x0 q.2) st
  | .goto _ => jp (x0 q.2) st
  | .if_icmp c _ => (match st with
    | .inl b :: .inl a :: st => cj c a b (jp (x0 q.2) st) (nx ls st σ)
    | _ => none)
  | .ifCond c _ => (match st with
    | .inl a :: st => cj c a 0 (jp (x0 q.2) st) (nx ls st σ)
    | _ => none)
  | .tableswitch _ lo hi _ => (match st, q.2 with
    | .inl a :: st, d :: ts => if rng a then (if a < lo ∨ hi < a then jp d st else match ts[(a - lo).toNat]? with
      | some L => jp L st
      | none => none) else none
    | _, _ => none)
  | .getfield _ => (match st with
    | .inr (some a) :: st => match shp σ a with
      | some (kd, _) => if kd = 10 + x0 q.2 then nx ls ((if fI (x0 q.2) (x1 q.2) = true then .inl (σ.1 a (x1 q.2)) else .inr (σ.2.1 a (x1 q.2))) :: st) σ else none
      | none => none
    | _ => none)
  | .putfield _ => (match st with
    | .inl v :: .inr (some a) :: st => (match shp σ a with
      | some (kd, _) => if kd = 10 + x0 q.2 ∧ fI (x0 q.2) (x1 q.2) = true then nx ls st (wrI σ.1 a (x1 q.2) v, σ.2) else none
      | none => none)
    | .inr (some b) :: .inr (some a) :: st => (match shp σ a with
      | some (kd, _) => if kd = 10 + x0 q.2 ∧ fI (x0 q.2) (x1 q.2) = false then nx ls st (σ.1, wrR σ.2.1 a (x1 q.2) (some b), σ.2.2) else none
      | none => none)
    | _ => none)
  | .getstatic _ => nx ls (.inr (some (zt (x0 q.2))) :: st) σ
  | .iaload => aldI (fun kd => kd == 0 || kd == 4) ls st σ
  | .baload => aldI (fun kd => kd == 1) ls st σ
  | .iastore => (match st with
    | .inl v :: .inl i :: .inr (some a) :: st => match shp σ a with
      | some (kd, N) => if kd = 0 ∧ 0 ≤ i ∧ i < N ∧ i < 65536 then nx ls st (wrI σ.1 a i.toNat v, σ.2) else none
      | none => none
    | _ => none)
  | .bastore => (match st with
    | .inl v :: .inl i :: .inr (some a) :: st => match shp σ a with
      | some (kd, N) => if kd = 1 ∧ 0 ≤ i ∧ i < N ∧ i < 65536 ∧ (v = 0 ∨ v = 1) then nx ls st (wrI σ.1 a i.toNat v, σ.2) else none
      | none => none
    | _ => none)
  | .aaload => (match st with
    | .inl i :: .inr (some a) :: st => match shp σ a with
      | some (kd, N) => if (kd = 2 ∨ kd = 3) ∧ 0 ≤ i ∧ i < N ∧ i < 65536 then nx ls (.inr (σ.2.1 a i.toNat) :: st) σ else none
      | none => none
    | _ => none)
  | .aastore => (match st with
    | .inr (some b) :: .inl i :: .inr (some a) :: st => match shp σ a, shp σ b with
      | some (kd, N), some (kb, _) => if (kd = 2 ∧ kb = 14 ∨ kd = 3 ∧ kb = 13) ∧ 0 ≤ i ∧ i < N ∧ i < 65536 then nx ls st (σ.1, wrR σ.2.1 a i.toNat (some b), σ.2.2) else none
      | _, _ => none
    | _ => none)
  | .arraylength => (match st with
    | .inr (some a) :: st => match shp σ a with
      | some (kd, N) => if kd ≤ 4 then nx ls (.inl (N : Int) :: st) σ else none
      | none => none
    | _ => none)
  | .newarray _ => (match st with
    | .inl n :: st => if 0 ≤ n ∧ n < 65536 then nx ls (.inr (some (topS σ)) :: st) (mkS σ (x0 q.2) n.toNat) else none
    | _ => none)
  | .anewarray _ => (match st with
    | .inl n :: st => if 0 ≤ n ∧ n < 65536 then nx ls (.inr (some (topS σ)) :: st) (mkS σ (x0 q.2) n.toNat) else none
    | _ => none)
  | .new _ => nx ls (.inr (some (topS σ)) :: st) (mkS σ (10 + x0 q.2) (NF (x0 q.2)))
  | .invokevirtual _ => cal q.2 st σ
  | .invokestatic _ => if 1000 ≤ x0 q.2 then (if st.length ≤ 8 then natC (x0 q.2) ls st σ else none) else cal q.2 st σ
  | .invokespecial _ => if 1000 ≤ x0 q.2 then (if st.length ≤ 8 then natC (x0 q.2) ls st σ else none) else cal q.2 st σ
  | .ireturn => (match st with
    | [.inl z] => if x0 q.2 = 0 ∨ z = 0 ∨ z = 1 then some (.inr (.inr (.inr (some (.inl z))))) else none
    | _ => none)
  | .return_ => (match st with
    | [] => some (.inr (.inr (.inr none)))
    | _ => none)
  | _ => none
def ent (k : Nat) (as : List AV) : LsT := as.map some ++ List.replicate (mxM k - as.length) none
def run (zt : Nat → Nat) : Nat → Nat → List RI → LsT → List AV → Sto → Option (Option AV × Sto)
  | 0, _, _, _, _, _ => none
  | n + 1, k, c, ls, st, σ => match c with
    | [] => none
    | q :: c => match eff zt q ls st σ with
      | none => none
      | some (.inl (ls', st', σ')) => run zt n k c ls' st' σ'
      | some (.inr (.inl (L, st'))) => run zt n k (P k L) ls st' σ
      | some (.inr (.inr (.inl (k', as, rest)))) => (match run zt n k' (P k' 0) (ent k' as) [] σ with
        | some (v, σ') => run zt n k c ls (v.toList ++ rest) σ'
        | none => none)
      | some (.inr (.inr (.inr v))) => some (v, σ)
def Wp (zt : Nat → Nat) (k : Nat) (c : List RI) (ls : LsT) (st : List AV) (σ : Sto) (Q : Option AV → Sto → Prop) : Prop := ∃ n v σ', run zt n k c ls st σ = some (v, σ') ∧ Q v σ'
def WpM (zt : Nat → Nat) (k : Nat) (as : List AV) (σ : Sto) (Q : Option AV → Sto → Prop) : Prop := Wp zt k (P k 0) (ent k as) [] σ Q
