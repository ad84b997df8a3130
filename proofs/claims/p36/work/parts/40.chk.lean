/-! THE TABLES ARE THE MACHINE'S: each row of the resolved code is what the bytes decode to, and each entry of the tables a word of the Statement. -/
def inW (w : Jvm.Cond) : Bool := decide (w ∈ lw_tbl) && goodWord w
def bigW : List Jvm.Cond := lw_tbl.filter goodWord
theorem inW_mem {w : Jvm.Cond} (h : inW w = true) : w ∈ bigW := by
  unfold inW at h
  rw [Bool.and_eq_true] at h
  exact List.mem_filter.mpr ⟨of_decide_eq_true h.1, h.2⟩
def lenI : Instr → Nat
  | .aload _ | .iload _ | .istore _ | .astore _ | .bipush _ | .ldc _ | .newarray _ => 2
  | .sipush _ | .iinc _ _ | .goto _ | .if_icmp _ _ | .ifCond _ _ | .getfield _ | .putfield _ | .getstatic _ | .anewarray _ | .new _ | .invokevirtual _ | .invokestatic _ | .invokespecial _ => 3
  | _ => 1
def isSw : Instr → Bool
  | .tableswitch _ _ _ _ => true
  | _ => false
def isTm : Instr → Bool
  | .tableswitch _ _ _ _ | .goto _ | .ireturn | .return_ => true
  | _ => false
def tgB (k pc : Nat) (off : Int) (L : Nat) : Bool := decide ((pc : Int) + off = (L : Int)) && (lbM k).contains L
def swB (k pc : Nat) : List Int → List Nat → Bool
  | [], [] => true
  | o :: os, L :: Ls => tgB k pc o L && swB k pc os Ls
  | _, _ => false
def mtB (k i k' na rk : Nat) (st : Bool) : Bool := methT.contains [clM k, i, k'] && (stM k' == st) && (naM k' == na) && (rk == (if st then 0 else 10 + clM k')) && decide (dpM k' + 1 ≤ dpM k) && decide (k' + 1 < NM)
def ntB (k i k' na : Nat) : Bool := natT.contains [clM k, i, k'] && decide (1 ≤ dpM k) && (na == (if k' = 1000 then 1 else if k' = 1001 then 5 else if k' = 1002 then 1 else 2))
def exI (k pc : Nat) (q : RI) : Bool := match q.1 with
  | .aload _ | .aload_n _ | .iload _ | .iload_n _ | .iconst _ | .iadd | .isub | .imul | .ineg | .iand | .ishr | .idiv | .irem | .dup | .dup2 | .pop | .iaload | .iastore | .baload | .bastore | .aaload | .aastore | .arraylength => true
  | .istore i | .astore i => decide (i < mxM k)
  | .istore_n i | .astore_n i => decide (i.val < mxM k)
  | .bipush v => decide (-128 ≤ v ∧ v < 128)
  | .sipush v => decide (-32768 ≤ v ∧ v < 32768)
  | .ldc i => ldcT.contains [clM k, i, x0 q.2] && decide (x0 q.2 < 4294967296)
  | .iinc i _ => decide (i < mxM k)
  | .goto off => tgB k pc off (x0 q.2)
  | .if_icmp _ off => tgB k pc off (x0 q.2)
  | .ifCond _ off => tgB k pc off (x0 q.2)
  | .tableswitch d _ _ offs => swB k pc (d :: offs.toList) q.2
  | .getfield i => fldT.contains [clM k, i, x0 q.2, x1 q.2]
  | .putfield i => fldT.contains [clM k, i, x0 q.2, x1 q.2] && (!(TN (x0 q.2) (x1 q.2)).2.2.2 || (inM k && decide ((TN (x0 q.2) (x1 q.2)).1 = RN (clM k))))
  | .getstatic i => statT.contains [clM k, i, x0 q.2]
  | .newarray t => (decide (t = .int) && (x0 q.2 == 0)) || (decide (t = .boolean) && (x0 q.2 == 1))
  | .anewarray i => anewT.contains [clM k, i, x0 q.2]
  | .new i => newT.contains [clM k, i, x0 q.2]
  | .invokevirtual i => match q.2 with
    | [k', na, rk] => mtB k i k' na rk false && !(inM k')
    | _ => false
  | .invokestatic i => match q.2 with
    | [k', na, rk] => if 1000 ≤ k' then ntB k i k' na && decide (1001 ≤ k') else mtB k i k' na rk true
    | _ => false
  | .invokespecial i => match q.2 with
    | [k', na, rk] => if 1000 ≤ k' then ntB k i k' na && decide (k' = 1000) else mtB k i k' na rk false && inM k'
    | _ => false
  | .ireturn => (x0 q.2 == 0 && decide (rtM k = some .int)) || (x0 q.2 == 1 && decide (rtM k = some .boolean))
  | .return_ => decide (rtM k = none)
  | _ => false
def isNop : Instr → Bool
  | .nop => true
  | _ => false
def maB (k : Nat) : Nat → List RI → Bool
  | _, [] => false
  | pc, q :: c => if isNop q.1 = true then (pc == x0 q.2) && (lbM k).contains pc else match decode (byM k) pc with
    | .ok r => decide (r.1 = q.1) && (isSw q.1 || decide (r.2 = lenI q.1)) && exI k pc q && (isTm q.1 || maB k (pc + lenI q.1) c)
    | .error _ => false
def chM (k : Nat) : Bool := (lbM k).contains 0 && (lbM k).all (fun L => maB k L (P k L))
