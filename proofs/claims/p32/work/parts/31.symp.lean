/-! ===== the abstract machine: what each pure instruction does ===== -/
abbrev sO : Type := Option (List (Nat × sS))
def tMin : Int := -2147483648
def tMax : Int := 2147483647
/-! comparing: 0 eq, 1 ne, 2 lt, 3 ge, 4 gt, 5 le -/
def cHold (op : Nat) (x y : Int) : Prop := match op with
  | 0 => x = y
  | 1 => x ≠ y
  | 2 => x < y
  | 3 => y ≤ x
  | 4 => y < x
  | _ => x ≤ y
def iMx (a b : Int) : Int := if a ≤ b then b else a
def iMn (a b : Int) : Int := if a ≤ b then a else b
def cLearn (op : Nat) (xl xh lo hi : Int) : Int × Int := match op with
  | 0 => (iMx xl lo, iMn xh hi)
  | 1 => if lo = hi then (if xl = lo then xl + 1 else xl, if xh = lo then xh - 1 else xh) else (xl, xh)
  | 2 => (xl, iMn xh (hi - 1))
  | 3 => (iMx xl lo, xh)
  | 4 => (iMx xl (lo + 1), xh)
  | _ => (xl, iMn xh hi)
def cSwap : Nat → Nat
  | 0 => 0
  | 1 => 1
  | 2 => 4
  | 3 => 5
  | 4 => 2
  | _ => 3
def cNeg : Nat → Nat
  | 0 => 1
  | 1 => 0
  | 2 => 3
  | 3 => 2
  | 4 => 5
  | _ => 4
def cFacts (op x y : Nat) : List sF := match op with
  | 0 => [(0, x, y, 0, 0), (0, y, x, 0, 0)]
  | 2 => [(0, x, y, 0, -1)]
  | 3 => [(0, y, x, 0, 0)]
  | 4 => [(0, y, x, 0, -1)]
  | 5 => [(0, x, y, 0, 0)]
  | _ => []
def tFl : tT := (0, tMin, tMax)
def tRng (lo hi : Int) : tT := if tMin ≤ lo ∧ hi ≤ tMax then (0, lo, hi) else tFl
def tCst (t : tT) : Bool := decide (t.2.1 = t.2.2)
def sLook : List (Nat × Nat) → Nat → Option Nat
  | [], _ => none
  | q :: r, i => if q.1 = i then some q.2 else sLook r i
def sDel1 (E : List tT) (L : List (Nat × Nat)) (i : Nat) : List (Nat × Nat) := L.filter (fun q => !(q.1 == i) && (!(q.1 + 1 == i) || tNarr (sGet E q.2)))
def sDel2 (E : List tT) (L : List (Nat × Nat)) (i : Nat) : List (Nat × Nat) := L.filter (fun q => !(q.1 == i) && (!(q.1 == i + 1) && (!(q.1 + 1 == i) || tNarr (sGet E q.2))))
section sDefs
variable (pc : Nat) (S : sS)
def sPush (pc' : Nat) (t : tT) (T : List Nat) (g : List sF) : sO := some [(pc', (S.1 ++ [t], S.2.1, S.1.length :: T, g ++ S.2.2.2.1, S.2.2.2.2))]
def sBin (t : tT → tT → tT) (g : Nat → Nat → List sF) : sO := match S.2.2.1 with
  | y :: x :: r => if (sGet S.1 x).1 = 0 ∧ (sGet S.1 y).1 = 0 then sPush S (pc + 1) (t (sGet S.1 x) (sGet S.1 y)) r (g x y) else none
  | _ => none
def sUn (k : Nat) (t : tT → tT) (g : Nat → List sF) : sO := match S.2.2.1 with
  | x :: r => if (sGet S.1 x).1 = k then sPush S (pc + 1) (t (sGet S.1 x)) r (g x) else none
  | _ => none
def sBinK (k : Nat) (t : tT) : sO := match S.2.2.1 with
  | y :: x :: r => if (sGet S.1 x).1 = k ∧ (sGet S.1 y).1 = k then sPush S (pc + 1) t r [] else none
  | _ => none
def sLd (ok : tT → Bool) (n i : Nat) : sO := match sLook S.2.1 i with
  | some s => if ok (sGet S.1 s) = true then some [(pc + n, (S.1, S.2.1, s :: S.2.2.1, S.2.2.2))] else none
  | none => none
def sSt1 (ok : tT → Bool) (nL n i : Nat) : sO := match S.2.2.1 with
  | x :: r => if ok (sGet S.1 x) = true ∧ i < nL then some [(pc + n, (S.1, (i, x) :: sDel1 S.1 S.2.1 i, r, S.2.2.2))] else none
  | _ => none
def sSt2 (k : Nat) (nL n i : Nat) : sO := match S.2.2.1 with
  | x :: r => if (sGet S.1 x).1 = k ∧ i + 1 < nL then some [(pc + n, (S.1, (i, x) :: sDel2 S.1 S.2.1 i, r, S.2.2.2))] else none
  | _ => none
def sInc (nL i : Nat) (n : Int) : sO := match sLook S.2.1 i with
  | some s => if (sGet S.1 s).1 = 0 ∧ i < nL then
      (if tMin ≤ (sGet S.1 s).2.1 + n ∧ (sGet S.1 s).2.2 + n ≤ tMax ∧ tMin ≤ n ∧ n ≤ tMax then
        some [(pc + 3, (S.1 ++ [(0, (sGet S.1 s).2.1 + n, (sGet S.1 s).2.2 + n)], (i, S.1.length) :: sDel1 S.1 S.2.1 i, S.2.2.1, [(0, S.1.length, s, 0, n), (0, s, S.1.length, 0, -n)] ++ S.2.2.2.1, S.2.2.2.2))]
      else some [(pc + 3, (S.1 ++ [tFl], (i, S.1.length) :: sDel1 S.1 S.2.1 i, S.2.2.1, S.2.2.2))]) else none
  | none => none
def sGo (off : Int) : sO := if 0 ≤ (pc : Int) + off then some [(((pc : Int) + off).toNat, S)] else none
/-- x ≤ y + c is known -/
def sK (x y : Nat) (c : Int) : Bool := ((x == y && decide (0 ≤ c)) || S.2.2.2.1.any (fun f => f.1 == 12 && (f.2.2.1 == y && ((f.2.1 == x && ((sGet S.1 f.2.2.2.1).1 == 0 && decide (-(sGet S.1 f.2.2.2.1).2.1 ≤ c))) || (f.2.2.2.1 == x && ((sGet S.1 f.2.1).1 == 0 && decide (-(sGet S.1 f.2.1).2.1 ≤ c))))))) || S.2.2.2.1.any (fun f => f.1 == 0 && (f.2.1 == x && ((f.2.2.1 == y && decide (f.2.2.2.2 ≤ c)) || S.2.2.2.1.any (fun g => g.1 == 0 && (g.2.1 == f.2.2.1 && ((g.2.2.1 == y && decide (f.2.2.2.2 + g.2.2.2.2 ≤ c)) || S.2.2.2.1.any (fun k => k.1 == 0 && (k.2.1 == g.2.2.1 && (k.2.2.1 == y && decide (f.2.2.2.2 + g.2.2.2.2 + k.2.2.2.2 ≤ c))))))))))
/-- it cannot be, by what is known -/
def sNo (op x y : Nat) : Bool := match op with
  | 0 => sK S x y (-1) || sK S y x (-1)
  | 1 => sK S x y 0 && sK S y x 0
  | 2 => sK S y x 0
  | 3 => sK S x y (-1)
  | 4 => sK S x y 0
  | _ => sK S y x (-1)
/-- x and y differ: what follows of what is known -/
def cNe (x y : Nat) : List sF := (if sK S x y 0 = true then [(0, x, y, 0, -1)] else []) ++ (if sK S y x 0 = true then [(0, y, x, 0, -1)] else [])
/-- a number's interval cut to another -/
def sCut (E : List tT) (y : Nat) (lo hi : Int) : List tT := if (sGet E y).1 = 0 then E.set y (0, iMx (sGet E y).2.1 lo, iMn (sGet E y).2.2 hi) else E
/-- the intervals of what stands to x in a known difference -/
def sPrD (E : List tT) (x : Nat) (G : List sF) : List sF → List tT
  | [] => E
  | f :: r => sPrD (if f.1 = 0 ∧ (sGet E x).1 = 0 then (if f.2.2.1 = x then sCut E f.2.1 tMin ((sGet E x).2.2 + f.2.2.2.2) else if f.2.1 = x then sCut E f.2.2.1 ((sGet E x).2.1 - f.2.2.2.2) tMax else E) else if f.1 = 14 ∧ f.2.2.1 = x then (match G.find? (fun g => g.1 == 15 && g.2.1 == f.2.1) with
    | some g => sCut E f.2.2.2.1 0 g.2.2.2.2
    | none => E) else E) x G r
/-- the intervals of all that stand in a known difference -/
def sPrA (E : List tT) : List sF → List tT
  | [] => E
  | f :: r => sPrA (if f.1 = 0 ∧ (sGet E f.2.1).1 = 0 ∧ (sGet E f.2.2.1).1 = 0 then sCut (sCut E f.2.1 tMin ((sGet E f.2.2.1).2.2 + f.2.2.2.2)) f.2.2.1 ((sGet E f.2.1).2.1 - f.2.2.2.2) tMax else E) r
/-- a bound of x - y, by what is known -/
def kHi (x y : Nat) (hi : Int) : Int := if sK S x y (-1) = true then iMn hi (-1) else if sK S x y 0 = true then iMn hi 0 else if sK S x y 1 = true then iMn hi 1 else hi
def tNar (x y : Nat) : tT := if tMin ≤ (sGet S.1 x).2.1 - (sGet S.1 y).2.2 ∧ (sGet S.1 x).2.2 - (sGet S.1 y).2.1 ≤ tMax then (0, -(kHi S y x (-((sGet S.1 x).2.1 - (sGet S.1 y).2.2))), kHi S x y ((sGet S.1 x).2.2 - (sGet S.1 y).2.1)) else tFl
def sBin2 (t : Nat → Nat → tT) (g : Nat → Nat → List sF) : sO := match S.2.2.1 with
  | y :: x :: r => if (sGet S.1 x).1 = 0 ∧ (sGet S.1 y).1 = 0 then sPush S (pc + 1) (t x y) r (g x y) else none
  | _ => none
def sRef (op x y : Nat) : Option sS :=
  if (cLearn op (sGet S.1 x).2.1 (sGet S.1 x).2.2 (sGet S.1 y).2.1 (sGet S.1 y).2.2).2 < (cLearn op (sGet S.1 x).2.1 (sGet S.1 x).2.2 (sGet S.1 y).2.1 (sGet S.1 y).2.2).1 ∨ (cLearn (cSwap op) (sGet S.1 y).2.1 (sGet S.1 y).2.2 (sGet S.1 x).2.1 (sGet S.1 x).2.2).2 < (cLearn (cSwap op) (sGet S.1 y).2.1 (sGet S.1 y).2.2 (sGet S.1 x).2.1 (sGet S.1 x).2.2).1 ∨ sNo S op x y = true then none
  else some (sPrD (sPrD ((S.1.set x (0, cLearn op (sGet S.1 x).2.1 (sGet S.1 x).2.2 (sGet S.1 y).2.1 (sGet S.1 y).2.2)).set y (0, cLearn (cSwap op) (sGet S.1 y).2.1 (sGet S.1 y).2.2 (sGet S.1 x).2.1 (sGet S.1 x).2.2)) x S.2.2.2.1 S.2.2.2.1) y S.2.2.2.1 S.2.2.2.1, S.2.1, S.2.2.1, (if op = 1 then cNe S x y else []) ++ ((if tCst (sGet S.1 x) = true ∨ tCst (sGet S.1 y) = true then [] else cFacts op x y) ++ S.2.2.2.1), S.2.2.2.2)
/-- the intervals of X and Y where X = t + Y -/
def sProp (E : List tT) (t : Nat) : List sF → List tT
  | [] => E
  | f :: r => if f.1 = 12 ∧ f.2.1 = t then
      (if (sGet E t).1 = 0 ∧ (sGet E f.2.2.1).1 = 0 ∧ (sGet E f.2.2.2.1).1 = 0 then
        sCut (sCut E f.2.2.2.1 ((sGet E f.2.2.1).2.1 - (sGet E t).2.2) ((sGet E f.2.2.1).2.2 - (sGet E t).2.1)) f.2.2.1 ((sGet E t).2.1 + (sGet E f.2.2.2.1).2.1) ((sGet E t).2.2 + (sGet E f.2.2.2.1).2.2)
       else E)
    else sProp E t r
def sRef0 (op x : Nat) : Option sS :=
  if (cLearn op (sGet S.1 x).2.1 (sGet S.1 x).2.2 0 0).2 < (cLearn op (sGet S.1 x).2.1 (sGet S.1 x).2.2 0 0).1 then none
  else some (sPrD (sProp (S.1.set x (0, cLearn op (sGet S.1 x).2.1 (sGet S.1 x).2.2 0 0)) x S.2.2.2.1) x S.2.2.2.1 S.2.2.2.1, S.2.1, S.2.2.1, (if op = 1 ∧ (sGet S.1 x).2.1 < 0 then [(13, x, 0, 0, 0)] else []) ++ S.2.2.2.1, S.2.2.2.2)
def sOne (pc' : Nat) : Option sS → List (Nat × sS)
  | some S' => [(pc', S')]
  | none => []
def sB2 (op : Nat) (off : Int) : sO := match S.2.2.1 with
  | y :: x :: r => if (sGet S.1 x).1 = 0 ∧ (sGet S.1 y).1 = 0 ∧ 0 ≤ (pc : Int) + off then some (sOne ((pc : Int) + off).toNat (sRef (S.1, S.2.1, r, S.2.2.2) op x y) ++ sOne (pc + 3) (sRef (S.1, S.2.1, r, S.2.2.2) (cNeg op) x y)) else none
  | _ => none
def sB1 (op : Nat) (off : Int) : sO := match S.2.2.1 with
  | x :: r => if (sGet S.1 x).1 = 0 ∧ 0 ≤ (pc : Int) + off then some (sOne ((pc : Int) + off).toNat (sRef0 (S.1, S.2.1, r, S.2.2.2) op x) ++ sOne (pc + 3) (sRef0 (S.1, S.2.1, r, S.2.2.2) (cNeg op) x)) else none
  | _ => none
/-- the targets of a table, from the number lo on: those that can be -/
def sArms (x : Nat) (r : List Nat) (n : Int) : List Int → List (Nat × sS)
  | [] => []
  | o :: os => if (sGet S.1 x).2.1 ≤ n ∧ n ≤ (sGet S.1 x).2.2 then (((pc : Int) + o).toNat, (S.1.set x (0, n, n), S.2.1, r, S.2.2.2)) :: sArms x r (n + 1) os else sArms x r (n + 1) os
def sSw (d lo hi : Int) (offs : Array Int) : sO := match S.2.2.1 with
  | x :: r => if (sGet S.1 x).1 = 0 ∧ 0 ≤ (pc : Int) + d ∧ offs.toList.all (fun o => decide (0 ≤ (pc : Int) + o)) = true ∧ hi - lo + 1 = offs.size then
      some ((if lo ≤ (sGet S.1 x).2.1 ∧ (sGet S.1 x).2.2 ≤ hi then [] else [(((pc : Int) + d).toNat, (S.1, S.2.1, r, S.2.2.2))]) ++ sArms pc S x r lo offs.toList) else none
  | _ => none
def sDup : sO := match S.2.2.1 with
  | x :: r => if tNarr (sGet S.1 x) = true then some [(pc + 1, (S.1, S.2.1, x :: x :: r, S.2.2.2))] else none
  | _ => none
def sPop : sO := match S.2.2.1 with
  | x :: r => if tNarr (sGet S.1 x) = true then some [(pc + 1, (S.1, S.2.1, r, S.2.2.2))] else none
  | _ => none
def sDupx : sO := match S.2.2.1 with
  | x :: y :: r => if tNarr (sGet S.1 x) = true ∧ tNarr (sGet S.1 y) = true then some [(pc + 1, (S.1, S.2.1, x :: y :: x :: r, S.2.2.2))] else none
  | _ => none
def sDup2 : sO := match S.2.2.1 with
  | x :: y :: r => if tNarr (sGet S.1 x) = true ∧ tNarr (sGet S.1 y) = true then some [(pc + 1, (S.1, S.2.1, x :: y :: x :: y :: r, S.2.2.2))] else none
  | _ => none
def sPop2 : sO := match S.2.2.1 with
  | x :: r => if tWide (sGet S.1 x) = true then some [(pc + 1, (S.1, S.2.1, r, S.2.2.2))] else none
  | _ => none
end sDefs
def tAdd (x y : tT) : tT := tRng (x.2.1 + y.2.1) (x.2.2 + y.2.2)
def tSubt (x y : tT) : tT := tRng (x.2.1 - y.2.2) (x.2.2 - y.2.1)
def tMul (x y : tT) : tT := if 0 ≤ x.2.1 ∧ 0 ≤ y.2.1 then tRng (x.2.1 * y.2.1) (x.2.2 * y.2.2) else if tCst y = true then (if 0 ≤ y.2.1 then tRng (x.2.1 * y.2.1) (x.2.2 * y.2.1) else tRng (x.2.2 * y.2.1) (x.2.1 * y.2.1)) else tFl
def tAnd (x y : tT) : tT := if 0 ≤ y.2.1 then (0, 0, y.2.2) else if 0 ≤ x.2.1 then (0, 0, x.2.2) else tFl
/-- of two truth values -/
def tOr (x y : tT) : tT := if 0 ≤ x.2.1 ∧ x.2.2 ≤ 1 ∧ 0 ≤ y.2.1 ∧ y.2.2 ≤ 1 then (0, iMx x.2.1 y.2.1, iMx x.2.2 y.2.2) else tFl
def tDiv (x y : tT) : tT := if 1 ≤ y.2.1 ∧ tCst y = true then tRng (x.2.1.tdiv y.2.1) (x.2.2.tdiv y.2.1) else if 0 ≤ x.2.1 ∧ 1 ≤ y.2.1 then (0, 0, x.2.2) else tFl
def tNeg (x : tT) : tT := tRng (-x.2.2) (-x.2.1)
def tShr (x y : tT) : tT := if 0 ≤ y.2.1 ∧ y.2.1 ≤ 31 ∧ tCst y = true then (0, x.2.1 / ((2 ^ y.2.1.toNat : Nat) : Int), x.2.2 / ((2 ^ y.2.1.toNat : Nat) : Int)) else if 0 ≤ x.2.1 then (0, 0, x.2.2) else tFl
def tByte (x : tT) : tT := if -128 ≤ x.2.1 ∧ x.2.2 ≤ 127 then (0, x.2.1, x.2.2) else (0, -128, 127)
def tChar (x : tT) : tT := if 0 ≤ x.2.1 ∧ x.2.2 ≤ 65535 then (0, x.2.1, x.2.2) else (0, 0, 65535)
section sFacts
variable (S : sS)
def gAdd (x y : Nat) : List sF := if tMin ≤ (sGet S.1 x).2.1 + (sGet S.1 y).2.1 ∧ (sGet S.1 x).2.2 + (sGet S.1 y).2.2 ≤ tMax then
    (if tCst (sGet S.1 y) = true then [(0, S.1.length, x, 0, (sGet S.1 y).2.1), (0, x, S.1.length, 0, -(sGet S.1 y).2.1)] else []) ++ (if tCst (sGet S.1 x) = true then [(0, S.1.length, y, 0, (sGet S.1 x).2.1), (0, y, S.1.length, 0, -(sGet S.1 x).2.1)] else []) ++ (if tCst (sGet S.1 x) = true ∨ tCst (sGet S.1 y) = true then [] else [(12, x, S.1.length, y, 0)]) else []
def gSubt (x y : Nat) : List sF := if tMin ≤ (sGet S.1 x).2.1 - (sGet S.1 y).2.2 ∧ (sGet S.1 x).2.2 - (sGet S.1 y).2.1 ≤ tMax then
    (if tCst (sGet S.1 y) = true then [(0, S.1.length, x, 0, -(sGet S.1 y).2.1), (0, x, S.1.length, 0, (sGet S.1 y).2.1)] else []) ++
    (if tCst (sGet S.1 x) = true then S.2.2.2.1.filterMap (fun f => if f.1 = 0 ∧ f.2.1 = y then some (1, S.1.length, f.2.2.1, 0, f.2.2.2.2 - (sGet S.1 x).2.1) else if f.1 = 1 ∧ f.2.1 = y then some (0, S.1.length, f.2.2.1, 0, f.2.2.2.2 + (sGet S.1 x).2.1) else none) else []) ++ (if tCst (sGet S.1 x) = true ∨ tCst (sGet S.1 y) = true then [] else [(12, S.1.length, x, y, 0)]) else []
/-- a shift by 0 -/
def sShf (pc : Nat) (t : tT → tT → tT) (g : Nat → Nat → List sF) : sO := match S.2.2.1 with
  | y :: x :: r => if sGet S.1 y = (0, 0, 0) ∧ (sGet S.1 x).1 = 0 then some [(pc + 1, (S.1, S.2.1, x :: r, S.2.2.2))] else sBin pc S t g
  | _ => none
/-- a number that stays as it is -/
def sId (pc : Nat) (lo hi : Int) (o : sO) : sO := match S.2.2.1 with
  | x :: r => if (sGet S.1 x).1 = 0 ∧ lo ≤ (sGet S.1 x).2.1 ∧ (sGet S.1 x).2.2 ≤ hi then some [(pc + 1, (S.1, S.2.1, x :: r, S.2.2.2))] else o
  | _ => o
/-- and with 255 of a number from 0 to 255 -/
def sAn (pc : Nat) (o : sO) : sO := match S.2.2.1 with
  | y :: x :: r => if sGet S.1 y = (0, 255, 255) ∧ (sGet S.1 x).1 = 0 ∧ 0 ≤ (sGet S.1 x).2.1 ∧ (sGet S.1 x).2.2 ≤ 255 then some [(pc + 1, (S.1, S.2.1, x :: r, S.2.2.2))] else o
  | _ => o
def gDiv (x y : Nat) : List sF := if 1 ≤ (sGet S.1 x).2.1 ∧ 2 ≤ (sGet S.1 y).2.1 then [(0, S.1.length, x, 0, -1)] else []
def gOp (n : Int) (x y : Nat) : List sF := [(5, S.1.length, x, y, n)]
def gSame (lo hi : Int) (x : Nat) : List sF := if lo ≤ (sGet S.1 x).2.1 ∧ (sGet S.1 x).2.2 ≤ hi then [(0, S.1.length, x, 0, 0), (0, x, S.1.length, 0, 0)] else []
/-- x is known not to hold the bit p, where y is 1 << p: how many bits x or y has then -/
def sBit (x y : Nat) : Option Int :=
  S.2.2.2.1.findSome? (fun f => if f.1 = 5 ∧ f.2.1 = y ∧ f.2.2.2.2 = 0 ∧ sGet S.1 f.2.2.1 = (0, 1, 1) ∧ 0 ≤ (sGet S.1 f.2.2.2.1).2.1 ∧ (sGet S.1 f.2.2.2.1).2.2 ≤ 23 ∧ (sGet S.1 f.2.2.2.1).1 = 0 then
    (if S.2.2.2.1.any (fun z => z.1 == 5 && decide (z.2.2.2.2 = 2) && decide (sGet S.1 z.2.1 = (0, 0, 0)) && decide (sGet S.1 z.2.2.2.1 = (0, 1, 1)) && S.2.2.2.1.any (fun w => w.1 == 5 && w.2.1 == z.2.2.1 && decide (w.2.2.2.2 = 1) && w.2.2.1 == x && w.2.2.2.1 == f.2.2.2.1)) = true then
      S.2.2.2.1.findSome? (fun q => if q.1 = 6 ∧ q.2.1 = x then some (q.2.2.2.2 + 1) else none) else none) else none)
def sOr (pc : Nat) : sO := match S.2.2.1 with
  | y :: x :: r => if (sGet S.1 x).1 = 0 ∧ (sGet S.1 y).1 = 0 then
      (match sBit S x y with
       | some k => if 24 < k then some [] else sPush S (pc + 1) tFl r [(6, S.1.length, 0, 0, k)]
       | none => sPush S (pc + 1) (tOr (sGet S.1 x) (sGet S.1 y)) r []) else none
  | _ => none
/-- the sum of two numbers that is known already -/
def sAd (pc : Nat) (o : sO) : sO := match S.2.2.1 with
  | y :: x :: r => match S.2.2.2.1.find? (fun f => f.1 == 12 && (f.2.1 == x && f.2.2.2.1 == y)) with
    | some f => some [(pc + 1, (S.1, S.2.1, f.2.2.1 :: r, S.2.2.2))]
    | none => if (sGet S.1 y).1 = 0 ∧ tCst (sGet S.1 y) = true then (match S.2.2.2.1.find? (fun f => f.1 == 0 && (f.2.2.1 == x && (decide (f.2.2.2.2 = (sGet S.1 y).2.1) && S.2.2.2.1.any (fun g => g.1 == 0 && (g.2.1 == x && (g.2.2.1 == f.2.1 && decide (g.2.2.2.2 = -(sGet S.1 y).2.1))))))) with
      | some f => some [(pc + 1, (S.1, S.2.1, f.2.1 :: r, S.2.2.2))]
      | none => o) else o
  | _ => o
/-- nothing and a number -/
def sA0 (pc : Nat) (o : sO) : sO := match S.2.2.1 with
  | y :: x :: r => if sGet S.1 x = (0, 0, 0) ∧ (sGet S.1 y).1 = 0 then some [(pc + 1, (S.1, S.2.1, y :: r, S.2.2.2))] else o
  | _ => o
/-- a number less a constant that is known already -/
def sSb (pc : Nat) (o : sO) : sO := match S.2.2.1 with
  | y :: x :: r => if (sGet S.1 y).1 = 0 ∧ tCst (sGet S.1 y) = true then (match S.2.2.2.1.find? (fun f => f.1 == 0 && (f.2.2.1 == x && (decide (f.2.2.2.2 = -(sGet S.1 y).2.1) && S.2.2.2.1.any (fun g => g.1 == 0 && (g.2.1 == x && (g.2.2.1 == f.2.1 && decide (g.2.2.2.2 = (sGet S.1 y).2.1))))))) with
      | some f => some [(pc + 1, (S.1, S.2.1, f.2.1 :: r, S.2.2.2))]
      | none => o) else o
  | _ => o
/-- what the operation n gives of two numbers, where it is known already -/
def sHc (pc : Nat) (n : Int) (o : sO) : sO := match S.2.2.1 with
  | y :: x :: r => match S.2.2.2.1.find? (fun f => f.1 == 5 && (f.2.2.1 == x && (f.2.2.2.1 == y && decide (f.2.2.2.2 = n)))) with
    | some f => some [(pc + 1, (S.1, S.2.1, f.2.1 :: r, S.2.2.2))]
    | none => o
  | _ => o
/-- two numbers that are the same -/
def sEq (x y : Nat) : Bool := (sK S x y 0 && sK S y x 0) || ((sGet S.1 x).1 == 0 && ((sGet S.1 y).1 == 0 && (tCst (sGet S.1 x) && (tCst (sGet S.1 y) && decide ((sGet S.1 x).2.1 = (sGet S.1 y).2.1)))))
/-- two longs of ints -/
def sLc (pc : Nat) : sO := match S.2.2.1 with
  | y :: x :: r => if (sGet S.1 x).1 = 1 ∧ (sGet S.1 y).1 = 1 then sPush S (pc + 1) (match S.2.2.2.1.find? (fun f => f.1 == 17 && f.2.1 == x), S.2.2.2.1.find? (fun f => f.1 == 17 && f.2.1 == y) with
      | some f, some g => if sEq S f.2.2.1 g.2.2.1 = true then (0, 0, 0) else tFl
      | _, _ => tFl) r [] else none
  | _ => none
end sFacts
/-- an instruction that neither reads nor writes the heap: where it may go, and what is known there -/
def sP (nL : Nat) (i : Instr) (pc : Nat) (S : sS) : sO := match i with
  | .iconst n => if tMin ≤ n ∧ n ≤ tMax then sPush S (pc + 1) (0, n, n) S.2.2.1 [] else none
  | .bipush n => if -128 ≤ n ∧ n ≤ 127 then sPush S (pc + 2) (0, n, n) S.2.2.1 [] else none
  | .sipush n => if -32768 ≤ n ∧ n ≤ 32767 then sPush S (pc + 3) (0, n, n) S.2.2.1 [] else none
  | .lconst _ => sPush S (pc + 1) (1, 0, 0) S.2.2.1 []
  | .dconst n => if n = 1 then sPush S (pc + 1) (2, 0, 0) S.2.2.1 [(9, S.1.length, 0, 0, 0)] else none
  | .aconst_null => sPush S (pc + 1) (5, 0, 0) S.2.2.1 []
  | .iload_n k => sLd pc S (fun t => t.1 == 0) 1 (k : Nat)
  | .iload k => sLd pc S (fun t => t.1 == 0) 2 k
  | .lload_n k => sLd pc S (fun t => t.1 == 1) 1 (k : Nat)
  | .lload k => sLd pc S (fun t => t.1 == 1) 2 k
  | .dload_n k => sLd pc S (fun t => t.1 == 2) 1 (k : Nat)
  | .dload k => sLd pc S (fun t => t.1 == 2) 2 k
  | .aload_n k => sLd pc S tIsR 1 (k : Nat)
  | .aload k => sLd pc S tIsR 2 k
  | .istore_n k => sSt1 pc S (fun t => t.1 == 0) nL 1 (k : Nat)
  | .istore k => sSt1 pc S (fun t => t.1 == 0) nL 2 k
  | .lstore_n k => sSt2 pc S 1 nL 1 (k : Nat)
  | .lstore k => sSt2 pc S 1 nL 2 k
  | .dstore_n k => sSt2 pc S 2 nL 1 (k : Nat)
  | .dstore k => sSt2 pc S 2 nL 2 k
  | .astore_n k => sSt1 pc S tIsR nL 1 (k : Nat)
  | .astore k => sSt1 pc S tIsR nL 2 k
  | .iinc k n => sInc pc S nL k n
  | .iadd => sA0 S pc (sAd S pc (sBin pc S tAdd (gAdd S)))
  | .isub => sSb S pc (sBin2 pc S (tNar S) (gSubt S))
  | .imul => sBin pc S tMul (fun _ _ => [])
  | .iand => sAn S pc (sHc S pc 2 (sBin pc S tAnd (gOp S 2)))
  | .ior => sOr S pc
  | .ixor => sBin pc S (fun _ _ => tFl) (fun _ _ => [])
  | .ishl => sShf S pc (fun _ _ => tFl) (gOp S 0)
  | .ishr => sShf S pc tShr (gOp S 1)
  | .iushr => sBin pc S (fun _ _ => tFl) (fun _ _ => [])
  | .idiv => match S.2.2.1 with
    | y :: _ => if 0 < (sGet S.1 y).2.1 ∨ (sGet S.1 y).2.2 < 0 then sBin pc S tDiv (gDiv S) else none
    | _ => none
  | .irem => match S.2.2.1 with
    | y :: _ => if 0 < (sGet S.1 y).2.1 ∨ (sGet S.1 y).2.2 < 0 then sBin pc S (fun _ _ => tFl) (fun _ _ => []) else none
    | _ => none
  | .ineg => sUn pc S 0 tNeg (fun _ => [])
  | .i2l => sUn pc S 0 (fun _ => (1, 0, 0)) (fun x => [(17, S.1.length, x, 0, 0)])
  | .i2b => sUn pc S 0 tByte (gSame S (-128) 127)
  | .i2c => sId S pc 0 65535 (sUn pc S 0 tChar (gSame S 0 65535))
  | .i2d => sUn pc S 0 (fun _ => (2, 0, 0)) (fun x => [(10, S.1.length, x, 0, 0)])
  | .ladd => sBinK pc S 1 (1, 0, 0)
  | .lmul => sBinK pc S 1 (1, 0, 0)
  | .lcmp => sLc S pc
  | .d2l => sUn pc S 2 (fun _ => (1, 0, 0)) (fun _ => [])
  | .dcmp _ => sBinK pc S 2 tFl
  | .ifCond .eq off => sB1 pc S 0 off
  | .ifCond .ne off => sB1 pc S 1 off
  | .ifCond .lt off => sB1 pc S 2 off
  | .ifCond .ge off => sB1 pc S 3 off
  | .ifCond .gt off => sB1 pc S 4 off
  | .ifCond .le off => sB1 pc S 5 off
  | .if_icmp .eq off => sB2 pc S 0 off
  | .if_icmp .ne off => sB2 pc S 1 off
  | .if_icmp .lt off => sB2 pc S 2 off
  | .if_icmp .ge off => sB2 pc S 3 off
  | .if_icmp .gt off => sB2 pc S 4 off
  | .if_icmp .le off => sB2 pc S 5 off
  | .goto off => sGo pc S off
  | .tableswitch d lo hi offs => sSw pc S d lo hi offs
  | .dup => sDup pc S
  | .pop => sPop pc S
  | .dup_x1 => sDupx pc S
  | .dup2 => sDup2 pc S
  | .pop2 => sPop2 pc S
  | _ => none
