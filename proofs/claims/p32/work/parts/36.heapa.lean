/-! ===== the abstract machine: what reads or writes the heap ===== -/
def dBase (E : List tT) (x y : Nat) (c : Int) : Bool := (x == y && decide (0 ≤ c)) || ((sGet E x).1 == 0 && ((sGet E y).1 == 0 && decide ((sGet E x).2.2 ≤ (sGet E y).2.1 + c)))
/-- x ≤ y + c, by at most n facts -/
def dOk (E : List tT) (Fs : List sF) : Nat → Nat → Nat → Int → Bool
  | 0, x, y, c => dBase E x y c
  | n + 1, x, y, c => dBase E x y c || Fs.any (fun f => (f.1 == 0 && (f.2.1 == x && dOk E Fs n f.2.2.1 y (c - f.2.2.2.2))) || (f.1 == 12 && (
      (f.2.2.1 == x && (((sGet E f.2.1).1 == 0 && dOk E Fs n f.2.2.2.1 y (c - (sGet E f.2.1).2.2)) || ((sGet E f.2.2.2.1).1 == 0 && dOk E Fs n f.2.1 y (c - (sGet E f.2.2.2.1).2.2)) ||
        Fs.any (fun g => g.1 == 12 && (g.2.2.1 == y && ((f.2.2.2.1 == g.2.2.2.1 && dOk E Fs n f.2.1 g.2.1 c) || ((f.2.1 == g.2.2.2.1 && dOk E Fs n f.2.2.2.1 g.2.1 c) || ((f.2.2.2.1 == g.2.1 && dOk E Fs n f.2.1 g.2.2.2.1 c) || (f.2.1 == g.2.1 && dOk E Fs n f.2.2.2.1 g.2.2.2.1 c)))))))) ||
      ((f.2.2.2.1 == x && ((sGet E f.2.1).1 == 0 && dOk E Fs n f.2.2.1 y (c + (sGet E f.2.1).2.1))) || (f.2.1 == x && ((sGet E f.2.2.2.1).1 == 0 && dOk E Fs n f.2.2.1 y (c + (sGet E f.2.2.2.1).2.1)))))))
/-- -x ≤ y + c -/
def d1Ok (E : List tT) (Fs : List sF) (x y : Nat) (c : Int) : Bool := ((sGet E x).1 == 0 && ((sGet E y).1 == 0 && decide (-(sGet E x).2.1 ≤ (sGet E y).2.1 + c))) || Fs.any (fun f => f.1 == 1 && (f.2.1 == x && dOk E Fs 2 f.2.2.1 y (c - f.2.2.2.2)))
/-- the field k of the object o, where it is known -/
def sFld (Fs : List sF) (o k : Nat) : Option Nat := Fs.findSome? (fun f => if f.1 = 2 ∧ f.2.1 = o ∧ f.2.2.1 = k then some f.2.2.2.1 else none)
def sLen (Fs : List sF) (o : Nat) : Option Nat := Fs.findSome? (fun f => if f.1 = 3 ∧ f.2.1 = o then some f.2.2.1 else none)
def sNew (Fs : List sF) (o : Nat) : Bool := Fs.any (fun f => f.1 == 7 && f.2.1 == o)
def tLn (R : tR) (k : Nat) : Bool := match R.2.1 with
  | some n => decide (k < n)
  | none => false
def tLt (R : tR) (x : Int) : Bool := match R.2.1 with
  | some n => decide (x < n)
  | none => false
/-- j is how many there are below k in a row, and l below c: then j is less than l where one of those is at k -/
def sCn (S : sS) (j l : Nat) : Bool := S.2.2.2.1.any (fun f => f.1 == 14 && (f.2.2.2.1 == j && ((sGet S.1 f.2.2.1).1 == 0 && (S.2.2.2.1.any (fun g => g.1 == 16 && (g.2.1 == f.2.1 && (g.2.2.1 == l && decide ((sGet S.1 f.2.2.1).2.2 < g.2.2.2.2)))) && S.2.2.2.1.any (fun e => e.1 == 4 && (e.2.1 == f.2.1 && (e.2.2.1 == f.2.2.1 && ((sGet S.1 e.2.2.2.1).1 == 0 && decide (1 ≤ (sGet S.1 e.2.2.2.1).2.1)))))))))
def sIn (S : sS) (j : Nat) : Option Nat → Bool
  | some s => dOk S.1 S.2.2.2.1 3 j s (-1) || sCn S j s
  | none => false
section sHeap
variable (W : tWd) (Wr : List (Nat × Nat))
/-- the symbols that are the number of articles -/
def sNs (S : sS) : List Nat := S.2.2.2.1.filterMap (fun f => if f.1 = 2 ∧ f.2.2.1 = wSz W ∧ (sGet S.1 f.2.1).1 = 3 ∧ (sGet S.1 f.2.1).2.1.toNat = wA W then some f.2.2.2.1 else none)
def gGh (S : sS) (g : Nat × Int) (s : Nat) : List sF := if g.1 = 1 then (sNs W S).map (fun t => (0, s, t, 0, g.2)) else if g.1 = 2 then (sNs W S).map (fun t => (1, s, t, 0, g.2)) else []
/-- the symbol v may be written where f is wanted -/
def sMay (S : sS) (f : fT) (v : Nat) : Bool := tSub (sGet S.1 v) f.1 && (tSub (sGet S.1 v) f.2.1 && (if f.2.2.1 = 1 then (sGet S.1 v).1 == 0 && (sNs W S).any (fun t => dOk S.1 S.2.2.2.1 3 v t f.2.2.2) else if f.2.2.1 = 2 then (sGet S.1 v).1 == 0 && (sNs W S).any (fun t => d1Ok S.1 S.2.2.2.1 v t f.2.2.2) else true))
/-- no symbol of these is a cell of the role r -/
def sNot (E : List tT) (o r : Nat) : Bool := (sGet E o).1 == 3 && !((sGet E o).2.1.toNat == r)
/-- what stays known when a field k of a cell of the role r is written -/
def fKeepF (E : List tT) (r k : Nat) (f : sF) : Bool := if f.1 = 2 then !(f.2.2.1 == k) || sNot E f.2.1 r else if f.1 = 4 then sNot E f.2.1 r else if f.1 = 8 ∨ f.1 = 18 then sNot E f.2.1 r && sNot E f.2.2.1 r else if f.1 = 14 ∨ f.1 = 15 ∨ f.1 = 16 then sNot E f.2.1 r else true
def fKeepA (E : List tT) (r : Nat) (f : sF) : Bool := if f.1 = 2 then sNot E f.2.1 r else if f.1 = 4 then sNot E f.2.1 r else if f.1 = 8 ∨ f.1 = 18 then sNot E f.2.1 r && sNot E f.2.2.1 r else if f.1 = 14 ∨ f.1 = 15 ∨ f.1 = 16 then sNot E f.2.1 r else true
/-- something is known of rows that are the same, or of cells that are not -/
def sRl (S : sS) : Bool := S.2.2.2.1.any (fun f => f.1 == 18 || f.1 == 19)
/-- two cells that are not the same, as is known -/
def sDf (S : sS) (a o : Nat) : Bool := ((sGet S.1 a).1 == 3 && ((sGet S.1 o).1 == 3 && !((sGet S.1 a).2.1.toNat == (sGet S.1 o).2.1.toNat))) || S.2.2.2.1.any (fun f => f.1 == 19 && ((f.2.1 == a && f.2.2.1 == o) || (f.2.1 == o && f.2.2.1 == a)))
def mSt (m : Int) (n : Nat) : Int := ((m.toNat ||| 2 ^ n : Nat) : Int)
def mCl (m : Int) (n : Nat) : Int := ((m.toNat ^^^ (m.toNat &&& 2 ^ n) : Nat) : Int)
/-- the rows o and b are the same but at m: behind a write of v at the place n of o -/
def gXm (S : sS) (b n v : Nat) (m : Int) : Int := if sFld S.2.2.2.1 b n = some v then mCl m n else mSt m n
def gXi (S : sS) (o b n : Nat) (m : Int) : List sF := if Nat.testBit m.toNat n = false then (match sFld S.2.2.2.1 o n with
  | some s => [(2, b, n, s, 0)]
  | none => []) else []
/-- what is known besides behind a write of v at the place n of o -/
def gX (kp : sF → Bool) (S : sS) (o n v : Nat) : List sF := if sRl S = true then S.2.2.2.1.flatMap (fun f =>
  if kp f = true then [] else if f.1 = 2 then (if !(f.2.2.1 == n) || sDf S f.2.1 o then [f] else [])
  else if f.1 = 18 then (if sDf S f.2.1 o && sDf S f.2.2.1 o then [f]
    else if f.2.1 == o && sDf S f.2.2.1 o then (18, o, f.2.2.1, 0, gXm S f.2.2.1 n v f.2.2.2.2) :: gXi S o f.2.2.1 n f.2.2.2.2
    else if f.2.2.1 == o && sDf S f.2.1 o then (18, f.2.1, o, 0, gXm S f.2.1 n v f.2.2.2.2) :: gXi S o f.2.1 n f.2.2.2.2
    else []) else []) else []
def sW1 (S : sS) (o r k : Nat) : Bool := !(wLk W r) && (decide (wW W ≤ r) && (sNew S.2.2.2.1 o || wIn Wr r k))
/-- a reference may be stored in a row of the role r: no list's row, or it is of the elements' role -/
def sWE (S : sS) (o r v : Nat) : Bool := (!(iO r) && !(r == iRw)) && !(wTop W r) && ((wLs W).all (fun l => !(l.2.1 == r) || ((sGet S.1 v).1 == 3 && (sGet S.1 v).2.1.toNat == l.2.2)) && (decide (wW W ≤ r) && (sNew S.2.2.2.1 o || wIn Wr r 999)))
/-- a list's number or row may be written so -/
def sLw (S : sS) (o r k v : Nat) : Bool := (wLs W).all (fun l => !(l.2.1 == r)) && (decide (wW W ≤ r) && ((sNew S.2.2.2.1 o || wIn Wr r k) && (
  (!(k == wEd W) && !(k == wSz W)) ||
  (k == wSz W && !(wEd W == wSz W) && ((sGet S.1 v).1 == 0) && (wLs W).all (fun l => !(l.1 == r) || (match sFld S.2.2.2.1 o (wSz W), sFld S.2.2.2.1 o (wEd W) with
    | some s, some q => ((sGet S.1 q).1 == 3 && (sGet S.1 q).2.1.toNat == l.2.1) && dOk S.1 S.2.2.2.1 3 v s 1 && (dOk S.1 S.2.2.2.1 3 s v (-1) && S.2.2.2.1.any (fun f => f.1 == 4 && (f.2.1 == q && (f.2.2.1 == s && ((sGet S.1 f.2.2.2.1).1 == 3 && (sGet S.1 f.2.2.2.1).2.1.toNat == l.2.2)))))
    | _, _ => false))) ||
  (k == wEd W && !(wEd W == wSz W) && (wLs W).all (fun l => !(l.1 == r) || ((sGet S.1 v).1 == 3 && ((sGet S.1 v).2.1.toNat == l.2.1 && (match sFld S.2.2.2.1 o (wSz W), sFld S.2.2.2.1 o (wEd W) with
    | some s, some q => ((sGet S.1 s).1 == 0 && decide ((sGet S.1 s).2.2 ≤ 0)) || S.2.2.2.1.any (fun f => f.1 == 8 && (f.2.1 == v && (f.2.2.1 == q && dOk S.1 S.2.2.2.1 3 s f.2.2.2.1 0)))
    | _, _ => false)))))))) 
/-- the row of the list o: a row of its own, or the start's -/
def sRow (pc : Nat) (S : sS) (o : Nat) (r : List Nat) : sO := match (wLs W).find? (fun l => l.1 == (sGet S.1 o).2.1.toNat), sFld S.2.2.2.1 o (wSz W) with
  | some l, some s => if (wLs W).all (fun l2 => !(l2.1 == l.1) || l2.2.1 == l.2.1) = true then
      some ((pc + 3, (S.1 ++ [(3, (l.2.1 : Int), 0)], S.2.1, S.1.length :: r, (2, o, wEd W, S.1.length, 0) :: S.2.2.2.1, S.2.2.2.2)) ::
        (if 1 ≤ (sGet S.1 s).2.1 ∧ (sGet S.1 s).1 = 0 then [] else [(pc + 3, (S.1.set s (0, 0, 0) ++ [(3, (wE : Int), 0)], S.2.1, S.1.length :: r, (2, o, wEd W, S.1.length, 0) :: S.2.2.2.1, S.2.2.2.2))])) else none
  | _, _ => none
/-- the number of the list o gets a symbol, where it has none -/
def sSiz (S : sS) (o : Nat) : sS := match sFld S.2.2.2.1 o (wSz W), wR W (sGet S.1 o).2.1.toNat with
  | none, some R => if tLn R (wSz W) = true then (S.1 ++ [(tFd R (wSz W)).1], S.2.1, S.2.2.1, (2, o, wSz W, S.1.length, 0) :: (gGh W S (tFd R (wSz W)).2.2 S.1.length ++ S.2.2.2.1), S.2.2.2.2) else S
  | _, _ => S
def sGetF (a k pc : Nat) (S : sS) : sO := match S.2.2.1 with
  | o :: r => if (sGet S.1 o).1 = 3 ∧ a < 90 then match wR W (sGet S.1 o).2.1.toNat with
      | some R => if R.1 = a ∧ tLn R k = true then match sFld S.2.2.2.1 o k with
          | some s => some [(pc + 3, (S.1, S.2.1, s :: r, S.2.2.2))]
          | none => if wTop W (sGet S.1 o).2.1.toNat = true ∧ k = wEd W then sRow W pc (sSiz W S o) o r else if (tFd R k).1.1 = 6 then some [(pc + 3, (S.1 ++ [(3, (tFd R k).1.2.1, 0)], S.2.1, S.1.length :: r, (2, o, k, S.1.length, 0) :: S.2.2.2.1, S.2.2.2.2)), (pc + 3, (S.1 ++ [(3, (tFd R k).1.2.2, 0)], S.2.1, S.1.length :: r, (2, o, k, S.1.length, 0) :: S.2.2.2.1, S.2.2.2.2))] else sPush S (pc + 3) (tFd R k).1 r ((2, o, k, S.1.length, 0) :: gGh W S (tFd R k).2.2 S.1.length)
        else none
      | none => none
    else none
  | _ => none
/-- the field k of an object of the role r may be written so: an article's limits and signs -/
def sIp (S : sS) (o r k v : Nat) : Bool := !(r == iRw) && (!(iO r) || ((!(k == iLm) && !(k == iSg)) ||
  ((k == iSg && (match sFld S.2.2.2.1 o iLm with
    | some s => (sGet S.1 s).1 == 0 && decide ((sGet S.1 s).2.2 ≤ 0)
    | none => false)) ||
  (k == iLm && ((sGet S.1 v).1 == 0 && (decide ((sGet S.1 v).2.2 ≤ 0) || (match sFld S.2.2.2.1 o iLm, sFld S.2.2.2.1 o iSg with
    | some s, some g => (sGet S.1 s).1 == 0 && (dOk S.1 S.2.2.2.1 3 v s 1 && ((sGet S.1 g).1 == 3 && ((sGet S.1 g).2.1.toNat == iRw && S.2.2.2.1.any (fun f => f.1 == 4 && (f.2.1 == g && (f.2.2.1 == s && ((sGet S.1 f.2.2.2.1).1 == 0 && decide (1 ≤ (sGet S.1 f.2.2.2.1).2.1))))))))
    | _, _ => false)))))))
/-- an article's sign below its limits is not 0 -/
def sElS (S : sS) (o j rO : Nat) (t : tT) : tT := if rO = iRw ∧ t.1 = 0 ∧ (S.2.2.2.1.any (fun f => f.1 == 2 && (f.2.2.1 == iSg && (f.2.2.2.1 == o && ((sGet S.1 f.2.1).1 == 3 && (iO (sGet S.1 f.2.1).2.1.toNat && (match sFld S.2.2.2.1 f.2.1 iLm with
    | some s => (sGet S.1 s).1 == 0 && dOk S.1 S.2.2.2.1 3 j s (-1)
    | none => false))))))) = true then (0, iMx t.2.1 1, t.2.2) else t
def sPutF (a k pc : Nat) (S : sS) : sO := match S.2.2.1 with
  | v :: o :: r => if (sGet S.1 o).1 = 3 ∧ a < 90 then match wR W (sGet S.1 o).2.1.toNat with
      | some R => if R.1 = a ∧ tLn R k = true ∧ (sW1 W Wr S o (sGet S.1 o).2.1.toNat k || sLw W Wr S o (sGet S.1 o).2.1.toNat k v) = true ∧ tFit (zFT a k) (sGet S.1 v) = true ∧ sMay W S (tFd R k) v = true ∧ sIp S o (sGet S.1 o).2.1.toNat k v = true then
          some [(pc + 3, (S.1, S.2.1, r, (2, o, k, v, 0) :: (gX (fKeepF S.1 (sGet S.1 o).2.1.toNat k) S o k v ++ S.2.2.2.1.filter (fKeepF S.1 (sGet S.1 o).2.1.toNat k)), S.2.2.2.2))] else none
      | none => none
    else none
  | _ => none
/-- a list's number is at most the length of its row -/
def gRow (S : sS) (o rO : Nat) : List sF := (wLs W).flatMap (fun l => if l.2.1 = rO then S.2.2.2.1.filterMap (fun f => if f.1 = 2 ∧ f.2.2.1 = wEd W ∧ f.2.2.2.1 = o ∧ (sGet S.1 f.2.1).1 = 3 ∧ (sGet S.1 f.2.1).2.1.toNat = l.1 then (match sFld S.2.2.2.1 f.2.1 (wSz W) with
    | some s => some (0, s, S.1.length, 0, 0)
    | none => none) else none) else [])
/-- the least that the row is long, by its list's number -/
def gRowLo (S : sS) (o rO : Nat) : Int := (gRow W S o rO).foldl (fun m f => if f.1 = 0 ∧ f.2.2.1 = S.1.length ∧ f.2.2.2.2 = 0 ∧ (sGet S.1 f.2.1).1 = 0 then iMx m (sGet S.1 f.2.1).2.1 else m) 0
def sLenA (pc : Nat) (S : sS) : sO := match S.2.2.1 with
  | o :: r => if (sGet S.1 o).1 = 3 then match wR W (sGet S.1 o).2.1.toNat with
      | some R => if 100 ≤ R.1 ∨ (93 ≤ R.1 ∧ R.1 < 97) then match sLen S.2.2.2.1 o with
          | some s => some [(pc + 1, (S.1, S.2.1, s :: r, S.2.2.2))]
          | none => match R.2.1 with
            | some n => sPush S (pc + 1) (0, n, n) r [(3, o, S.1.length, 0, 0)]
            | none => sPush S (pc + 1) (0, gRowLo W S o (sGet S.1 o).2.1.toNat, tMx R) r ((3, o, S.1.length, 0, 0) :: gRow W S o (sGet S.1 o).2.1.toNat)
        else none
      | none => none
    else none
  | _ => none
/-- the index j is in the row o -/
def sIx (S : sS) (R : tR) (o j : Nat) : Bool := (sGet S.1 j).1 == 0 && (decide (0 ≤ (sGet S.1 j).2.1) && (tLt R (sGet S.1 j).2.2 || sIn S j (sLen S.2.2.2.1 o)))
/-- the role of the element j of the row o, where it is below a list's number -/
def sElT (S : sS) (o j rO : Nat) : Option Nat := (wLs W).findSome? (fun l => if l.2.1 = rO then S.2.2.2.1.findSome? (fun f => if f.1 = 2 ∧ f.2.2.1 = wEd W ∧ f.2.2.2.1 = o ∧ (sGet S.1 f.2.1).1 = 3 ∧ (sGet S.1 f.2.1).2.1.toNat = l.1 then (match sFld S.2.2.2.1 f.2.1 (wSz W) with
    | some s => if dOk S.1 S.2.2.2.1 3 j s (-1) = true then some l.2.2 else none
    | none => none) else none) else none)
/-- the index is in the row -/
def sIy (S : sS) (R : tR) (o j rO : Nat) : Bool := sIx S R o j || ((sGet S.1 j).1 == 0 && (decide (0 ≤ (sGet S.1 j).2.1) && (sElT W S o j rO).isSome))
def sElU (S : sS) (o j rO : Nat) (t : tT) : tT := match sElT W S o j rO with
  | some e => (3, (e : Int), 0)
  | none => t
/-- the element j of the row o, where it is a number and known -/
def sElI (S : sS) (o j : Nat) : Option Nat := S.2.2.2.1.findSome? (fun f => if f.1 = 4 ∧ f.2.1 = o ∧ f.2.2.1 = j ∧ (sGet S.1 f.2.2.2.1).1 = 0 then some f.2.2.2.1 else none)
/-- the element at a constant place of the row o, where it is known -/
def sElC (S : sS) (o j : Nat) : Option Nat := if sRl S = true ∧ (sGet S.1 j).1 = 0 ∧ 0 ≤ (sGet S.1 j).2.1 ∧ tCst (sGet S.1 j) = true then (match sFld S.2.2.2.1 o (sGet S.1 j).2.1.toNat with
  | some s => some s
  | none => S.2.2.2.1.findSome? (fun f => if f.1 = 18 ∧ Nat.testBit f.2.2.2.2.toNat (sGet S.1 j).2.1.toNat = false then (if f.2.1 = o then sFld S.2.2.2.1 f.2.2.1 (sGet S.1 j).2.1.toNat else if f.2.2.1 = o then sFld S.2.2.2.1 f.2.1 (sGet S.1 j).2.1.toNat else none) else none)) else none
def gLc (S : sS) (o j s : Nat) : List sF := if sRl S = true ∧ (sGet S.1 j).1 = 0 ∧ 0 ≤ (sGet S.1 j).2.1 ∧ tCst (sGet S.1 j) = true then [(2, o, (sGet S.1 j).2.1.toNat, s, 0)] else []
def gSc (kp : sF → Bool) (S : sS) (o j v : Nat) : List sF := if sRl S = true ∧ (sGet S.1 j).1 = 0 ∧ 0 ≤ (sGet S.1 j).2.1 ∧ tCst (sGet S.1 j) = true then (2, o, (sGet S.1 j).2.1.toNat, v, 0) :: gX kp S o (sGet S.1 j).2.1.toNat v else []
/-- the state for each value of j -/
def sSpA (S : sS) (j : Nat) (g : sS → sO) : Nat → Int → sO
  | 0, _ => some []
  | k + 1, v => match g (S.1.set j (0, v, v), S.2), sSpA S j g k (v + 1) with
    | some a, some b => some (a ++ b)
    | _, _ => none
def sSpC (S : sS) (o j : Nat) : Bool := sRl S && ((sGet S.1 j).1 == 0 && (!(tCst (sGet S.1 j)) && (decide ((sGet S.1 j).2.2 - (sGet S.1 j).2.1 ≤ 40) && (S.2.2.2.1.any (fun f => f.1 == 18 && (f.2.1 == o || f.2.2.1 == o)) || (decide (0 ≤ (sGet S.1 j).2.1) && (List.range ((sGet S.1 j).2.2 - (sGet S.1 j).2.1 + 1).toNat).all (fun i => (sFld S.2.2.2.1 o ((sGet S.1 j).2.1.toNat + i)).isSome))))))
def sSp (S : sS) (o j : Nat) (g : sS → sO) : sO := if sSpC S o j = true then sSpA S j g ((sGet S.1 j).2.2 - (sGet S.1 j).2.1 + 1).toNat (sGet S.1 j).2.1 else g S
def sSpL (g : sS → sO) (S : sS) : sO := match S.2.2.1 with
  | j :: o :: _ => sSp S o j g
  | _ => g S
def sSpS (g : sS → sO) (S : sS) : sO := match S.2.2.1 with
  | _ :: j :: o :: _ => sSp S o j g
  | _ => g S
def sLdA (ok : Nat → Bool) (pc : Nat) (S : sS) : sO := match S.2.2.1 with
  | j :: o :: r => if (sGet S.1 o).1 = 3 then match wR W (sGet S.1 o).2.1.toNat with
      | some R => if ok R.1 = true ∧ R.2.2.1.isEmpty = true ∧ sIy W S R o j (sGet S.1 o).2.1.toNat = true then (match sElI S o j with
        | some s => some [(pc + 1, (S.1, S.2.1, s :: r, S.2.2.2))]
        | none => match sElC S o j with
          | some s => some [(pc + 1, (S.1, S.2.1, s :: r, S.2.2.2))]
          | none => sPush S (pc + 1) (sElS S o j (sGet S.1 o).2.1.toNat (sElU W S o j (sGet S.1 o).2.1.toNat R.2.2.2.1)) r ((4, o, j, S.1.length, 0) :: (gLc S o j S.1.length ++ gGh W S R.2.2.2.2.2 S.1.length))) else none
      | none => none
    else none
  | _ => none
/-- one more is not 0 -/
def sC15 (S : sS) (o : Nat) : List sF := S.2.2.2.1.filterMap (fun f => if f.1 = 15 ∧ f.2.1 = o then some (15, o, 0, 0, f.2.2.2.2 + 1) else none)
def sStA (ok : Nat → tT → Bool) (pc : Nat) (S : sS) : sO := match S.2.2.1 with
  | v :: j :: o :: r => if (sGet S.1 o).1 = 3 ∧ (sGet S.1 v).1 = 0 then match wR W (sGet S.1 o).2.1.toNat with
      | some R => if ok R.1 (sGet S.1 v) = true ∧ R.2.2.1.isEmpty = true ∧ sIx S R o j = true ∧ sW1 W Wr S o (sGet S.1 o).2.1.toNat 999 = true ∧ sMay W S R.2.2.2 v = true ∧ (iO (sGet S.1 o).2.1.toNat = false ∧ ((sGet S.1 o).2.1.toNat = iRw → 1 ≤ (sGet S.1 v).2.1)) then
          some [(pc + 1, (S.1, S.2.1, r, (4, o, j, v, 0) :: (gSc (fKeepA S.1 (sGet S.1 o).2.1.toNat) S o j v ++ (sC15 S o ++ S.2.2.2.1.filter (fKeepA S.1 (sGet S.1 o).2.1.toNat))), S.2.2.2.2))] else none
      | none => none
    else none
  | _ => none
def sStR (pc : Nat) (S : sS) : sO := match S.2.2.1 with
  | v :: j :: o :: r => if (sGet S.1 o).1 = 3 ∧ (sGet S.1 v).1 = 3 then match wR W (sGet S.1 o).2.1.toNat, wR W (sGet S.1 v).2.1.toNat with
      | some R, some V => if 105 ≤ R.1 ∧ V.1 < 90 ∧ (zTy R.1 = .object (zNm V.1) ∨ zTy R.1 = .object "java/lang/Object") ∧ R.2.2.1.isEmpty = true ∧ sIy W S R o j (sGet S.1 o).2.1.toNat = true ∧ sWE W Wr S o (sGet S.1 o).2.1.toNat v = true ∧ sMay W S R.2.2.2 v = true then
          some [(pc + 1, (S.1, S.2.1, r, (4, o, j, v, 0) :: S.2.2.2.1.filter (fKeepA S.1 (sGet S.1 o).2.1.toNat), S.2.2.2.2))] else none
      | _, _ => none
    else none
  | _ => none
def sCk (a pc : Nat) (S : sS) : sO := match S.2.2.1 with
  | o :: _ => if (sGet S.1 o).1 = 3 ∧ a < 90 then match wR W (sGet S.1 o).2.1.toNat with
      | some R => if R.1 = a then some [(pc + 3, S)] else none
      | none => none
    else none
  | _ => none
def sG (i : Instr) (a b pc : Nat) (S : sS) : sO := match i with
  | .getfield _ => sGetF W a (b % 1000) pc S
  | .putfield _ => sPutF W Wr a (b % 1000) pc S
  | .arraylength => sLenA W pc S
  | .iaload => sSpL (sLdA W (fun k => k == 100 || k == 96) pc) S
  | .baload => sLdA W (fun k => k == 101 || k == 102 || k == 95) pc S
  | .aaload => sSpL (sLdA W (fun k => decide (104 ≤ k) && (zTy k).isReference) pc) S
  | .iastore => sSpS (sStA W Wr (fun k _ => k == 100) pc) S
  | .bastore => sStA W Wr (fun k t => (k == 101 && tFit .byte t) || (k == 102 && tFit .boolean t)) pc S
  | .aastore => sStR W Wr pc S
  | .checkcast _ => sCk W a pc S
  | _ => none
end sHeap
section sHok
variable {W : tWd} {Wr : List (Nat × Nat)} {hb ub : Nat} {ρ ρ0 : List Nat} {ν : List Value} {S : sS} {lv : List (Nat × Value)} {st : List Value} {h h0 : List zC} {u : Nat} {succ : List (Nat × sS)} {pc a k : Nat} {N : Int}
theorem dBase_ok {E : List tT} {x y : Nat} {c : Int} {p q : Int32} (hE : gEn ρ ν E) (hd : dBase E x y c = true) (ex : ν[x]? = some (.int p)) (ey : ν[y]? = some (.int q)) : p.toInt ≤ q.toInt + c := by
  unfold dBase at hd
  rcases Bool.or_eq_true_iff.mp hd with hd | hd
  · obtain ⟨h1, h2⟩ := Bool.and_eq_true_iff.mp hd
    have h1 : x = y := by simpa using h1
    have h2 := of_decide_eq_true h2
    subst h1
    rw [ex] at ey
    cases ey
    omega
  · obtain ⟨h1, h2⟩ := Bool.and_eq_true_iff.mp hd
    obtain ⟨h2, h3⟩ := Bool.and_eq_true_iff.mp h2
    have h3 := of_decide_eq_true h3
    obtain ⟨p2, e1, -, e2⟩ := tHas_int (hE.2 _ _ ex) (by simpa using h1)
    obtain ⟨q2, e3, e4, -⟩ := tHas_int (hE.2 _ _ ey) (by simpa using h2)
    cases e1
    cases e3
    omega
theorem dOk_ok {E : List tT} {Fs : List sF} (hE : gEn ρ ν E) (hF : ∀ f ∈ Fs, fHold hb ν h f) : ∀ {n x y : Nat} {c : Int} {p q : Int32}, dOk E Fs n x y c = true → ν[x]? = some (.int p) → ν[y]? = some (.int q) → p.toInt ≤ q.toInt + c
  | 0, x, y, c, p, q, hd, ex, ey => dBase_ok hE hd ex ey
  | n + 1, x, y, c, p, q, hd, ex, ey => by
    unfold dOk at hd
    rcases Bool.or_eq_true_iff.mp hd with hd | hd
    · exact dBase_ok hE hd ex ey
    · obtain ⟨f, hf, hd⟩ := List.any_eq_true.mp hd
      rcases Bool.or_eq_true_iff.mp hd with hd | hd
      · obtain ⟨h1, h2⟩ := Bool.and_eq_true_iff.mp hd
        obtain ⟨h2, h3⟩ := Bool.and_eq_true_iff.mp h2
        have h1 : f.1 = 0 := by simpa using h1
        have h2 : f.2.1 = x := by simpa using h2
        have F := hF f hf
        unfold fHold at F
        rw [h1] at F
        obtain ⟨p2, m, e1, e2, e3⟩ := F
        rw [h2, ex] at e1
        cases e1
        have := dOk_ok hE hF h3 e2 ey
        omega
      · obtain ⟨h1, hd⟩ := Bool.and_eq_true_iff.mp hd
        have F := hF f hf
        unfold fHold at F
        rw [show f.1 = 12 by simpa using h1] at F
        obtain ⟨t, x2, y2, e1, e2, e3, e4⟩ := F
        have bt : (sGet E f.2.1).1 = 0 → (sGet E f.2.1).2.1 ≤ t.toInt ∧ t.toInt ≤ (sGet E f.2.1).2.2 := fun q => by
          obtain ⟨z, z1, z2, z3⟩ := tHas_int (hE.2 _ _ e1) q
          cases z1
          exact ⟨z2, z3⟩
        have by2 : (sGet E f.2.2.2.1).1 = 0 → (sGet E f.2.2.2.1).2.1 ≤ y2.toInt ∧ y2.toInt ≤ (sGet E f.2.2.2.1).2.2 := fun q => by
          obtain ⟨z, z1, z2, z3⟩ := tHas_int (hE.2 _ _ e3) q
          cases z1
          exact ⟨z2, z3⟩
        rcases Bool.or_eq_true_iff.mp hd with hd | hd
        · obtain ⟨h2, hd⟩ := Bool.and_eq_true_iff.mp hd
          rw [show f.2.2.1 = x by simpa using h2, ex] at e2
          cases e2
          rcases Bool.or_eq_true_iff.mp hd with hd | hd
          · rcases Bool.or_eq_true_iff.mp hd with hd | hd
            · obtain ⟨h3, h4⟩ := Bool.and_eq_true_iff.mp hd
              have := bt (by simpa using h3)
              have := dOk_ok hE hF h4 e3 ey
              omega
            · obtain ⟨h3, h4⟩ := Bool.and_eq_true_iff.mp hd
              have := by2 (by simpa using h3)
              have := dOk_ok hE hF h4 e1 ey
              omega
          · obtain ⟨g, hg, hd⟩ := List.any_eq_true.mp hd
            obtain ⟨g1, hd⟩ := Bool.and_eq_true_iff.mp hd
            obtain ⟨g2, hd⟩ := Bool.and_eq_true_iff.mp hd
            have G := hF g hg
            unfold fHold at G
            rw [show g.1 = 12 by simpa using g1] at G
            obtain ⟨t3, x3, y3, k1, k2, k3, k4⟩ := G
            rw [show g.2.2.1 = y by simpa using g2, ey] at k2
            cases k2
            rcases Bool.or_eq_true_iff.mp hd with hd | hd
            · obtain ⟨h3, h4⟩ := Bool.and_eq_true_iff.mp hd
              rw [show f.2.2.2.1 = g.2.2.2.1 by simpa using h3, k3] at e3
              cases e3
              have := dOk_ok hE hF h4 e1 k1
              omega
            · rcases Bool.or_eq_true_iff.mp hd with hd | hd
              · obtain ⟨h3, h4⟩ := Bool.and_eq_true_iff.mp hd
                rw [show f.2.1 = g.2.2.2.1 by simpa using h3, k3] at e1
                cases e1
                have := dOk_ok hE hF h4 e3 k1
                omega
              · rcases Bool.or_eq_true_iff.mp hd with hd | hd
                · obtain ⟨h3, h4⟩ := Bool.and_eq_true_iff.mp hd
                  rw [show f.2.2.2.1 = g.2.1 by simpa using h3, k1] at e3
                  cases e3
                  have := dOk_ok hE hF h4 e1 k3
                  omega
                · obtain ⟨h3, h4⟩ := Bool.and_eq_true_iff.mp hd
                  rw [show f.2.1 = g.2.1 by simpa using h3, k1] at e1
                  cases e1
                  have := dOk_ok hE hF h4 e3 k3
                  omega
        · rcases Bool.or_eq_true_iff.mp hd with hd | hd
          · obtain ⟨h2, hd⟩ := Bool.and_eq_true_iff.mp hd
            rw [show f.2.2.2.1 = x by simpa using h2, ex] at e3
            cases e3
            obtain ⟨h3, h4⟩ := Bool.and_eq_true_iff.mp hd
            have := bt (by simpa using h3)
            have := dOk_ok hE hF h4 e2 ey
            omega
          · obtain ⟨h2, hd⟩ := Bool.and_eq_true_iff.mp hd
            rw [show f.2.1 = x by simpa using h2, ex] at e1
            cases e1
            obtain ⟨h3, h4⟩ := Bool.and_eq_true_iff.mp hd
            have := by2 (by simpa using h3)
            have := dOk_ok hE hF h4 e2 ey
            omega
theorem sCn_ok {j l : Nat} {p q : Int32} (hA : gA hb ub ρ ν S lv st h u) (hc : sCn S j l = true) (ej : ν[j]? = some (.int p)) (el : ν[l]? = some (.int q)) : p.toInt < q.toInt := by
  unfold sCn at hc
  obtain ⟨f, hf, hc⟩ := List.any_eq_true.mp hc
  obtain ⟨f1, hc⟩ := Bool.and_eq_true_iff.mp hc
  obtain ⟨f2, hc⟩ := Bool.and_eq_true_iff.mp hc
  obtain ⟨f3, hc⟩ := Bool.and_eq_true_iff.mp hc
  obtain ⟨hg, he⟩ := Bool.and_eq_true_iff.mp hc
  obtain ⟨g, hg, hc⟩ := List.any_eq_true.mp hg
  obtain ⟨g1, hc⟩ := Bool.and_eq_true_iff.mp hc
  obtain ⟨g2, hc⟩ := Bool.and_eq_true_iff.mp hc
  obtain ⟨g3, g4⟩ := Bool.and_eq_true_iff.mp hc
  have g4 := of_decide_eq_true g4
  obtain ⟨e, he, hc⟩ := List.any_eq_true.mp he
  obtain ⟨e1, hc⟩ := Bool.and_eq_true_iff.mp hc
  obtain ⟨e2, hc⟩ := Bool.and_eq_true_iff.mp hc
  obtain ⟨e3, hc⟩ := Bool.and_eq_true_iff.mp hc
  obtain ⟨e4, e5⟩ := Bool.and_eq_true_iff.mp hc
  have e5 := of_decide_eq_true e5
  have F := hA.2.2.2.1 f hf
  have G := hA.2.2.2.1 g hg
  have E := hA.2.2.2.1 e he
  unfold fHold at F G E
  rw [show f.1 = 14 by simpa using f1] at F
  rw [show g.1 = 16 by simpa using g1] at G
  rw [show e.1 = 4 by simpa using e1] at E
  obtain ⟨a, c, x, y, a1, a2, a3, a4, a5, a6⟩ := F
  obtain ⟨b, d, z, b1, b2, b3, b4, b5⟩ := G
  obtain ⟨b', d', x', v, d1, d2, d3, d4, d5, d6⟩ := E
  rw [show g.2.1 = f.2.1 by simpa using g2, a1] at b1
  cases b1
  rw [a2] at b2
  cases b2
  rw [show e.2.1 = f.2.1 by simpa using e2, a1] at d1
  cases d1
  rw [a2] at d2
  cases d2
  rw [show e.2.2.1 = f.2.2.1 by simpa using e3, a3] at d3
  cases d3
  rw [show f.2.2.2.1 = j by simpa using f2, ej] at a4
  cases a4
  rw [show g.2.2.1 = l by simpa using g3, el] at b3
  cases b3
  obtain ⟨x2, z1, z2, z3⟩ := hA.int a3 (by simpa using f3)
  cases z1
  obtain ⟨v2, w1, w2, w3⟩ := hA.int d6 (by simpa using e4)
  subst w1
  have nz : zNz (.int v2) = true := by
    show (!(decide (v2 = 0))) = true
    have : v2 ≠ 0 := fun q => by
      have : v2.toInt = 0 := by rw [q]; rfl
      omega
    rw [decide_eq_false this]
    rfl
  have s1 := zcnt_succ d5
  rw [if_pos nz] at s1
  have s2 := zcnt_mono c.2 (n := x.toInt.toNat + 1) (m := g.2.2.2.2.toNat) (by omega)
  omega
theorem d1Ok_ok {E : List tT} {Fs : List sF} (hE : gEn ρ ν E) (hF : ∀ f ∈ Fs, fHold hb ν h f) {x y : Nat} {c : Int} {p q : Int32} (hd : d1Ok E Fs x y c = true) (ex : ν[x]? = some (.int p)) (ey : ν[y]? = some (.int q)) : -p.toInt ≤ q.toInt + c := by
  unfold d1Ok at hd
  rcases Bool.or_eq_true_iff.mp hd with hd | hd
  · obtain ⟨h1, h2⟩ := Bool.and_eq_true_iff.mp hd
    obtain ⟨h2, h3⟩ := Bool.and_eq_true_iff.mp h2
    have h3 := of_decide_eq_true h3
    obtain ⟨p2, e1, e2, -⟩ := tHas_int (hE.2 _ _ ex) (by simpa using h1)
    obtain ⟨q2, e3, e4, -⟩ := tHas_int (hE.2 _ _ ey) (by simpa using h2)
    cases e1
    cases e3
    omega
  · obtain ⟨f, hf, hd⟩ := List.any_eq_true.mp hd
    obtain ⟨h1, h2⟩ := Bool.and_eq_true_iff.mp hd
    obtain ⟨h2, h3⟩ := Bool.and_eq_true_iff.mp h2
    have h1 : f.1 = 1 := by simpa using h1
    have h2 : f.2.1 = x := by simpa using h2
    have F := hF f hf
    unfold fHold at F
    rw [h1] at F
    obtain ⟨p2, m, e1, e2, e3⟩ := F
    rw [h2, ex] at e1
    cases e1
    have := dOk_ok hE hF h3 e2 ey
    omega
theorem gA.ref (hA : gA hb ub ρ ν S lv st h u) {o : Nat} {v : Value} (ho : ν[o]? = some v) (hk : (sGet S.1 o).1 = 3) : ∃ i, v = .ref i ∧ ρ[i]? = some (sGet S.1 o).2.1.toNat := tHas_ref (hA.1.2 _ _ ho) hk
theorem sFld_ok {o k s : Nat} (hA : gA hb ub ρ ν S lv st h u) (hf : sFld S.2.2.2.1 o k = some s) : ∃ (a : Nat) (c : zC) (v : Value), ν[o]? = some (.ref a) ∧ h[a]? = some c ∧ c.2[k]? = some v ∧ ν[s]? = some v := by
  unfold sFld at hf
  obtain ⟨f, hm, hf⟩ := List.exists_of_findSome?_eq_some hf
  split at hf
  · rename_i c
    cases hf
    have F := hA.2.2.2.1 f hm
    unfold fHold at F
    rw [c.1] at F
    obtain ⟨a, d, v, e1, e2, e3, e4⟩ := F
    rw [c.2.1] at e1
    rw [c.2.2] at e3
    exact ⟨a, d, v, e1, e2, e3, e4⟩
  · cases hf
theorem sLen_ok {o s : Nat} (hA : gA hb ub ρ ν S lv st h u) (hf : sLen S.2.2.2.1 o = some s) : ∃ (a : Nat) (c : zC) (x : Int32), ν[o]? = some (.ref a) ∧ h[a]? = some c ∧ ν[s]? = some (.int x) ∧ x.toInt = c.2.length := by
  unfold sLen at hf
  obtain ⟨f, hm, hf⟩ := List.exists_of_findSome?_eq_some hf
  split at hf
  · rename_i c
    cases hf
    have F := hA.2.2.2.1 f hm
    unfold fHold at F
    rw [c.1] at F
    obtain ⟨a, d, v, e1, e2, e3, e4⟩ := F
    rw [c.2] at e1
    exact ⟨a, d, v, e1, e2, e3, e4⟩
  · cases hf
theorem sNew_ok {o i : Nat} (hA : gA hb ub ρ ν S lv st h u) (hf : sNew S.2.2.2.1 o = true) (ho : ν[o]? = some (.ref i)) : hb ≤ i := by
  unfold sNew at hf
  obtain ⟨f, hm, hf⟩ := List.any_eq_true.mp hf
  obtain ⟨h1, h2⟩ := Bool.and_eq_true_iff.mp hf
  have h1 : f.1 = 7 := by simpa using h1
  have h2 : f.2.1 = o := by simpa using h2
  have F := hA.2.2.2.1 f hm
  unfold fHold at F
  rw [h1] at F
  obtain ⟨j, e1, e2⟩ := F
  rw [h2, ho] at e1
  cases e1
  exact e2
theorem sNs_ok {t : Nat} (hA : gA hb ub ρ ν S lv st h u) (hH : tHeap W N ρ h) (ht : t ∈ sNs W S) : ∃ x : Int32, ν[t]? = some (.int x) ∧ x.toInt = N := by
  unfold sNs at ht
  obtain ⟨f, hm, hf⟩ := List.mem_filterMap.mp ht
  split at hf
  · rename_i c
    obtain ⟨c1, c2, c3, c4⟩ := c
    cases hf
    have F := hA.2.2.2.1 f hm
    unfold fHold at F
    rw [c1] at F
    obtain ⟨a, d, v, e1, e2, e3, e4⟩ := F
    obtain ⟨i, q1, q2⟩ := hA.ref e1 c3
    cases q1
    rw [c4] at q2
    obtain ⟨⟨x, x1, x2⟩, -⟩ := hH.2.2.2.2.2.1 _ d q2 e2
    rw [c2, x1] at e3
    cases e3
    exact ⟨x, e4, x2⟩
  · cases hf
theorem gGh_ok {g : Nat × Int} {v : Value} (hA : gA hb ub ρ ν S lv st h u) (hH : tHeap W N ρ h) (hg : gHas N g v) : ∀ f ∈ gGh W S g S.1.length, fHold hb (ν ++ [v]) h f := by
  intro f hf
  unfold gGh at hf
  unfold gHas at hg
  split at hf
  · rename_i e
    rw [if_pos e] at hg
    obtain ⟨x, rfl, hx⟩ := hg
    obtain ⟨t, ht, rfl⟩ := List.mem_map.mp hf
    obtain ⟨y, y1, y2⟩ := sNs_ok hA hH ht
    exact fLe (hA.new _) (nExt_app _ _ _ _ y1) (by omega)
  · rename_i e
    rw [if_neg e] at hg
    split at hf
    · rename_i e2
      rw [if_pos e2] at hg
      obtain ⟨x, rfl, hx⟩ := hg
      obtain ⟨t, ht, rfl⟩ := List.mem_map.mp hf
      obtain ⟨y, y1, y2⟩ := sNs_ok hA hH ht
      exact ⟨x, y, hA.new _, nExt_app _ _ _ _ y1, by dsimp only; omega⟩
    · cases hf
theorem sMay_ok {f : fT} {s : Nat} {v : Value} (hA : gA hb ub ρ ν S lv st h u) (hH : tHeap W N ρ h) (hm : sMay W S f s = true) (hs : ν[s]? = some v) : tVal N ρ f v := by
  unfold sMay at hm
  obtain ⟨h1, h2⟩ := Bool.and_eq_true_iff.mp hm
  obtain ⟨-, h3⟩ := Bool.and_eq_true_iff.mp h2
  refine ⟨tSub_ok h1 (hA.1.2 _ _ hs), ?_⟩
  unfold gHas
  by_cases e : f.2.2.1 = 1
  · rw [if_pos e] at h3 ⊢
    obtain ⟨h4, h3⟩ := Bool.and_eq_true_iff.mp h3
    obtain ⟨x, rfl, -⟩ := hA.int hs (by simpa using h4)
    obtain ⟨t, ht, hd⟩ := List.any_eq_true.mp h3
    obtain ⟨y, y1, y2⟩ := sNs_ok hA hH ht
    have := dOk_ok hA.1 hA.2.2.2.1 hd hs y1
    exact ⟨x, rfl, by omega⟩
  · rw [if_neg e] at h3 ⊢
    by_cases e2 : f.2.2.1 = 2
    · rw [if_pos e2] at h3 ⊢
      obtain ⟨h4, h3⟩ := Bool.and_eq_true_iff.mp h3
      obtain ⟨x, rfl, -⟩ := hA.int hs (by simpa using h4)
      obtain ⟨t, ht, hd⟩ := List.any_eq_true.mp h3
      obtain ⟨y, y1, y2⟩ := sNs_ok hA hH ht
      have := d1Ok_ok hA.1 hA.2.2.2.1 hd hs y1
      exact ⟨x, rfl, by omega⟩
    · rw [if_neg e2]
      trivial
/-- what the next state is, where the heap's part is right -/
def sHd (W : tWd) (Wr : List (Nat × Nat)) (N : Int) (hb ub : Nat) (ρ0 ρ : List Nat) (ν : List Value) (h0 : List zC) (lv : List (Nat × Value)) (u : Nat) (succ : List (Nat × sS)) (z : zOh) : Prop := ∃ pc' st' h', z = some (pc', st', h') ∧ h'.length = h.length ∧ ∃ N' ν' S', N ≤ N' ∧ (pc', S') ∈ succ ∧ nExt ν ν' ∧ gA hb ub ρ ν' S' lv st' h' u ∧ tHeap W N' ρ h' ∧ gFr Wr ρ0 h0 h'
end sHok
