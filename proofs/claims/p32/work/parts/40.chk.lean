/-! ===== contracts, and the checker of a method ===== -/
/-- how a method may end: 0 without a value, 1 with one, 2 + E by the exception E; what is known then -/
abbrev cEx : Type := Nat × sS
/-- a contract: the method; calls below it; what is known at its start; what it may write; cells and slots; its ends -/
abbrev cCon : Type := Nat × Nat × sS × List (Nat × Nat) × Int × Int × List cEx
def exO (k : Nat) (st : List Value) (o : zRes) : Prop := match o with
  | .inl none => k = 0 ∧ st = []
  | .inl (some v) => k = 1 ∧ st = [v]
  | .inr E => k = 2 + E ∧ st = []
def cHolds (zr : zRow) (zi : Nat → zI) (W : tWd) (c : cCon) : Prop := ∀ (dd : Nat), c.2.1 ≤ dd → ∀ (N : Int) (ρ : List Nat) (ν : List Value) (lv : List (Nat × Value)) (h : List zC) (u : Nat) (K : zK),
  gA h.length u ρ ν c.2.2.1 lv [] h u → tHeap W N ρ h → (h.length : Int) + c.2.2.2.2.1 ≤ zCM → (u : Int) + c.2.2.2.2.2.1 ≤ zSN →
  (∀ x ∈ c.2.2.2.2.2.2, ∀ (N' : Int) (ρ' : List Nat) (ν' : List Value) (st' : List Value) (h' : List zC) (u' : Nat) (o : zRes), N ≤ N' → nExt ν ν' → gPre h.length ρ ρ' → tHeap W N' ρ' h' → gFr c.2.2.2.1 ρ h h' → gA h.length u ρ' ν' x.2 [] st' h' u' → exO x.1 st' o → K o h' u') →
  zE zr zi dd c.1 0 lv [] h u K
/-! measures: (0, n) a number; (1, hi, s) hi - s; (2, lo, s) s - lo -/
abbrev mI : Type := Nat × Int × Nat
/-- a loop's head: its place, what is known there, its measure -/
abbrev mHead : Type := Nat × sS × List mI
def vIt (ν : List Value) (p : mI) (n : Nat) : Prop := if p.1 = 0 then n = p.2.1.toNat else if p.1 = 1 then ∃ x : Int32, ν[p.2.2]? = some (.int x) ∧ x.toInt ≤ p.2.1 ∧ n = (p.2.1 - x.toInt).toNat else ∃ x : Int32, ν[p.2.2]? = some (.int x) ∧ p.2.1 ≤ x.toInt ∧ n = (x.toInt - p.2.1).toNat
def vEv (ν : List Value) : List mI → List Nat → Prop
  | [], [] => True
  | p :: V, n :: w => vIt ν p n ∧ vEv ν V w
  | _, _ => False
def vLt : List Nat → List Nat → Prop
  | a :: as, b :: bs => as.length = bs.length ∧ (a < b ∨ (a = b ∧ vLt as bs))
  | _, _ => False
theorem vInd {P : List Nat → Prop} : ∀ n : Nat, (∀ v : List Nat, v.length = n → (∀ w : List Nat, w.length = n → vLt w v → P w) → P v) → ∀ v : List Nat, v.length = n → P v := by
  intro n
  induction n generalizing P with
  | zero =>
    intro H v hv
    refine H v hv (fun w hw hl => ?_)
    cases w with
    | nil => exact hl.elim
    | cons => simp at hw
  | succ n ih =>
    intro H v hv
    have key : ∀ b : Nat, ∀ bs : List Nat, bs.length = n → P (b :: bs) := by
      intro b
      induction b using Nat.strongRecOn with
      | _ b ihb =>
        refine ih (P := fun bs => P (b :: bs)) (fun bs hbs hlow => ?_)
        refine H (b :: bs) (by simp [hbs]) (fun w hw hl => ?_)
        cases w with
        | nil => simp at hw
        | cons a as =>
          obtain ⟨-, hl⟩ := hl
          have has : as.length = n := by simpa using hw
          rcases hl with hl | ⟨e, hl⟩
          · exact ihb a hl as has
          · subst e
            exact hlow as has hl
    cases v with
    | nil => simp at hv
    | cons b bs => exact key b bs (by simpa using hv)
theorem vIt.ext {ν ν' : List Value} (hp : nExt ν ν') {p : mI} {n : Nat} (h : vIt ν p n) : vIt ν' p n := by
  unfold vIt at h ⊢
  split
  · rename_i e; rw [if_pos e] at h; exact h
  · rename_i e
    rw [if_neg e] at h
    split
    · rename_i e2
      rw [if_pos e2] at h
      obtain ⟨x, e1, e2⟩ := h
      exact ⟨x, hp _ _ e1, e2⟩
    · rename_i e2
      rw [if_neg e2] at h
      obtain ⟨x, e1, e2⟩ := h
      exact ⟨x, hp _ _ e1, e2⟩
theorem vEv.ext {ν ν' : List Value} (hp : nExt ν ν') : ∀ {V : List mI} {w : List Nat}, vEv ν V w → vEv ν' V w
  | [], [], _ => trivial
  | _ :: _, _ :: _, h => ⟨h.1.ext hp, h.2.ext hp⟩
  | [], _ :: _, h => h.elim
  | _ :: _, [], h => h.elim
/-- the measure can be told in the state -/
def vWf (S : sS) (m : List Nat) (V : List mI) : Bool := V.all (fun p => p.1 == 0 || (match m[p.2.2]? with | some x => (sGet S.1 x).1 == 0 && (if p.1 = 1 then decide ((sGet S.1 x).2.2 ≤ p.2.1) else decide (p.2.1 ≤ (sGet S.1 x).2.1)) | none => false))
def vLs (S : sS) (m : List Nat) : List mI → List mI → Bool
  | p :: V, q :: U => V.length == U.length && (if p.1 = 0 then q.1 == 0 && (if q.2.1.toNat < p.2.1.toNat then true else decide (q.2.1.toNat = p.2.1.toNat) && vLs S m V U) else p.1 == q.1 && (decide (p.2.1 = q.2.1) && (match m[q.2.2]? with
      | some x => if p.1 = 1 then (if dOk S.1 S.2.2.2.1 3 p.2.2 x (-1) = true then true else dOk S.1 S.2.2.2.1 3 p.2.2 x 0 && vLs S m V U) else (if dOk S.1 S.2.2.2.1 3 x p.2.2 (-1) = true then true else dOk S.1 S.2.2.2.1 3 x p.2.2 0 && vLs S m V U)
      | none => false)))
  | _, _ => false
def vDec (S : sS) (m : List Nat) (V : Option (List mI)) (U : List mI) : Bool := vWf S m U && match V with
  | some V => vLs S m V U
  | none => true
def hFind : List mHead → Nat → Option mHead
  | [], _ => none
  | x :: r, pc => if x.1 = pc then some x else hFind r pc
def pIds (n0 : Nat) (m : List Nat) : Bool := (List.range n0).all (fun s => mSym m s s)
def sSeq (S T : sS) : Bool := decide (S.1 = T.1) && (decide (S.2.1 = T.2.1) && (decide (S.2.2.1 = T.2.2.1) && (decide (S.2.2.2.1 = T.2.2.2.1) && (decide (S.2.2.2.2.1 = T.2.2.2.2.1) && (decide (S.2.2.2.2.2.1 = T.2.2.2.2.2.1) && decide (S.2.2.2.2.2.2 = T.2.2.2.2.2.2))))))
theorem sSeq_ok {S T : sS} (h : sSeq S T = true) : S = T := by
  unfold sSeq at h
  obtain ⟨h1, h⟩ := Bool.and_eq_true_iff.mp h
  obtain ⟨h2, h⟩ := Bool.and_eq_true_iff.mp h
  obtain ⟨h3, h⟩ := Bool.and_eq_true_iff.mp h
  obtain ⟨h4, h⟩ := Bool.and_eq_true_iff.mp h
  obtain ⟨h5, h⟩ := Bool.and_eq_true_iff.mp h
  obtain ⟨h6, h7⟩ := Bool.and_eq_true_iff.mp h
  obtain ⟨a, b, c, d, e, f, g⟩ := S
  obtain ⟨a2, b2, c2, d2, e2, f2, g2⟩ := T
  have h1 : a = a2 := of_decide_eq_true h1
  have h2 : b = b2 := of_decide_eq_true h2
  have h3 : c = c2 := of_decide_eq_true h3
  have h4 : d = d2 := of_decide_eq_true h4
  have h5 : e = e2 := of_decide_eq_true h5
  have h6 : f = f2 := of_decide_eq_true h6
  have h7 : g = g2 := of_decide_eq_true h7
  rw [h1, h2, h3, h4, h5, h6, h7]
/-- an arrival: in the very state, or in one that can be built out of it -/
def hGo (n0 : Nat) (S : sS) (V : Option (List mI)) (x : mHead) : Bool := (x.2.2.isEmpty && (V.isNone && sSeq S x.2.1)) || (pIds n0 (mBuild n0 S x.2.1) && (mOk (mBuild n0 S x.2.1) S x.2.1 && vDec S (mBuild n0 S x.2.1) V x.2.2))
def fMp (mx : Nat → Nat) (f : sF) : sF :=
  if f.1 = 2 then (2, mx f.2.1, f.2.2.1, mx f.2.2.2.1, f.2.2.2.2) else if f.1 = 0 ∨ f.1 = 1 ∨ f.1 = 3 ∨ f.1 = 10 ∨ f.1 = 16 ∨ f.1 = 17 ∨ f.1 = 18 ∨ f.1 = 19 then (f.1, mx f.2.1, mx f.2.2.1, f.2.2.2.1, f.2.2.2.2) else if f.1 = 6 ∨ f.1 = 7 ∨ f.1 = 9 ∨ f.1 = 11 ∨ f.1 = 13 ∨ f.1 = 15 then (f.1, mx f.2.1, f.2.2.1, f.2.2.2.1, f.2.2.2.2) else (f.1, mx f.2.1, mx f.2.2.1, mx f.2.2.2.1, f.2.2.2.2)
/-- what stays known over a call that may write that much -/
def fKeepC (E : List tT) (Wr : List (Nat × Nat)) (f : sF) : Bool :=
  if f.1 = 2 then (sGet E f.2.1).1 == 3 && !(wIn Wr (sGet E f.2.1).2.1.toNat f.2.2.1) else if f.1 = 4 then (sGet E f.2.1).1 == 3 && !(Wr.any (fun w => w.1 == (sGet E f.2.1).2.1.toNat)) else if f.1 = 8 then false else if f.1 = 18 then ((sGet E f.2.1).1 == 3 && !(Wr.any (fun w => w.1 == (sGet E f.2.1).2.1.toNat))) && ((sGet E f.2.2.1).1 == 3 && !(Wr.any (fun w => w.1 == (sGet E f.2.2.1).2.1.toNat))) else if f.1 = 14 ∨ f.1 = 15 ∨ f.1 = 16 then (sGet E f.2.1).1 == 3 && !(Wr.any (fun w => w.1 == (sGet E f.2.1).2.1.toNat)) else true
def mX (n0 nE : Nat) (m : List Nat) (s : Nat) : Nat := if s < n0 then m.getD s 0 else nE + (s - n0)
/-- the state in the caller behind a call by contract -/
def sBack0 (S : sS) (L : List (Nat × Nat)) (T : List Nat) (c : cCon) (m : List Nat) (x : sS) : sS :=
  (S.1 ++ x.1.drop c.2.2.1.1.length, L, x.2.2.1.map (mX c.2.2.1.1.length S.1.length m) ++ T, x.2.2.2.1.map (fMp (mX c.2.2.1.1.length S.1.length m)) ++ S.2.2.2.1.filter (fKeepC S.1 c.2.2.2.1),
    S.2.2.2.2.1 + x.2.2.2.2.1, S.2.2.2.2.2.1 + x.2.2.2.2.2.1, S.2.2.2.2.2.2 ++ x.2.2.2.2.2.2.map (fun t => (t.1, t.2.1, mX c.2.2.1.1.length S.1.length m t.2.2)))
def sBack (S : sS) (L : List (Nat × Nat)) (T : List Nat) (c : cCon) (m : List Nat) (x : sS) : sS :=
  (sPrA (sBack0 S L T c m x).1 (x.2.2.2.1.map (fMp (mX c.2.2.1.1.length S.1.length m))), (sBack0 S L T c m x).2)
/-- the state in which the callee begins, by its own count -/
def sCall (S : sS) (As : List Nat) : sS := (S.1, sArgs S.1 0 As, [], S.2.2.2.1.filter (fun f => !(f.1 == 7)), 0, 0, [])
def cFind (a d : Nat) (S : sS) : List cCon → Option cCon
  | [] => none
  | c :: r => if c.1 = a ∧ c.2.1 ≤ d ∧ mOk (mBuild 0 S c.2.2.1) S c.2.2.1 = true ∧ decide (c.2.2.1.2.2.2.2 = (0, 0, [])) = true then some c else cFind a d S r
/-! a role change: the new cell on top of the stack takes another role for good -/
def tNoR (r : Nat) (t : tT) : Bool := !((t.1 == 3 || (t.1 == 4 || t.1 == 6)) && t.2.1.toNat == r) && !(t.1 == 6 && t.2.2.toNat == r)
/-- no role's field holds a cell of the role r -/
def wFree (W : tWd) (r : Nat) : Bool := W.1.all (fun R => R.2.2.1.all (fun f => tNoR r f.1) && tNoR r R.2.2.2.1) && (wLs W).all (fun l => !(l.2.2 == r))
def sFits (W : tWd) (S : sS) (o : Nat) (R0 R1 : tR) (k : Nat) : Bool := (tSub (tFd R0 k).1 (tFd R1 k).1 && (tFd R1 k).2.2.1 == 0) || (match sFld S.2.2.2.1 o k with
  | some s => sMay W S (tFd R1 k) s
  | none => false)
def sAllF (W : tWd) (S : sS) (o : Nat) (R0 R1 : tR) : Bool := match R0.2.1 with
  | some n => (List.range n).all (sFits W S o R0 R1)
  | none => false
def sTag (W : tWd) (S : sS) (r : Nat) : Option sS := match S.2.2.1 with
  | o :: _ => match wR W (sGet S.1 o).2.1.toNat, wR W r with
    | some R0, some R1 => if (sGet S.1 o).1 = 3 ∧ sNew S.2.2.2.1 o = true ∧ wLk W (sGet S.1 o).2.1.toNat = false ∧ wLk W r = false ∧ wFree W (sGet S.1 o).2.1.toNat = true ∧ R0.1 = R1.1 ∧ R0.2.1 = R1.2.1 ∧ sAllF W S o R0 R1 = true ∧ wW W ≤ (sGet S.1 o).2.1.toNat ∧ 8 ≤ r ∧ ((iO r = true → iO (sGet S.1 o).2.1.toNat = true) ∧ (sGet S.1 o).2.1.toNat ≠ iRw) then
        some ((S.1.map (fun t => if tNoR (sGet S.1 o).2.1.toNat t = true then t else (9, 0, 0))).set o (3, (r : Int), 0), S.2) else none
    | _, _ => none
  | [] => none
def sTg (W : tWd) (tg : Nat → Nat → Nat) (j pc : Nat) (S : sS) : Option sS := if tg j pc = 0 then some S else sTag W S (tg j pc)
section chkDef
variable (zr : zRow) (zi : Nat → zI) (W : tWd) (ro tg : Nat → Nat → Nat) (Cs : List cCon) (Wr : List (Nat × Nat)) (mc ms : Int) (n0 : Nat)
/-- behind a call, in the caller: k and S are the callee's end -/
def chkAft (go : Nat → sS → Bool) (j pc n : Nat) (L : List (Nat × Nat)) (T : List Nat) (K : Nat → sS → Bool) (k : Nat) (S : sS) : Bool :=
  if k = 0 then go (pc + n) (S.1, L, T, S.2.2.2)
  else if k = 1 then (match S.2.2.1 with | [s] => go (pc + n) (S.1, L, s :: T, S.2.2.2) | _ => false)
  else match zHit (zi j) pc (k - 2) with
    | none => K k (S.1, [], [], S.2.2.2)
    | some r => match zr j r.2.2.1 with
      | some (i, _, _) => match zAst i with
        | some (q, m) => if q < zMl (zi j) then go (r.2.2.1 + m) (S.1, sDel1 S.1 L q, [], S.2.2.2) else false
        | none => false
      | none => false
def chk : Nat → Bool → List mHead → Option (List mI) → Nat → Nat → Nat → sS → (Nat → sS → Bool) → Bool
  | 0, _, _, _, _, _, _, _, _ => false
  | f + 1, skip, Hs, V, d, j, pc, S0, K => match (if skip = true then none else hFind Hs pc) with
    | some _ => Hs.any (fun x => x.1 == pc && hGo n0 S0 V x)
    | none => match sTg W tg j pc S0 with
     | none => false
     | some S => match zr j pc with
      | none => false
      | some (i, a, b) => match zKe i a b with
        | 0 => match sP (zMl (zi j)) i pc S with
          | some succ => succ.all (fun p => chk f false Hs V d j p.1 p.2 K)
          | none => false
        | 1 => match sG W Wr i a b pc S with
          | some succ => succ.all (fun p => chk f false Hs V d j p.1 p.2 K)
          | none => false
        | 2 => match sM W mc ms (ro j pc) i a pc S with
          | some succ => succ.all (fun p => chk f false Hs V d j p.1 p.2 K)
          | none => false
        | 3 => if zNp (zi a) ≤ S.2.2.1.length ∧ sCats S.1 (S.2.2.1.drop (zNp (zi a))) ≤ 8 ∧ sCats S.1 (S.2.2.1.take (zNp (zi a))) ≤ zMl (zi a) ∧ zMl (zi a) ≤ 40 ∧ sKnown S.1 (S.2.2.1.take (zNp (zi a))) = true ∧ sRc W b S (S.2.2.1.take (zNp (zi a))).reverse = true then
            match d with
            | 0 => false
            | d' + 1 => match cFind a d' (sCall S (S.2.2.1.take (zNp (zi a))).reverse) Cs with
              | some c => c.2.2.2.1.all (fun w => wIn Wr w.1 w.2) && (sRoom mc ms S c.2.2.2.2.1 c.2.2.2.2.2.1 && c.2.2.2.2.2.2.all (fun x => chkAft zr zi (fun pc' S' => chk f false Hs V (d' + 1) j pc' S' K) j pc (zLen i) S.2.1 (S.2.2.1.drop (zNp (zi a))) K x.1 (sBack S [] [] c (mBuild 0 (sCall S (S.2.2.1.take (zNp (zi a))).reverse) c.2.2.1) x.2)))
              | none => chk f false [] none d' a 0 (S.1, sArgs S.1 0 (S.2.2.1.take (zNp (zi a))).reverse, [], S.2.2.2) (fun k S' => chkAft zr zi (fun pc' S' => chk f false Hs V (d' + 1) j pc' S' K) j pc (zLen i) S.2.1 (S.2.2.1.drop (zNp (zi a))) K k S')
          else false
        | 4 => match sRt (zRe (zi j)) i S with
          | some k => K k (S.1, [], S.2.2.1, S.2.2.2)
          | none => false
        | 5 => S.2.2.1.isEmpty && (sRoom mc ms S 1 6 && K (2 + (a - 1000)) (S.1, [], [], S.2.2.2.1, sCost S.2.2.2.2 1 6))
        | 6 => match S.2.2.1 with
          | o :: r => (sGet S.1 o).1 == 3 && (decide (sCats S.1 r ≤ 8) && chk f false Hs V d j (pc + 3) (S.1, S.2.1, r, S.2.2.2) K)
          | [] => false
        | 7 => match b with
          | 0 => chk f false Hs V d j (pc + zLen i) (S.1 ++ [(0, (Int32.ofNat a).toInt, (Int32.ofNat a).toInt)], S.2.1, S.1.length :: S.2.2.1, S.2.2.2) K
          | 1 => chk f false Hs V d j (pc + zLen i) (S.1 ++ [(1, 0, 0)], S.2.1, S.1.length :: S.2.2.1, S.2.2.2) K
          | 2 => chk f false Hs V d j (pc + zLen i) (S.1 ++ [(2, 0, 0)], S.2.1, S.1.length :: S.2.2.1, (11, S.1.length, 0, 0, (a : Int)) :: ((if zNan (UInt64.ofNat a) = true then [(9, S.1.length, 0, 0, 0)] else []) ++ S.2.2.2.1), S.2.2.2.2) K
          | 3 => decide (a < 8) && chk f false Hs V d j (pc + zLen i) (S.1 ++ [(3, (a : Int), 0)], S.2.1, S.1.length :: S.2.2.1, S.2.2.2) K
          | _ => false
        | 8 => match sX W Wr mc ms (ro j pc) i a pc S with
          | some succ => succ.all (fun p => chk f false Hs V d j p.1 p.2 K)
          | none => false
        | _ => false
end chkDef
