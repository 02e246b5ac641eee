/-! ===== the abstract machine: what else there is (the kind 8) ===== -/
def d64 : Int := 4634204016564240384
section sXd
variable (W : tWd) (Wr : List (Nat × Nat)) (mc ms : Int) (ro : Nat)
def sTgt (pc : Nat) (off : Int) (y : Bool) : Nat := if y = true then ((pc : Int) + off).toNat else pc + 3
def sIfn (y : Bool) (pc : Nat) (off : Int) (S : sS) : sO := match S.2.2.1 with
  | o :: r => if 0 ≤ (pc : Int) + off then
      (if (sGet S.1 o).1 = 5 then some [(sTgt pc off y, (S.1, S.2.1, r, S.2.2.2))]
       else if (sGet S.1 o).1 = 3 then some [(sTgt pc off (!y), (S.1, S.2.1, r, S.2.2.2))]
       else if (sGet S.1 o).1 = 4 then some [(sTgt pc off y, (S.1.set o (5, 0, 0), S.2.1, r, S.2.2.2)), (sTgt pc off (!y), (S.1.set o (3, (sGet S.1 o).2.1, 0), S.2.1, r, S.2.2.2))]
       else none) else none
  | [] => none
def sAcm (y : Bool) (pc : Nat) (off : Int) (S : sS) : sO := match S.2.2.1 with
  | b :: a :: r => if 0 ≤ (pc : Int) + off ∧ (sGet S.1 a).1 = 3 ∧ (sGet S.1 b).1 = 3 then
      (if (sGet S.1 a).2.1.toNat = (sGet S.1 b).2.1.toNat then
        (if 1 ≤ (sGet S.1 a).2.1.toNat ∧ (sGet S.1 a).2.1.toNat < 8 ∧ (sGet S.1 a).2.1.toNat ≠ 3 then some [(sTgt pc off y, (S.1, S.2.1, r, S.2.2.2))] else none)
       else if (wW W ≤ (sGet S.1 a).2.1.toNat ∨ wW W ≤ (sGet S.1 b).2.1.toNat) ∧ zfr (sGet S.1 a).2.1.toNat ∧ zfr (sGet S.1 b).2.1.toNat then some [(sTgt pc off (!y), (S.1, S.2.1, r, S.2.2.2))] else none) else none
  | _ => none
def sDd (pc : Nat) (S : sS) : sO := match S.2.2.1 with
  | y :: x :: r => if S.2.2.2.1.any (fun f => f.1 == 10 && f.2.1 == x) = true ∧ S.2.2.2.1.any (fun f => f.1 == 10 && (f.2.1 == y && (((sGet S.1 f.2.2.1).1 == 0 && decide (1 ≤ (sGet S.1 f.2.2.1).2.1)) || S.2.2.2.1.any (fun g => g.1 == 13 && g.2.1 == f.2.2.1)))) = true then sPush S (pc + 1) (2, 0, 0) r [(9, S.1.length, 0, 0, 0)] else none
  | _ => none
def sDm (pc : Nat) (S : sS) : sO := match S.2.2.1 with
  | y :: x :: r => if S.2.2.2.1.any (fun f => f.1 == 11 && (f.2.1 == x && decide (f.2.2.2.2 = d64))) = true ∧ S.2.2.2.1.any (fun f => f.1 == 9 && f.2.1 == y) = true then sPush S (pc + 1) (2, 0, 0) r [(9, S.1.length, 0, 0, 0)] else none
  | _ => none
/-- a place behind n cells from dp on is in the row of the length l -/
def sEnd (S : sS) (dp n l : Nat) : Bool := (decide (sGet S.1 dp = (0, 0, 0)) && dOk S.1 S.2.2.2.1 3 n l 0) || S.2.2.2.1.any (fun f => f.1 == 12 && (((f.2.1 == dp && f.2.2.2.1 == n) || (f.2.1 == n && f.2.2.2.1 == dp)) && dOk S.1 S.2.2.2.1 3 f.2.2.1 l 0))
/-- the row q is the list's row, and n is at most the list's number -/
def sBel (S : sS) (q rq n : Nat) : Bool := (wLs W).any (fun l => (l.2.1 == rq && (wLs W).all (fun l2 => !(l2.2.1 == l.2.1) || l2.2.2 == l.2.2)) && S.2.2.2.1.any (fun f => f.1 == 2 && (f.2.2.1 == wEd W && (f.2.2.2.1 == q && ((sGet S.1 f.2.1).1 == 3 && ((sGet S.1 f.2.1).2.1.toNat == l.1 && (match sFld S.2.2.2.1 f.2.1 (wSz W) with
    | some s => dOk S.1 S.2.2.2.1 3 n s 0
    | none => false)))))))
def sArc (pc : Nat) (S : sS) : sO := match S.2.2.1 with
  | n :: dp :: d :: sp :: q :: r => if (sGet S.1 n).1 = 0 ∧ (sGet S.1 dp).1 = 0 ∧ (sGet S.1 sp).1 = 0 ∧ (sGet S.1 d).1 = 3 ∧ (sGet S.1 q).1 = 3 ∧ 0 ≤ (sGet S.1 n).2.1 ∧ 0 ≤ (sGet S.1 dp).2.1 ∧ 0 ≤ (sGet S.1 sp).2.1 ∧ sCats S.1 r ≤ 8 then
      (match wR W (sGet S.1 d).2.1.toNat, wR W (sGet S.1 q).2.1.toNat, sLen S.2.2.2.1 d, sLen S.2.2.2.1 q with
      | some D, some Q, some ld, some lq => if sEnd S dp n ld = true ∧ sEnd S sp n lq = true ∧ D.2.2.1.isEmpty = true ∧ Q.2.2.1.isEmpty = true ∧ (decide (wW W ≤ (sGet S.1 d).2.1.toNat) && (sNew S.2.2.2.1 d || wIn Wr (sGet S.1 d).2.1.toNat 999)) = true ∧ D.2.2.2.2.2.1 = 0 ∧ (iO (sGet S.1 d).2.1.toNat = false ∧ (sGet S.1 d).2.1.toNat ≠ iRw) then
          (if D.1 = 101 ∧ (Q.1 = 101 ∨ Q.1 = 95) ∧ wLk W (sGet S.1 d).2.1.toNat = false ∧ tSub Q.2.2.2.1 D.2.2.2.1 = true ∧ tSub Q.2.2.2.1 (0, -128, 127) = true then
            some [(pc + 3, (S.1, S.2.1, r, S.2.2.2.1.filter (fKeepA S.1 (sGet S.1 d).2.1.toNat), S.2.2.2.2))]
          else if D.1 = 105 ∧ Q.1 = 105 ∧ wTop W (sGet S.1 d).2.1.toNat = false ∧ (sGet S.1 d).2.1.toNat = (sGet S.1 q).2.1.toNat ∧ sNew S.2.2.2.1 d = true ∧ sGet S.1 sp = (0, 0, 0) ∧ sGet S.1 dp = (0, 0, 0) ∧ sBel W S q (sGet S.1 q).2.1.toNat n = true ∧ (wLs W).all (fun l => !(l.2.1 == (sGet S.1 q).2.1.toNat) || (match wR W l.2.2 with
              | some V => decide (V.1 < 90)
              | none => false)) = true ∧ (d == q) = false then
            some [(pc + 3, (S.1, S.2.1, r, (8, d, q, n, 0) :: S.2.2.2.1.filter (fKeepA S.1 (sGet S.1 d).2.1.toNat), S.2.2.2.2))]
          else none)
        else none
      | _, _, _, _ => none) else none
  | _ => none
def sCln (pc : Nat) (S : sS) : sO := match S.2.2.1 with
  | q :: r => if (sGet S.1 q).1 = 3 ∧ sCats S.1 r ≤ 8 then
      (match wR W (sGet S.1 q).2.1.toNat, wR W ro, sLen S.2.2.2.1 q with
      | some Q, some R, some l => if Q.1 = 101 ∧ R.1 = 101 ∧ ((wTop W ro = false ∧ 8 ≤ ro) ∧ iO ro = false) ∧ Q.2.2.1.isEmpty = true ∧ R.2.2.1.isEmpty = true ∧ (R.2.1 = none ∧ (sGet S.1 l).2.2 ≤ tMx R) ∧ R.2.2.2.2.2.1 = 0 ∧ tSub Q.2.2.2.1 R.2.2.2.1 = true ∧ tSub Q.2.2.2.1 (0, -128, 127) = true ∧ (sGet S.1 l).1 = 0 ∧ sRoom mc ms S 1 (sGet S.1 l).2.2 = true then
          sMade ro (pc + 3) S r (sGet S.1 l).2.2 [(3, S.1.length, l, 0, 0)] else none
      | _, _, _ => none) else none
  | [] => none
def sGcl (pc : Nat) (S : sS) : sO := match S.2.2.1 with
  | q :: r => if (sGet S.1 q).1 = 3 ∧ sCats S.1 r ≤ 8 then
      (match wR W (sGet S.1 q).2.1.toNat with
      | some Q => if Q.1 = 105 then sPush S (pc + 3) (3, 7, 0) r [] else none
      | none => none) else none
  | [] => none
def sCka (a pc : Nat) (S : sS) : sO := match S.2.2.1 with
  | q :: r => if (sGet S.1 q).1 = 3 ∧ (a = 101 ∨ a = 105) then
      (match wR W (sGet S.1 q).2.1.toNat with
      | some Q => if Q.1 = a then some [(pc + 3, S)] else none
      | none => none) else none
  | [] => none
def sX (i : Instr) (a pc : Nat) (S : sS) : sO := match i with
  | .ifnull off => sIfn true pc off S
  | .ifnonnull off => sIfn false pc off S
  | .if_acmp .eq off => sAcm W true pc off S
  | .if_acmp .ne off => sAcm W false pc off S
  | .dmul => sDm pc S
  | .ddiv => sDd pc S
  | .getstatic _ => sPush S (pc + 3) (4, 3, 0) S.2.2.1 []
  | .getfield _ => sGetF W 2 0 pc S
  | .putfield _ => sPutF W Wr 2 0 pc S
  | .checkcast _ => sCka W a pc S
  | .invokestatic _ => sArc W Wr pc S
  | .invokevirtual _ => if a = 1 then sCln W mc ms ro pc S else sGcl W pc S
  | _ => none
end sXd
theorem byI {z : Int32} (h1 : (-128 : Int) ≤ z.toInt) (h2 : z.toInt ≤ 127) : (decide ((-128 : Int32) ≤ z) && decide (z ≤ 127)) = true := by
  have e1 : (-128 : Int32).toInt = -128 := by decide
  have e2 : (127 : Int32).toInt = 127 := by decide
  exact Bool.and_eq_true_iff.mpr ⟨decide_eq_true (Int32.le_iff_toInt_le.mpr (by omega)), decide_eq_true (Int32.le_iff_toInt_le.mpr (by omega))⟩
theorem zNan_to {y : UInt64} (h : zNan y = true) : FP.dIsNaN y = false := by
  unfold zNan at h
  have h := of_decide_eq_true h
  have h := UInt64.le_iff_toNat_le.mp h
  rw [UInt64.toNat_and] at h
  have e : y.toNat &&& (0x7fffffffffffffff : UInt64).toNat = y.toNat % 2 ^ 63 := Nat.and_two_pow_sub_one_eq_mod y.toNat 63
  rw [e] at h
  exact (FP.Core.notNaN_iff y).mpr ((FP.Core.ne_nan y).mpr h)
theorem zNan_of {y : UInt64} (h : FP.dIsNaN y = false) : zNan y = true := by
  have h := (FP.Core.ne_nan y).mp ((FP.Core.notNaN_iff y).mp h)
  refine decide_eq_true (UInt64.le_iff_toNat_le.mpr ?_)
  rw [UInt64.toNat_and]
  have e : y.toNat &&& (0x7fffffffffffffff : UInt64).toNat = y.toNat % 2 ^ 63 := Nat.and_two_pow_sub_one_eq_mod y.toNat 63
  rw [e]
  exact h
theorem dNan1 {a b : Int32} (h : b.toInt ≠ 0) : zNan (FP.ddiv (FP.i2d a) (FP.i2d b)) = true := by
  have hb : b ≠ 0 := fun e => h (by rw [e]; rfl)
  have h1 : FP.dIsNaN (FP.ddiv (FP.i2d a) (FP.i2d b)) = false := FP.Core.ddiv_out ((FP.Core.notNaN_iff _).mpr (FP.Core.i2d_fin a).ne_nan) (FP.Core.i2d_fin b) (fun z => FP.Core.i2d_ne_zero hb ((FP.Core.zero_bits2 _).mp z))
  exact zNan_of h1
theorem dNan2 {y : UInt64} (h : zNan y = true) : zNan (FP.dmul (UInt64.ofNat d64.toNat) y) = true := by
  have h0 : FP.Core.DFin (UInt64.ofNat d64.toNat) := (FP.Core.fin_bits _).mpr (by decide)
  have hz : ¬ FP.Core.DZero (UInt64.ofNat d64.toNat) := fun z => absurd ((FP.Core.zero_bits2 _).mp z) (by decide)
  have hy := zNan_to h
  have h1 : FP.dIsNaN (FP.dmul (UInt64.ofNat d64.toNat) y) = false := by
    refine (Bool.eq_false_iff).mpr (fun z => ?_)
    rcases (FP.Core.dmul_nan_iff _ _).mp z with q | q | ⟨s, q1, q2⟩ | ⟨s, q1, q2⟩
    · exact h0.ne_nan q
    · exact (FP.Core.notNaN_iff _).mp hy q
    · exact h0.ne_inf _ q1
    · exact hz q1
  exact zNan_of h1
section sXok
variable {W : tWd} {Wr : List (Nat × Nat)} {hb ub : Nat} {ρ ρ0 : List Nat} {ν : List Value} {S : sS} {lv : List (Nat × Value)} {st : List Value} {h h0 : List zC} {u : Nat} {succ : List (Nat × sS)} {pc a k ro : Nat} {N mc ms : Int}
/-- what is next of all that may be next -/
def sXt (W : tWd) (Wr : List (Nat × Nat)) (N : Int) (hb ub : Nat) (ρ0 ρ : List Nat) (ν : List Value) (h0 : List zC) (lv : List (Nat × Value)) (succ : List (Nat × sS)) (z : zOx) : Prop := ∃ os, z = some os ∧ ∀ o ∈ os, ∃ ρ' ν' S' M, N ≤ M ∧ (o.1, S') ∈ succ ∧ nExt ν ν' ∧ gA hb ub ρ' ν' S' lv o.2.1 o.2.2.1 o.2.2.2 ∧ tHeap W M ρ' o.2.2.1 ∧ gFr Wr ρ0 h0 o.2.2.1 ∧ gPre hb ρ0 ρ'
theorem sXt_one {pc' : Nat} {st' : List Value} {h' : List zC} {u' : Nat} {ρ' : List Nat} {ν' : List Value} {S' : sS} {M : Int} (hM : N ≤ M) (e1 : (pc', S') ∈ succ) (e2 : nExt ν ν') (e3 : gA hb ub ρ' ν' S' lv st' h' u') (e4 : tHeap W M ρ' h') (e5 : gFr Wr ρ0 h0 h') (e6 : gPre hb ρ0 ρ') : sXt W Wr N hb ub ρ0 ρ ν h0 lv succ (some [(pc', st', h', u')]) :=
  ⟨_, rfl, fun o ho => by
    rw [List.mem_singleton] at ho
    subst ho
    exact ⟨ρ', ν', S', M, hM, e1, e2, e3, e4, e5, e6⟩⟩
theorem sJmp_ok {off : Int} {r : List Value} {S' : sS} {y : Bool} (h0' : 0 ≤ (pc : Int) + off) (e1 : (sTgt pc off y, S') ∈ succ) (e3 : gA hb ub ρ ν S' lv r h u) (e4 : tHeap W N ρ h) (e5 : gFr Wr ρ0 h0 h) (e6 : gPre hb ρ0 ρ) : sXt W Wr N hb ub ρ0 ρ ν h0 lv succ (if y = true then zJmp pc off r h u else some [(pc + 3, r, h, u)]) := by
  unfold sTgt at e1
  cases y with
  | true =>
    rw [if_pos rfl]
    unfold zJmp
    rw [if_pos h0']
    exact sXt_one (Int.le_refl _) e1 (nExt.refl ν) e3 e4 e5 e6
  | false => exact sXt_one (Int.le_refl _) e1 (nExt.refl ν) e3 e4 e5 e6
theorem sIfn_ok {y : Bool} {off : Int} (ha : sIfn y pc off S = some succ) (hA : gA hb ub ρ ν S lv st h u) (hH : tHeap W N ρ h) (hF : gFr Wr ρ0 h0 h) (hP : gPre hb ρ0 ρ) : sXt W Wr N hb ub ρ0 ρ ν h0 lv succ (zIfn y pc off st h u) := by
  unfold sIfn at ha
  split at ha
  · rename_i o r hs
    split at ha
    · rename_i h0'
      have hT0 := hA.2.2.1
      rw [hs] at hT0
      obtain ⟨vo, st1, rfl, eo, hT⟩ := hT0.inv
      have hv := hA.1.2 _ _ eo
      have nul : ∀ S', (sTgt pc off y, S') ∈ succ → gA hb ub ρ ν S' lv st1 h u → sXt W Wr N hb ub ρ0 ρ ν h0 lv succ (zIfn y pc off (.null :: st1) h u) := fun S' e1 e2 => by
        unfold zIfn
        exact sJmp_ok h0' e1 e2 hH hF hP
      have non : ∀ i S', (sTgt pc off (!y), S') ∈ succ → gA hb ub ρ ν S' lv st1 h u → sXt W Wr N hb ub ρ0 ρ ν h0 lv succ (zIfn y pc off (.ref i :: st1) h u) := fun i S' e1 e2 => by
        unfold zIfn
        have := sJmp_ok (y := !y) (Wr := Wr) (ρ0 := ρ0) (h0 := h0) h0' e1 e2 hH hF hP
        cases y <;> exact this
      split at ha
      · rename_i c
        cases ha
        unfold tHas at hv
        rw [c] at hv
        cases hv
        exact nul _ List.mem_cons_self ⟨hA.1, hA.2.1, hT, hA.2.2.2⟩
      · split at ha
        · rename_i c
          cases ha
          obtain ⟨i, rfl, -⟩ := hA.ref eo c
          exact non i _ List.mem_cons_self ⟨hA.1, hA.2.1, hT, hA.2.2.2⟩
        · split at ha
          · rename_i c
            cases ha
            unfold tHas at hv
            rw [c] at hv
            rcases hv with rfl | ⟨i, rfl, hi⟩
            · exact nul _ List.mem_cons_self ⟨hA.1.set (fun v q => by rw [eo] at q; cases q; rfl), hA.2.1, hT, hA.2.2.2⟩
            · exact non i _ (List.mem_cons_of_mem _ List.mem_cons_self) ⟨hA.1.set (fun v q => by rw [eo] at q; cases q; exact ⟨i, rfl, hi⟩), hA.2.1, hT, hA.2.2.2⟩
          · cases ha
    · cases ha
  · cases ha
theorem sAcm_ok {y : Bool} {off : Int} (ha : sAcm W y pc off S = some succ) (hA : gA hb ub ρ ν S lv st h u) (hH : tHeap W N ρ h) (hF : gFr Wr ρ0 h0 h) (hP : gPre hb ρ0 ρ) : sXt W Wr N hb ub ρ0 ρ ν h0 lv succ (zAcm y pc off st h u) := by
  unfold sAcm at ha
  split at ha
  · rename_i b a r hs
    split at ha
    · rename_i c
      obtain ⟨h0', ca, cb⟩ := c
      have hT0 := hA.2.2.1
      rw [hs] at hT0
      obtain ⟨vb, st1, rfl, eb, hT1⟩ := hT0.inv
      obtain ⟨va, st2, rfl, ea, hT⟩ := hT1.inv
      obtain ⟨p, rfl, hp⟩ := hA.ref ea ca
      obtain ⟨q, rfl, hq⟩ := hA.ref eb cb
      unfold zAcm
      dsimp only
      split at ha
      · rename_i e
        split at ha
        · rename_i c2
          cases ha
          have p1 := (hH.2.2.2.1 p _ hp).2.1 c2.1 c2.2.1 c2.2.2
          have q1 := (hH.2.2.2.1 q _ hq).2.1 (by omega) (by omega) (by omega)
          rw [if_pos (show p = q from p1.trans (e.trans q1.symm))]
          exact sJmp_ok h0' List.mem_cons_self ⟨hA.1, hA.2.1, hT, hA.2.2.2⟩ hH hF hP
        · cases ha
      · rename_i e
        split at ha
        · rename_i c2
          cases ha
          have hne : ¬ p = q := fun z => by
            subst z
            rw [hp] at hq
            exact e (Option.some.inj hq)
          have fr : ∀ x r : Nat, ρ[x]? = some r → zfr r → zfr x := fun x r hr hz => by
            have q := (hH.2.2.2.1 x r hr).2.2
            refine ⟨fun e => ?_, fun e => ?_⟩
            · exact hz.1 ((q (by omega)).trans e)
            · exact hz.2 ((q (by omega)).trans e)
          rw [if_neg hne, if_pos ⟨c2.1.imp (low_ok hH hp) (low_ok hH hq), fr _ _ hp c2.2.1, fr _ _ hq c2.2.2⟩]
          have := sJmp_ok (succ := [(sTgt pc off (!y), (S.1, S.2.1, r, S.2.2.2))]) (y := !y) (Wr := Wr) (ρ0 := ρ0) (h0 := h0) h0' List.mem_cons_self (⟨hA.1, hA.2.1, hT, hA.2.2.2⟩ : gA hb ub ρ ν (S.1, S.2.1, r, S.2.2.2) lv st2 h u) hH hF hP
          cases y <;> exact this
        · cases ha
    · cases ha
  · cases ha
theorem sPushX_ok {pc' : Nat} {t : tT} {T : List Nat} {st' : List Value} {g : List sF} {v : Value} (ha : sPush S pc' t T g = some succ) (hA : gA hb ub ρ ν S lv st h u) (hH : tHeap W N ρ h) (hF : gFr Wr ρ0 h0 h) (hP : gPre hb ρ0 ρ) (hT : gSt ν T st') (hv : tHas ρ t v) (hg : ∀ f ∈ g, fHold hb (ν ++ [v]) h f) : sXt W Wr N hb ub ρ0 ρ ν h0 lv succ (some [(pc', v :: st', h, u)]) := by
  obtain ⟨pc2, lv2, st2, e1, ν', S', e2, e3, e4⟩ := sPush_ok (lv := lv) ha hA hT hv hg
  cases e1
  exact sXt_one (Int.le_refl _) e2 e3 e4 hH hF hP
theorem sDd_ok (ha : sDd pc S = some succ) (hA : gA hb ub ρ ν S lv st h u) (hH : tHeap W N ρ h) (hF : gFr Wr ρ0 h0 h) (hP : gPre hb ρ0 ρ) : sXt W Wr N hb ub ρ0 ρ ν h0 lv succ (zDb FP.ddiv pc st h u) := by
  unfold sDd at ha
  split at ha
  · rename_i y x r hs
    split at ha
    · rename_i c
      obtain ⟨c1, c2⟩ := c
      have hT0 := hA.2.2.1
      rw [hs] at hT0
      obtain ⟨vy, st1, rfl, ey, hT1⟩ := hT0.inv
      obtain ⟨vx, st2, rfl, ex, hT⟩ := hT1.inv
      obtain ⟨f, hf, c1⟩ := List.any_eq_true.mp c1
      obtain ⟨f1, f2⟩ := Bool.and_eq_true_iff.mp c1
      obtain ⟨g, hg, c2⟩ := List.any_eq_true.mp c2
      obtain ⟨g1, g2⟩ := Bool.and_eq_true_iff.mp c2
      obtain ⟨g2, g3⟩ := Bool.and_eq_true_iff.mp g2
      have F := hA.2.2.2.1 f hf
      have G := hA.2.2.2.1 g hg
      unfold fHold at F G
      rw [show f.1 = 10 by simpa using f1] at F
      rw [show g.1 = 10 by simpa using g1] at G
      obtain ⟨i, -, e1⟩ := F
      obtain ⟨j, e2, e3⟩ := G
      rw [show f.2.1 = x by simpa using f2, ex] at e1
      rw [show g.2.1 = y by simpa using g2, ey] at e3
      cases e1
      cases e3
      have hj : j.toInt ≠ 0 := by
        rcases Bool.or_eq_true_iff.mp g3 with g3 | g3
        · obtain ⟨g3, g4⟩ := Bool.and_eq_true_iff.mp g3
          have g4 := of_decide_eq_true g4
          obtain ⟨j2, e4, j1, -⟩ := hA.int e2 (by simpa using g3)
          cases e4
          omega
        · obtain ⟨k, hk, g3⟩ := List.any_eq_true.mp g3
          obtain ⟨k1, k2⟩ := Bool.and_eq_true_iff.mp g3
          have K := hA.2.2.2.1 k hk
          unfold fHold at K
          rw [show k.1 = 13 by simpa using k1] at K
          obtain ⟨z, z1, z2⟩ := K
          rw [show k.2.1 = g.2.2.1 by simpa using k2, e2] at z1
          cases z1
          exact z2
      have hn := dNan1 (a := i) (b := j) hj
      unfold zDb
      dsimp only
      rw [if_pos hn]
      exact sPushX_ok ha hA hH hF hP hT ⟨_, rfl⟩ (fun f hf => by
        simp only [List.mem_cons, List.not_mem_nil, or_false] at hf
        subst hf
        exact ⟨_, hA.new _, hn⟩)
    · cases ha
  · cases ha
theorem sDm_ok (ha : sDm pc S = some succ) (hA : gA hb ub ρ ν S lv st h u) (hH : tHeap W N ρ h) (hF : gFr Wr ρ0 h0 h) (hP : gPre hb ρ0 ρ) : sXt W Wr N hb ub ρ0 ρ ν h0 lv succ (zDb FP.dmul pc st h u) := by
  unfold sDm at ha
  split at ha
  · rename_i y x r hs
    split at ha
    · rename_i c
      obtain ⟨c1, c2⟩ := c
      have hT0 := hA.2.2.1
      rw [hs] at hT0
      obtain ⟨vy, st1, rfl, ey, hT1⟩ := hT0.inv
      obtain ⟨vx, st2, rfl, ex, hT⟩ := hT1.inv
      obtain ⟨f, hf, c1⟩ := List.any_eq_true.mp c1
      obtain ⟨f1, f2⟩ := Bool.and_eq_true_iff.mp c1
      obtain ⟨f2, f3⟩ := Bool.and_eq_true_iff.mp f2
      obtain ⟨g, hg, c2⟩ := List.any_eq_true.mp c2
      obtain ⟨g1, g2⟩ := Bool.and_eq_true_iff.mp c2
      have F := hA.2.2.2.1 f hf
      have G := hA.2.2.2.1 g hg
      unfold fHold at F G
      rw [show f.1 = 11 by simpa using f1] at F
      rw [show g.1 = 9 by simpa using g1] at G
      obtain ⟨j, e2, e3⟩ := G
      rw [show f.2.1 = x by simpa using f2, ex, of_decide_eq_true f3] at F
      rw [show g.2.1 = y by simpa using g2, ey] at e2
      cases F
      cases e2
      have hn := dNan2 e3
      unfold zDb
      dsimp only
      rw [if_pos hn]
      exact sPushX_ok ha hA hH hF hP hT ⟨_, rfl⟩ (fun f hf => by
        simp only [List.mem_cons, List.not_mem_nil, or_false] at hf
        subst hf
        exact ⟨_, hA.new _, hn⟩)
    · cases ha
  · cases ha
theorem sEnd_ok {dp n l : Nat} {p m x : Int32} (hA : gA hb ub ρ ν S lv st h u) (he : sEnd S dp n l = true) (ep : ν[dp]? = some (.int p)) (en : ν[n]? = some (.int m)) (ex : ν[l]? = some (.int x)) : p.toInt + m.toInt ≤ x.toInt := by
  unfold sEnd at he
  rcases Bool.or_eq_true_iff.mp he with he | he
  · obtain ⟨h1, h2⟩ := Bool.and_eq_true_iff.mp he
    have h1 := of_decide_eq_true h1
    have := sCst hA ep h1
    have := dOk_ok hA.1 hA.2.2.2.1 h2 en ex
    omega
  · obtain ⟨f, hf, he⟩ := List.any_eq_true.mp he
    obtain ⟨h1, he⟩ := Bool.and_eq_true_iff.mp he
    obtain ⟨h2, h3⟩ := Bool.and_eq_true_iff.mp he
    have F := hA.2.2.2.1 f hf
    unfold fHold at F
    rw [show f.1 = 12 by simpa using h1] at F
    obtain ⟨t, x2, y2, e1, e2, e3, e4⟩ := F
    have := dOk_ok hA.1 hA.2.2.2.1 h3 e2 ex
    rcases Bool.or_eq_true_iff.mp h2 with h2 | h2
    · obtain ⟨q1, q2⟩ := Bool.and_eq_true_iff.mp h2
      rw [show f.2.1 = dp by simpa using q1, ep] at e1
      rw [show f.2.2.2.1 = n by simpa using q2, en] at e3
      cases e1
      cases e3
      omega
    · obtain ⟨q1, q2⟩ := Bool.and_eq_true_iff.mp h2
      rw [show f.2.1 = n by simpa using q1, en] at e1
      rw [show f.2.2.2.1 = dp by simpa using q2, ep] at e3
      cases e1
      cases e3
      omega
theorem gCo_set {C : Int × Int × List (Int × Int × Nat)} {q : Nat} {c' : zC} (H : gCo hb ub ν h u C) : gCo hb ub ν (h.set q c') u C := by
  unfold gCo at H ⊢
  rw [List.length_set]
  exact H
theorem tCatX_ok {E : List tT} {s : Nat} {v : Value} (hE : gEn ρ ν E) (hs : ν[s]? = some v) : v.category ≤ tCat (sGet E s) := by
  unfold tCat
  split
  · rename_i q
    rw [tHas_narr (hE.2 _ _ hs) q]
    exact Nat.le_refl _
  · cases v <;> simp [Value.category]
theorem sCatsX_ok {E : List tT} (hE : gEn ρ ν E) : ∀ {T : List Nat} {st : List Value}, gSt ν T st → (st.map (fun v => v.category)).sum ≤ sCats E T
  | [], [], _ => Nat.le_refl _
  | s :: T, v :: st, hT => by
    obtain ⟨w, st', e, hs, hT⟩ := hT.inv
    cases e
    have h1 := tCatX_ok hE hs
    have h2 := sCatsX_ok hE hT
    unfold sCats at h2 ⊢
    simp only [List.map_cons, List.sum_cons]
    omega
  | [], _ :: _, hT => by cases hT
  | _ :: _, [], hT => by cases hT
/-- a cell's contents are changed, not its length -/
theorem tHeap.setL {q r : Nat} {c : zC} {l' : List Value} (H : tHeap W N ρ h) (hlk : wTop W (wA W) = true) (hq : h[q]? = some c) (hr : ρ[q]? = some r) (hk : wTop W r = false) (hlen : l'.length = c.2.length) (hv : ∀ R, wR W r = some R → ∀ (k : Nat) (v : Value), l'[k]? = some v → tVal N ρ (tFd R k) v)
    (hL : ∀ l ∈ wLs W, l.2.1 = r → ∀ (n : Int32), n.toInt ≤ c.2.length → (∀ i : Nat, (i : Int) < n.toInt → ∃ e : Nat, c.2[i]? = some (.ref e) ∧ ρ[e]? = some l.2.2) → ∀ i : Nat, (i : Int) < n.toInt → ∃ e : Nat, l'[i]? = some (.ref e) ∧ ρ[e]? = some l.2.2) (hI : tIs ρ (h.set q (c.1, l'))) : tHeap W N ρ (h.set q (c.1, l')) := by
  obtain ⟨h1, h2, h3, h4, h5, h6, h7, -⟩ := H
  have hlt := (List.getElem?_eq_some_iff.mp hq).1
  have hself : (h.set q (c.1, l'))[q]? = some (c.1, l') := List.getElem?_set_self hlt
  refine ⟨by rw [List.length_set]; exact h1, by rw [List.length_set]; exact h2, fun i ci ri Ri hi hri hRi => ?_, h4, fun l hl a ca ha hca => ?_, fun a ca ha hca => ?_, fun i ci hi => ?_, hI⟩
  · by_cases e : q = i
    · subst e
      rw [hself] at hi
      cases hi
      cases hr.symm.trans hri
      obtain ⟨g1, g2, g3⟩ := h3 q c r Ri hq hr hRi
      exact ⟨g1, by show tLenOk Ri l'.length; rw [hlen]; exact g2, hv Ri hRi⟩
    · rw [List.getElem?_set_ne e] at hi
      exact h3 i ci ri Ri hi hri hRi
  · have hne : q ≠ a := fun z => wTop_no hk l hl (by rw [← z, hr] at ha; cases ha; rfl)
    rw [List.getElem?_set_ne hne] at hca
    obtain ⟨p, n, g1, g4, g5, g2⟩ := h5 l hl a ca ha hca
    refine ⟨p, n, g1, g4, g5, ?_⟩
    rcases g2 with g2 | ⟨g2, cp, g3, g6, g7⟩
    · exact Or.inl g2
    right
    refine ⟨g2, ?_⟩
    by_cases e : q = p
    · subst e
      rw [hq] at g3
      cases g3
      rw [hr] at g2
      cases g2
      exact ⟨_, hself, by show n.toInt ≤ (l'.length : Int); rw [hlen]; exact g6, hL l hl rfl n g6 g7⟩
    · exact ⟨cp, by rw [List.getElem?_set_ne e]; exact g3, g6, g7⟩
  · have hne : q ≠ a := fun z => by
      rw [← z, hr] at ha
      cases ha
      rw [hk] at hlk
      cases hlk
    rw [List.getElem?_set_ne hne] at hca
    exact h6 a ca ha hca
  · by_cases e : q = i
    · subst e
      rw [hself] at hi
      cases hi
      show ((l'.length : Nat) : Int) ≤ tMax
      rw [hlen]
      exact h7 q c hq
    · rw [List.getElem?_set_ne e] at hi
      exact h7 i ci hi
theorem fSetL {f : sF} {q : Nat} {c : zC} {l' : List Value} (H : fHold hb ν h f) (hq : h[q]? = some c) (hlen : l'.length = c.2.length) (h2 : f.1 = 2 → ν[f.2.1]? = some (.ref q) → False) (h4 : f.1 = 4 → ν[f.2.1]? = some (.ref q) → False) (h8 : f.1 = 8 ∨ f.1 = 18 → (ν[f.2.1]? = some (.ref q) ∨ ν[f.2.2.1]? = some (.ref q)) → False) (h14 : f.1 = 14 ∨ f.1 = 15 ∨ f.1 = 16 → ν[f.2.1]? = some (.ref q) → False) : fHold hb ν (h.set q (c.1, l')) f := by
  have hlt := (List.getElem?_eq_some_iff.mp hq).1
  unfold fHold at H ⊢
  split at H
  · exact H
  · exact H
  · rename_i e0
    obtain ⟨b, d, w, e1, e2, e3, e4⟩ := H
    by_cases e : q = b
    · subst e
      exact (h2 e0 e1).elim
    · exact ⟨b, d, w, e1, by rw [List.getElem?_set_ne e]; exact e2, e3, e4⟩
  · obtain ⟨b, d, x, e1, e2, e3, e4⟩ := H
    by_cases e : q = b
    · subst e
      rw [hq] at e2
      cases e2
      exact ⟨q, _, x, e1, List.getElem?_set_self hlt, e3, by show x.toInt = ((l'.length : Nat) : Int); rw [hlen]; exact e4⟩
    · exact ⟨b, d, x, e1, by rw [List.getElem?_set_ne e]; exact e2, e3, e4⟩
  · rename_i e0
    obtain ⟨b, d, x, w, e1, e2, e3⟩ := H
    by_cases e : q = b
    · subst e
      exact (h4 e0 e1).elim
    · exact ⟨b, d, x, w, e1, by rw [List.getElem?_set_ne e]; exact e2, e3⟩
  · exact H
  · exact H
  · exact H
  · rename_i e0
    obtain ⟨b, d, b2, d2, x, e1, e2, e3, e4, e5⟩ := H
    have n1 : ¬ q = b := fun z => h8 (Or.inl e0) (Or.inl (by rw [z]; exact e1))
    have n2 : ¬ q = b2 := fun z => h8 (Or.inl e0) (Or.inr (by rw [z]; exact e3))
    exact ⟨b, d, b2, d2, x, e1, by rw [List.getElem?_set_ne n1]; exact e2, e3, by rw [List.getElem?_set_ne n2]; exact e4, e5⟩
  · exact H
  · exact H
  · exact H
  · exact H
  · exact H
  · rename_i e0
    obtain ⟨b, d, x, y, e1, e2, e3⟩ := H
    have n1 : ¬ q = b := fun z => h14 (Or.inl e0) (by rw [z]; exact e1)
    exact ⟨b, d, x, y, e1, by rw [List.getElem?_set_ne n1]; exact e2, e3⟩
  · rename_i e0
    obtain ⟨b, d, e1, e2, e3⟩ := H
    have n1 : ¬ q = b := fun z => h14 (Or.inr (Or.inl e0)) (by rw [z]; exact e1)
    exact ⟨b, d, e1, by rw [List.getElem?_set_ne n1]; exact e2, e3⟩
  · rename_i e0
    obtain ⟨b, d, y, e1, e2, e3⟩ := H
    have n1 : ¬ q = b := fun z => h14 (Or.inr (Or.inr e0)) (by rw [z]; exact e1)
    exact ⟨b, d, y, e1, by rw [List.getElem?_set_ne n1]; exact e2, e3⟩
  · exact H
  · rename_i e0
    obtain ⟨b, b2, d, d2, e1, e2, e3, e4, e5⟩ := H
    have n1 : ¬ q = b := fun z => h8 (Or.inr e0) (Or.inl (by rw [z]; exact e1))
    have n2 : ¬ q = b2 := fun z => h8 (Or.inr e0) (Or.inr (by rw [z]; exact e3))
    exact ⟨b, b2, d, d2, e1, by rw [List.getElem?_set_ne n1]; exact e2, e3, by rw [List.getElem?_set_ne n2]; exact e4, e5⟩
  · exact H
  · trivial
theorem keepAL {q r : Nat} {c : zC} {l' : List Value} (hA : gA hb ub ρ ν S lv st h u) (hq : h[q]? = some c) (hr : ρ[q]? = some r) (hlen : l'.length = c.2.length) : ∀ f ∈ S.2.2.2.1.filter (fKeepA S.1 r), fHold hb ν (h.set q (c.1, l')) f := by
  intro f hf
  obtain ⟨hf, hk⟩ := List.mem_filter.mp hf
  unfold fKeepA at hk
  refine fSetL (hA.2.2.2.1 f hf) hq hlen (fun e1 e2 => ?_) (fun e1 e2 => ?_) (fun e1 e2 => ?_) (fun e1 e2 => ?_)
  · rw [if_pos e1] at hk
    exact sNot_ok hA hk e2 hr
  · rw [if_neg (by omega), if_pos e1] at hk
    exact sNot_ok hA hk e2 hr
  · rw [if_neg (by omega), if_neg (by omega), if_pos e1] at hk
    obtain ⟨k1, k2⟩ := Bool.and_eq_true_iff.mp hk
    rcases e2 with e2 | e2
    · exact sNot_ok hA k1 e2 hr
    · exact sNot_ok hA k2 e2 hr
  · rw [if_neg (by omega), if_neg (by omega), if_neg (by omega), if_pos e1] at hk
    exact sNot_ok hA hk e2 hr
theorem gFr.setL {q : Nat} {c : zC} {l' : List Value} (H : gFr Wr ρ0 h0 h) (hq : h[q]? = some c) (hlen : l'.length = c.2.length) (hw : h0.length ≤ q ∨ ∃ r, ρ0[q]? = some r ∧ wIn Wr r 999 = true) : gFr Wr ρ0 h0 (h.set q (c.1, l')) := fun a d ha => by
  obtain ⟨c', e1, e2, e3, e4⟩ := H a d ha
  by_cases e : q = a
  · subst e
    rw [hq] at e1
    cases e1
    refine ⟨_, List.getElem?_set_self (List.getElem?_eq_some_iff.mp hq).1, e2, by show l'.length = _; rw [hlen]; exact e3, fun r hr j hj => ?_⟩
    rcases hw with hw | ⟨r2, hw1, hw2⟩
    · have := (List.getElem?_eq_some_iff.mp ha).1
      omega
    · rw [hr] at hw1
      cases hw1
      unfold wIn at hw2 hj
      obtain ⟨w, w1, w2⟩ := List.any_eq_true.mp hw2
      have := List.any_eq_false.mp hj w w1
      obtain ⟨w3, w4⟩ := Bool.and_eq_true_iff.mp w2
      rw [w3] at this
      have w5 : w.2 = 999 := by simpa using w4
      rw [w5] at this
      simp at this
  · exact ⟨c', by rw [List.getElem?_set_ne e]; exact e1, e2, e3, e4⟩
theorem zCpy_at {f g : List Value} {sp dp n k : Nat} {v : Value} (hs : sp + n ≤ f.length) (h : (zCpy f g sp dp n)[k]? = some v) : (dp ≤ k ∧ k < dp + n ∧ f[sp + (k - dp)]? = some v) ∨ (¬ (dp ≤ k ∧ k < dp + n) ∧ g[k]? = some v) := by
  have hlt := (List.getElem?_eq_some_iff.mp h).1
  rw [zCpy_len] at hlt
  have e := zCpy_get (f := f) (g := g) (sp := sp) (dp := dp) (n := n) hlt
  rw [List.getD_eq_getElem?_getD, h] at e
  dsimp only [Option.getD_some] at e
  split at e
  · rename_i q
    refine Or.inl ⟨q.1, q.2, ?_⟩
    rw [List.getElem?_eq_getElem (by omega), e, List.getD_eq_getElem?_getD, List.getElem?_eq_getElem (by omega)]
    rfl
  · rename_i q
    refine Or.inr ⟨q, ?_⟩
    rw [List.getElem?_eq_getElem hlt, e, List.getD_eq_getElem?_getD, List.getElem?_eq_getElem hlt]
    rfl
theorem zCpy_in {f g : List Value} {sp dp n k : Nat} (hk : k < g.length) (h1 : dp ≤ k) (h2 : k < dp + n) (hs : sp + n ≤ f.length) : (zCpy f g sp dp n)[k]? = f[sp + (k - dp)]? := by
  have e := zCpy_get (f := f) (g := g) (sp := sp) (dp := dp) (n := n) hk
  rw [if_pos ⟨h1, h2⟩] at e
  rw [List.getElem?_eq_getElem (by rw [zCpy_len]; exact hk), List.getElem?_eq_getElem (by omega)]
  rw [List.getD_eq_getElem?_getD, List.getElem?_eq_getElem (by rw [zCpy_len]; exact hk), List.getD_eq_getElem?_getD, List.getElem?_eq_getElem (by omega)] at e
  exact congrArg some e
theorem sBel_ok {q rq n b : Nat} {m : Int32} {c : zC} (hA : gA hb ub ρ ν S lv st h u) (hH : tHeap W N ρ h) (hs : sBel W S q rq n = true) (en : ν[n]? = some (.int m)) (eq : ν[q]? = some (.ref b)) (hq : h[b]? = some c) : ∃ l ∈ wLs W, l.2.1 = rq ∧ (∀ l2 ∈ wLs W, l2.2.1 = rq → l2.2.2 = l.2.2) ∧ ∀ i : Nat, (i : Int) < m.toInt → ∃ e : Nat, c.2[i]? = some (.ref e) ∧ ρ[e]? = some l.2.2 := by
  unfold sBel at hs
  obtain ⟨l, hl, hs⟩ := List.any_eq_true.mp hs
  obtain ⟨k0, hs⟩ := Bool.and_eq_true_iff.mp hs
  obtain ⟨k0, k9⟩ := Bool.and_eq_true_iff.mp k0
  have k0 : l.2.1 = rq := by simpa using k0
  obtain ⟨f, hf, hs⟩ := List.any_eq_true.mp hs
  obtain ⟨f1, hs⟩ := Bool.and_eq_true_iff.mp hs
  obtain ⟨f2, hs⟩ := Bool.and_eq_true_iff.mp hs
  obtain ⟨f3, hs⟩ := Bool.and_eq_true_iff.mp hs
  obtain ⟨f4, hs⟩ := Bool.and_eq_true_iff.mp hs
  obtain ⟨f5, hs⟩ := Bool.and_eq_true_iff.mp hs
  refine ⟨l, hl, k0, fun l2 hl2 e2 => ?_, ?_⟩
  · have := List.all_eq_true.mp k9 l2 hl2
    rw [show (l2.2.1 == l.2.1) = true by rw [k0, e2]; simp] at this
    simpa using this
  split at hs
  · rename_i s hfs
    have F := hA.2.2.2.1 f hf
    unfold fHold at F
    rw [show f.1 = 2 by simpa using f1] at F
    obtain ⟨a, ca, v0, e1, e2, e3, e4⟩ := F
    rw [show f.2.2.2.1 = q by simpa using f3, eq] at e4
    cases e4
    obtain ⟨a2, q1, q2⟩ := hA.ref e1 (by simpa using f4)
    cases q1
    rw [show (sGet S.1 f.2.1).2.1.toNat = l.1 by simpa using f5] at q2
    obtain ⟨p, x, g1, g4, g5, g2⟩ := hH.2.2.2.2.1 l hl _ ca q2 e2
    rw [show f.2.2.1 = wEd W by simpa using f2, g1] at e3
    cases e3
    obtain ⟨a3, ca3, v3, h1, h2, h3, h4⟩ := sFld_ok hA hfs
    rw [e1] at h1
    cases h1
    rw [e2] at h2
    cases h2
    rw [g4] at h3
    cases h3
    have hd := dOk_ok hA.1 hA.2.2.2.1 hs en h4
    intro i hi
    rcases g2 with ⟨-, g2⟩ | ⟨-, cp, g3, g6, g7⟩
    · omega
    · rw [hq] at g3
      cases g3
      exact g7 i (by omega)
  · cases hs
set_option maxHeartbeats 2000000 in
theorem sArc_ok (hlk : wTop W (wA W) = true) (ha : sArc W Wr pc S = some succ) (hA : gA hb ub ρ ν S lv st h u) (hH : tHeap W N ρ h) (hF : gFr Wr ρ0 h0 h) (hP : gPre hb ρ0 ρ) (hh : h0.length = hb) : sXt W Wr N hb ub ρ0 ρ ν h0 lv succ (zArc pc st h u) := by
  unfold sArc at ha
  split at ha
  · rename_i n dp d sp q r hs
    split at ha
    · rename_i c
      obtain ⟨c1, c2, c3, c4, c5, c6, c7, c8, c9⟩ := c
      have hT0 := hA.2.2.1
      rw [hs] at hT0
      obtain ⟨vn, st1, rfl, en, hT1⟩ := hT0.inv
      obtain ⟨vdp, st2, rfl, edp, hT2⟩ := hT1.inv
      obtain ⟨vd, st3, rfl, ed, hT3⟩ := hT2.inv
      obtain ⟨vsp, st4, rfl, esp, hT4⟩ := hT3.inv
      obtain ⟨vq, st5, rfl, eq, hT5⟩ := hT4.inv
      obtain ⟨xn, rfl, n1, n2⟩ := hA.int en c1
      obtain ⟨xd, rfl, d1, d2⟩ := hA.int edp c2
      obtain ⟨xs, rfl, s1, s2⟩ := hA.int esp c3
      obtain ⟨ad, rfl, rd⟩ := hA.ref ed c4
      obtain ⟨aq, rfl, rq⟩ := hA.ref eq c5
      obtain ⟨cd, hcd⟩ := hH.role rd
      obtain ⟨cq, hcq⟩ := hH.role rq
      obtain ⟨i1, i2⟩ := ix_nat (j := xn) (by omega)
      obtain ⟨i3, i4⟩ := ix_nat (j := xd) (by omega)
      obtain ⟨i5, i6⟩ := ix_nat (j := xs) (by omega)
      have hcats : (st5.map (fun v => v.category)).sum ≤ 8 := Nat.le_trans (sCatsX_ok hA.1 hT5) c9
      split at ha
      · rename_i D Q ld lq hD hQ hld hlq
        split at ha
        · rename_i e
          obtain ⟨e1, e2, e3, e4, e5, e6, eI⟩ := e
          have hI : tIs ρ (h.set ad (cd.1, zCpy cq.2 cd.2 xs.toNatClampNeg xd.toNatClampNeg xn.toNatClampNeg)) := hH.2.2.2.2.2.2.2.skip rd eI.1 eI.2
          obtain ⟨e5, e7⟩ := Bool.and_eq_true_iff.mp e5
          have e5 := of_decide_eq_true e5
          obtain ⟨a2, k2, x2, t1, t2, t3, t4⟩ := sLen_ok hA hld
          rw [ed] at t1
          cases t1
          rw [hcd] at t2
          cases t2
          obtain ⟨a3, k3, x3, u1, u2, u3, u4⟩ := sLen_ok hA hlq
          rw [eq] at u1
          cases u1
          rw [hcq] at u2
          cases u2
          have l1 := sEnd_ok hA e1 edp en t3
          have l2 := sEnd_ok hA e2 esp en u3
          have hz := low_ok hH rd e5
          have hCd := hH.2.2.1 ad cd _ D hcd rd hD
          have hCq := hH.2.2.1 aq cq _ Q hcq rq hQ
          have b1 : xs.toNatClampNeg + xn.toNatClampNeg ≤ cq.2.length := by omega
          have b2 : xd.toNatClampNeg + xn.toNatClampNeg ≤ cd.2.length := by omega
          have hlen := zCpy_len cq.2 cd.2 xs.toNatClampNeg xd.toNatClampNeg xn.toNatClampNeg
          have hnw := sNw_ok hA hP hh e7 ed rd
          have hFr := hF.setL (l' := zCpy cq.2 cd.2 xs.toNatClampNeg xd.toNatClampNeg xn.toNatClampNeg) hcd hlen hnw
          have hdv : ∀ (f : fT), f.2.2.1 = 0 → ∀ v : Value, tHas ρ f.1 v → tVal N ρ f v := fun f f0 v hv => ⟨hv, by unfold gHas; rw [if_neg (by omega), if_neg (by omega)]; trivial⟩
          split at ha
          · rename_i f
            obtain ⟨f1, f2, f3, f4, f5⟩ := f
            cases ha
            have hval : ∀ (k : Nat) (v : Value), (zCpy cq.2 cd.2 xs.toNatClampNeg xd.toNatClampNeg xn.toNatClampNeg)[k]? = some v → tVal N ρ (tFd D k) v := fun k v hv => by
              rcases zCpy_at b1 hv with ⟨q1, q2, q3⟩ | ⟨-, q3⟩
              · have g1 := (hCq.2.2 _ v q3).1
                rw [fd_nil e4] at g1
                rw [fd_nil e3]
                exact hdv _ e6 v (tSub_ok f4 g1)
              · exact hCd.2.2 k v q3
            have hH2 := hH.setL hlk hcd rd (wLk_top f3) hlen (fun R2 z => by rw [hD] at z; cases z; exact hval) (fun l hl z => absurd z (wLk_no f3 l hl).2) hI
            have hAll : (List.range xn.toNatClampNeg).all (fun i => zTk h cd.1 (cq.2.getD (xs.toNatClampNeg + i) .null)) = true := by
              refine List.all_eq_true.mpr (fun i hi => ?_)
              have hi := List.mem_range.mp hi
              have g0 : cq.2[xs.toNatClampNeg + i]? = some cq.2[xs.toNatClampNeg + i] := List.getElem?_eq_getElem (by omega)
              have g1 := (hCq.2.2 _ _ g0).1
              rw [fd_nil e4] at g1
              obtain ⟨z, z1, z2, z3⟩ := tHas_int (tSub_ok f5 g1) rfl
              rw [List.getD_eq_getElem?_getD, g0]
              dsimp only [Option.getD_some]
              rw [z1]
              show (cd.1 == 101 && _) = true
              rw [hCd.1, f1]
              exact byI z2 z3
            unfold zArc
            dsimp only
            rw [hcq, hcd]
            dsimp only
            rw [if_pos ⟨hz, i5, i3, i1, b1, b2, Or.inl ⟨hCd.1.trans f1, f2.imp (fun z => hCq.1.trans z) (fun z => hCq.1.trans z)⟩, hAll, hcats⟩]
            exact sXt_one (Int.le_refl _) List.mem_cons_self (nExt.refl ν) ⟨hA.1, hA.2.1, hT5, keepAL hA hcd rd hlen, gCo_set hA.2.2.2.2⟩ hH2 hFr hP
          · split at ha
            · rename_i f
              obtain ⟨f1, f2, f3, f4, f5, f6, f7, f8, f9, f10⟩ := f
              cases ha
              have hDQ : D = Q := by rw [f4, hQ] at hD; exact (Option.some.inj hD).symm
              subst hDQ
              have z1 := sCst hA esp f6
              have z2 := sCst hA edp f7
              have y1 : xs.toNatClampNeg = 0 := by omega
              have y2 : xd.toNatClampNeg = 0 := by omega
              obtain ⟨l, hl, w1, w2, w3⟩ := sBel_ok hA hH f8 en eq hcq
              have inI : ∀ i : Nat, i < xn.toNatClampNeg → (zCpy cq.2 cd.2 xs.toNatClampNeg xd.toNatClampNeg xn.toNatClampNeg)[i]? = cq.2[i]? := fun i hi => by
                have g := zCpy_in (f := cq.2) (g := cd.2) (sp := xs.toNatClampNeg) (dp := xd.toNatClampNeg) (n := xn.toNatClampNeg) (k := i) (by omega) (by omega) (by omega) b1
                rw [g, show xs.toNatClampNeg + (i - xd.toNatClampNeg) = i by omega]
              have hval : ∀ (k : Nat) (v : Value), (zCpy cq.2 cd.2 xs.toNatClampNeg xd.toNatClampNeg xn.toNatClampNeg)[k]? = some v → tVal N ρ (tFd D k) v := fun k v hv => by
                rcases zCpy_at b1 hv with ⟨q1, q2, q3⟩ | ⟨-, q3⟩
                · have g1 := hCq.2.2 _ v q3
                  rw [fd_nil e4] at g1 ⊢
                  exact g1
                · exact hCd.2.2 k v q3
              have hH2 := hH.setL hlk hcd rd f3 hlen (fun R2 z => by rw [hD] at z; cases z; exact hval) (fun l3 hl3 z m hm hel i hi => by
                have e9 : l3.2.2 = l.2.2 := w2 l3 hl3 (by rw [z, f4])
                rcases Nat.lt_or_ge i xn.toNatClampNeg with p1 | p1
                · rw [inI i p1, e9]
                  exact w3 i (by omega)
                · obtain ⟨x, x1, x2⟩ := hel i hi
                  refine ⟨x, ?_, x2⟩
                  have hlt := (List.getElem?_eq_some_iff.mp x1).1
                  have e8 := zCpy_get (f := cq.2) (g := cd.2) (sp := xs.toNatClampNeg) (dp := xd.toNatClampNeg) (n := xn.toNatClampNeg) hlt
                  rw [if_neg (show ¬ (xd.toNatClampNeg ≤ i ∧ i < xd.toNatClampNeg + xn.toNatClampNeg) by omega), List.getD_eq_getElem?_getD, List.getD_eq_getElem?_getD, List.getElem?_eq_getElem (by rw [zCpy_len]; exact hlt), x1] at e8
                  rw [List.getElem?_eq_getElem (by rw [zCpy_len]; exact hlt)]
                  exact congrArg some e8) hI
              have hAll : (List.range xn.toNatClampNeg).all (fun i => zTk h cd.1 (cq.2.getD (xs.toNatClampNeg + i) .null)) = true := by
                refine List.all_eq_true.mpr (fun i hi => ?_)
                have hi := List.mem_range.mp hi
                obtain ⟨x, x1, x2⟩ := w3 i (by omega)
                rw [List.getD_eq_getElem?_getD, show xs.toNatClampNeg + i = i by omega, x1]
                obtain ⟨cx, hcx⟩ := hH.role x2
                have f99 := List.all_eq_true.mp f9 l hl
                rw [show (l.2.1 == (sGet S.1 q).2.1.toNat) = true by rw [w1]; simp] at f99
                simp only [Bool.not_true, Bool.false_or] at f99
                split at f99
                · rename_i V hV
                  have f99 := of_decide_eq_true f99
                  have hCx := hH.2.2.1 x cx _ V hcx x2 hV
                  show zTk h cd.1 (.ref x) = true
                  unfold zTk
                  dsimp only
                  rw [hcx]
                  dsimp only
                  rw [hCd.1, f1, hCx.1]
                  exact Bool.and_eq_true_iff.mpr ⟨rfl, decide_eq_true f99⟩
                · cases f99
              unfold zArc
              dsimp only
              rw [hcq, hcd]
              dsimp only
              rw [if_pos ⟨hz, i5, i3, i1, b1, b2, Or.inr ⟨hCd.1.trans f1, hCq.1.trans f2⟩, hAll, hcats⟩]
              refine sXt_one (Int.le_refl _) List.mem_cons_self (nExt.refl ν) ⟨hA.1, hA.2.1, hT5, fun f hf => ?_, gCo_set hA.2.2.2.2⟩ hH2 hFr hP
              rcases List.mem_cons.mp hf with rfl | hf
              · have hlt := (List.getElem?_eq_some_iff.mp hcd).1
                refine ⟨ad, _, aq, (if ad = aq then (cd.1, (zCpy cq.2 cd.2 xs.toNatClampNeg xd.toNatClampNeg xn.toNatClampNeg)) else cq), xn, ed, List.getElem?_set_self hlt, eq, ?_, en, fun i hi => ?_⟩
                · split
                  · rename_i z
                    rw [← z]
                    exact List.getElem?_set_self hlt
                  · rename_i z
                    rw [List.getElem?_set_ne z]
                    exact hcq
                · show (zCpy cq.2 cd.2 xs.toNatClampNeg xd.toNatClampNeg xn.toNatClampNeg)[i]? = _
                  split
                  · rfl
                  · exact inI i (by omega)
              · exact keepAL hA hcd rd hlen f hf
            · cases ha
        · cases ha
      · cases ha
    · cases ha
  · cases ha
theorem sCln_ok (hlk : wTop W (wA W) = true) (hmc : hb + mc ≤ zCM) (hms : ub + ms ≤ zSN) (ha : sCln W mc ms ro pc S = some succ) (hA : gA hb ub ρ ν S lv st h u) (hH : tHeap W N ρ h) (hF : gFr Wr ρ0 h0 h) (hP : gPre hb ρ0 ρ) : sXt W Wr N hb ub ρ0 ρ ν h0 lv succ (zCln pc st h u) := by
  unfold sCln at ha
  split at ha
  · rename_i q r hs
    split at ha
    · rename_i c
      obtain ⟨c1, c2⟩ := c
      have hT0 := hA.2.2.1
      rw [hs] at hT0
      obtain ⟨vq, st1, rfl, eq, hT⟩ := hT0.inv
      obtain ⟨aq, rfl, rq⟩ := hA.ref eq c1
      obtain ⟨cq, hcq⟩ := hH.role rq
      split at ha
      · rename_i Q R l hQ hR hl
        split at ha
        · rename_i d
          obtain ⟨d1, d2, d3, d4, d5, d6, d7, d8, d9, d10, d11⟩ := d
          have hCq := hH.2.2.1 aq cq _ Q hcq rq hQ
          obtain ⟨a3, k3, x3, u1, u2, u3, u4⟩ := sLen_ok hA hl
          rw [eq] at u1
          cases u1
          rw [hcq] at u2
          cases u2
          obtain ⟨x4, e4, v1, v2⟩ := hA.int u3 d10
          cases e4
          obtain ⟨r1, r2⟩ := sRoom_ok hA d11
          have hel : ∀ (k : Nat) (v : Value), cq.2[k]? = some v → tHas ρ Q.2.2.2.1 v := fun k v hv => by
            have g1 := (hCq.2.2 _ v hv).1
            rw [fd_nil d4] at g1
            exact g1
          have hL7 := hH.2.2.2.2.2.2.1 aq cq hcq
          have hAll : cq.2.all zIsI = true := by
            refine List.all_eq_true.mpr (fun v hv => ?_)
            obtain ⟨k, hk, rfl⟩ := List.mem_iff_getElem.mp hv
            obtain ⟨z, z1, z2, z3⟩ := tHas_int (tSub_ok d9 (hel k _ (List.getElem?_eq_getElem hk))) rfl
            rw [z1]
            exact byI z2 z3
          unfold zCln
          dsimp only
          rw [hcq]
          dsimp only
          rw [if_pos ⟨hCq.1.trans d1, by omega, by omega, hAll, Nat.le_trans (sCatsX_ok hA.1 hT) c2⟩]
          obtain ⟨ν', S', e1, e2, e3, e4, e5, e6⟩ := sMade_ok (c := (101, cq.2)) (n' := cq.2.length) (st' := st1) ha hlk hA hH hF hP hT d3.1 (fun R2 e => by
            rw [hR] at e
            cases e
            refine ⟨d2.symm, tMx_ok (x := (sGet S.1 l).2.2) (Or.inl d6) (Or.inl (show ((cq.2.length : Nat) : Int) ≤ (sGet S.1 l).2.2 by omega)), fun k v hv => ⟨?_, ?_⟩⟩
            · rw [fd_nil d5]
              exact (tSub_ok d8 (hel k v hv)).grow (rApp ρ ro)
            · rw [fd_nil d5]
              unfold gHas
              rw [if_neg (by omega), if_neg (by omega)]
              trivial) hL7 (fun z => by rw [d3.2] at z; cases z) (by omega) (fun f hf => by
            simp only [List.mem_cons, List.not_mem_nil, or_false] at hf
            subst hf
            exact ⟨h.length, _, x3, hA.new _, hNew h _, nExt_app _ _ _ _ u3, u4⟩)
          exact sXt_one (Int.le_refl _) e1 e2 e3 e4 e5 e6
        · cases ha
      · cases ha
    · cases ha
  · cases ha
theorem sGcl_ok (ha : sGcl W pc S = some succ) (hA : gA hb ub ρ ν S lv st h u) (hH : tHeap W N ρ h) (hF : gFr Wr ρ0 h0 h) (hP : gPre hb ρ0 ρ) : sXt W Wr N hb ub ρ0 ρ ν h0 lv succ (zGcl pc st h u) := by
  unfold sGcl at ha
  split at ha
  · rename_i q r hs
    split at ha
    · rename_i c
      obtain ⟨c1, c2⟩ := c
      have hT0 := hA.2.2.1
      rw [hs] at hT0
      obtain ⟨vq, st1, rfl, eq, hT⟩ := hT0.inv
      obtain ⟨aq, rfl, rq⟩ := hA.ref eq c1
      obtain ⟨cq, hcq⟩ := hH.role rq
      split at ha
      · rename_i Q hQ
        split at ha
        · rename_i d
          have hCq := hH.2.2.1 aq cq _ Q hcq rq hQ
          unfold zGcl
          dsimp only
          rw [hcq]
          dsimp only
          rw [if_pos ⟨hCq.1.trans d, Nat.le_trans (sCatsX_ok hA.1 hT) c2⟩]
          have hlt : 7 < ρ.length := by
            have := hH.1
            have := hH.2.1
            have hz : zro = 16 := rfl
            omega
          have hr : ρ[7]? = some ρ[7] := List.getElem?_eq_getElem hlt
          have he := (hH.2.2.2.1 7 _ hr).2.2 (by decide)
          exact sPushX_ok ha hA hH hF hP hT ⟨7, rfl, by rw [hr, he]; rfl⟩ nil_ok
        · cases ha
      · cases ha
    · cases ha
  · cases ha
theorem sCka_ok (ha : sCka W a pc S = some succ) (hA : gA hb ub ρ ν S lv st h u) (hH : tHeap W N ρ h) (hF : gFr Wr ρ0 h0 h) (hP : gPre hb ρ0 ρ) : sXt W Wr N hb ub ρ0 ρ ν h0 lv succ (zCka a pc st h u) := by
  unfold sCka at ha
  split at ha
  · rename_i q r hs
    split at ha
    · rename_i c
      obtain ⟨c1, c2⟩ := c
      have hT0 := hA.2.2.1
      rw [hs] at hT0
      obtain ⟨vq, st1, rfl, eq, hT⟩ := hT0.inv
      obtain ⟨aq, rfl, rq⟩ := hA.ref eq c1
      obtain ⟨cq, hcq⟩ := hH.role rq
      split at ha
      · rename_i Q hQ
        split at ha
        · rename_i d
          cases ha
          have hCq := hH.2.2.1 aq cq _ Q hcq rq hQ
          unfold zCka
          dsimp only
          rw [hcq]
          dsimp only
          rw [if_pos ⟨hCq.1.trans d, c2⟩]
          exact sXt_one (Int.le_refl _) List.mem_cons_self (nExt.refl ν) hA hH hF hP
        · cases ha
      · cases ha
    · cases ha
  · cases ha
theorem sHd_X {z : zOh} (hP : gPre hb ρ0 ρ) (hz : sHd (h := h) W Wr N hb ub ρ0 ρ ν h0 lv u succ z) : sXt W Wr N hb ub ρ0 ρ ν h0 lv succ (zOh1 z u) := by
  obtain ⟨pc', st', h', e1, -, M, ν', S', eM, e2, e3, e4, e5, e6⟩ := hz
  subst e1
  unfold zOh1
  exact sXt_one eM e2 e3 e4 e5 e6 hP
theorem sX_ok {i : Instr} (hlk : wTop W (wA W) = true) (hmc : hb + mc ≤ zCM) (hms : ub + ms ≤ zSN) (ha : sX W Wr mc ms ro i a pc S = some succ) (hA : gA hb ub ρ ν S lv st h u) (hH : tHeap W N ρ h) (hF : gFr Wr ρ0 h0 h) (hP : gPre hb ρ0 ρ) (hh : h0.length = hb) : sXt W Wr N hb ub ρ0 ρ ν h0 lv succ (zX i a pc st h u) := by
  unfold sX at ha
  unfold zX
  split at ha
  · exact sIfn_ok ha hA hH hF hP
  · exact sIfn_ok ha hA hH hF hP
  · exact sAcm_ok ha hA hH hF hP
  · exact sAcm_ok ha hA hH hF hP
  · exact sDm_ok ha hA hH hF hP
  · exact sDd_ok ha hA hH hF hP
  · unfold sPush at ha
    cases ha
    have hlt : 3 < ρ.length := by
      have := hH.1
      have := hH.2.1
      have hz : zro = 16 := rfl
      omega
    have hr : ρ[3]? = some ρ[3] := List.getElem?_eq_getElem hlt
    have he := (hH.2.2.2.1 3 _ hr).2.2 (by decide)
    have key : ∀ v : Value, tHas ρ (4, 3, 0) v → gA hb ub ρ (ν ++ [v]) (S.1 ++ [(4, 3, 0)], S.2.1, S.1.length :: S.2.2.1, [] ++ S.2.2.2.1, S.2.2.2.2) lv (v :: st) h u := fun v hv => hA.push hv nil_ok (hA.2.1.ext (nExt_app _ _)) (gSt.cons (hA.new v) (hA.2.2.1.ext (nExt_app _ _)))
    refine ⟨_, rfl, fun o ho => ?_⟩
    simp only [List.mem_cons, List.not_mem_nil, or_false] at ho
    rcases ho with rfl | rfl
    · exact ⟨ρ, _, _, N, Int.le_refl _, List.mem_cons_self, nExt_app _ _, key .null (Or.inl rfl), hH, hF, hP⟩
    · exact ⟨ρ, _, _, N, Int.le_refl _, List.mem_cons_self, nExt_app _ _, key (.ref 3) (Or.inr ⟨3, rfl, by rw [hr, he]; rfl⟩), hH, hF, hP⟩
  · exact sHd_X hP (sGetF_ok ha hA hH hF)
  · exact sHd_X hP (sPutF_ok hlk ha hA hH hF hP hh)
  · exact sCka_ok ha hA hH hF hP
  · exact sArc_ok hlk ha hA hH hF hP hh
  · split at ha
    · rename_i e
      rw [if_pos e]
      exact sCln_ok hlk hmc hms ha hA hH hF hP
    · rename_i e
      rw [if_neg e]
      exact sGcl_ok ha hA hH hF hP
  · cases ha
end sXok
