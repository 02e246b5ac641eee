/-! ===== the abstract machine: cost, what makes cells, arguments, returns ===== -/
/-- the most that a cost can be -/
def cHi (E : List tT) (sel : Int × Int × Nat → Int) : Int → List (Int × Int × Nat) → Int
  | c, [] => c
  | c, t :: r => cHi E sel (c + sel t * (sGet E t.2.2).2.2) r
def cNn (E : List tT) (sel : Int × Int × Nat → Int) (l : List (Int × Int × Nat)) : Bool := l.all (fun t => decide (0 ≤ sel t) && (sGet E t.2.2).1 == 0)
theorem cHi_ok {ρ : List Nat} {ν : List Value} {E : List tT} {sel : Int × Int × Nat → Int} (hE : gEn ρ ν E) : ∀ {l : List (Int × Int × Nat)} {n c d : Int}, cNn E sel l = true → c ≤ d → cLe ν sel n c l → n ≤ cHi E sel d l
  | [], n, c, d, _, hcd, h => by
    unfold cLe at h
    unfold cHi
    omega
  | t :: r, n, c, d, hn, hcd, h => by
    unfold cLe at h
    unfold cHi
    unfold cNn at hn
    rw [List.all_cons] at hn
    obtain ⟨h1, h2⟩ := Bool.and_eq_true_iff.mp hn
    obtain ⟨h3, h4⟩ := Bool.and_eq_true_iff.mp h1
    have h3 := of_decide_eq_true h3
    obtain ⟨x, e, h⟩ := h
    obtain ⟨y, e2, -, e3⟩ := tHas_int (hE.2 _ _ e) (by simpa using h4)
    cases e2
    have := Int.mul_le_mul_of_nonneg_left e3 h3
    exact cHi_ok hE h2 (by omega) h
/-- n cells more of m slots stay within the method's room -/
def sRoom (mc ms : Int) (S : sS) (n m : Int) : Bool := cNn S.1 (fun t => t.1) S.2.2.2.2.2.2 && (cNn S.1 (fun t => t.2.1) S.2.2.2.2.2.2 && (decide (cHi S.1 (fun t => t.1) (S.2.2.2.2.1 + n) S.2.2.2.2.2.2 ≤ mc) && decide (cHi S.1 (fun t => t.2.1) (S.2.2.2.2.2.1 + m) S.2.2.2.2.2.2 ≤ ms)))
def sCost (C : Int × Int × List (Int × Int × Nat)) (n m : Int) : Int × Int × List (Int × Int × Nat) := (C.1 + n, C.2.1 + m, C.2.2)
/-- the value that a field is born with has the type -/
def tBorn (v : Value) (f : fT) : Bool := f.2.2.1 == 0 && match v, f.1.1 with
  | .int x, 0 => decide (f.1.2.1 ≤ x.toInt) && decide (x.toInt ≤ f.1.2.2)
  | .long _, 1 => true
  | .double _, 2 => true
  | .null, 4 => true
  | .null, 5 => true
  | _, _ => false
theorem tBorn_ok {N : Int} {ρ : List Nat} {v : Value} {f : fT} (h : tBorn v f = true) : tVal N ρ f v := by
  unfold tBorn at h
  obtain ⟨h1, h2⟩ := Bool.and_eq_true_iff.mp h
  have h1 : f.2.2.1 = 0 := by simpa using h1
  refine ⟨?_, ?_⟩
  · unfold tHas
    split at h2
    · rename_i e
      obtain ⟨h3, h4⟩ := Bool.and_eq_true_iff.mp h2
      rw [e]
      exact ⟨_, rfl, of_decide_eq_true h3, of_decide_eq_true h4⟩
    · rename_i e
      rw [e]
      exact ⟨_, rfl⟩
    · rename_i e
      rw [e]
      exact ⟨_, rfl⟩
    · rename_i e
      rw [e]
      exact Or.inl rfl
    · rename_i e
      rw [e]
      rfl
    · cases h2
  · unfold gHas
    rw [if_neg (by omega), if_neg (by omega)]
    trivial
def tBorns (R : tR) : Nat → List Value → Bool
  | _, [] => true
  | k, v :: vs => tBorn v (tFd R k) && tBorns R (k + 1) vs
theorem tBorns_ok {N : Int} {ρ : List Nat} {R : tR} : ∀ {vs : List Value} {k : Nat}, tBorns R k vs = true → ∀ (i : Nat) (v : Value), vs[i]? = some v → tVal N ρ (tFd R (k + i)) v
  | [], k, _, i, v, hi => by simp at hi
  | w :: vs, k, h, i, v, hi => by
    unfold tBorns at h
    obtain ⟨h1, h2⟩ := Bool.and_eq_true_iff.mp h
    cases i with
    | zero => cases hi; exact tBorn_ok h1
    | succ i =>
      have := tBorns_ok (N := N) (ρ := ρ) h2 i v hi
      rw [show k + (i + 1) = k + 1 + i by omega]
      exact this
def sIs (o : Option Nat) (n : Nat) : Bool := match o with
  | some m => m == n
  | none => true
section sMk
variable (W : tWd) (mc ms : Int) (ro : Nat)
def sMade (pc : Nat) (S : sS) (r : List Nat) (n : Int) (G : List sF) : sO := some [(pc, (S.1 ++ [(3, (ro : Int), 0)], S.2.1, S.1.length :: r, (7, S.1.length, 0, 0, 0) :: G ++ S.2.2.2.1, sCost S.2.2.2.2 1 n))]
/-- a symbol for 0 -/
def sZ (S : sS) : sS := (S.1 ++ [(0, 0, 0)], S.2)
/-- the fields of a new object that are 0 -/
def gZ (a : Nat) (S : sS) : List sF := (List.range 16).filterMap (fun k => match (zDef a)[k]? with
  | some (Value.int x) => if x = 0 then some (2, S.1.length + 1, k, S.1.length, 0) else none
  | _ => none)
/-- a new object of the role has no limits -/
def iNew (ro a : Nat) : Bool := !(iO ro) || (match (zDef a)[iLm]? with
  | some (Value.int x) => decide (x = 0)
  | _ => true)
def sM (i : Instr) (a pc : Nat) (S : sS) : sO := match wR W ro with
  | none => none
  | some R => if (wTop W ro = false ∧ 8 ≤ ro) ∧ R.1 = a then match i with
    | .new _ => if a < vwCl.length ∧ a < 90 ∧ sRoom mc ms S 1 (zCn a) = true ∧ sIs R.2.1 (zDef a).length = true ∧ tBorns R 0 (zDef a) = true ∧ decide (((zDef a).length : Int) ≤ tMax) = true ∧ R.2.1.isSome = true ∧ iNew ro a = true then (if zCn a ≤ 4 ∨ iO ro = true then sMade ro (pc + 3) (sZ S) S.2.2.1 (zCn a) (gZ a S) else sMade ro (pc + 3) S S.2.2.1 (zCn a) []) else none
    | .newarray at1 => match S.2.2.1 with
      | n :: r => if (sGet S.1 n).1 = 0 ∧ 100 ≤ a ∧ zTy a = newarray.typeOf at1 ∧ 0 ≤ (sGet S.1 n).2.1 ∧ (sGet S.1 n).2.2 ≤ 10000 ∧ sRoom mc ms S 1 (sGet S.1 n).2.2 = true ∧ ((R.2.1 = none ∧ (sGet S.1 n).2.2 ≤ tMx R) ∨ (R.2.1 = some (sGet S.1 n).2.1.toNat ∧ (sGet S.1 n).2.1 = (sGet S.1 n).2.2)) ∧ R.2.2.1.isEmpty = true ∧ tBorn (defaultValue (newarray.typeOf at1)) R.2.2.2 = true ∧ iO ro = false then sMade ro (pc + 2) S r (sGet S.1 n).2.2 ((3, S.1.length, n, 0, 0) :: (if a = 102 then [(15, S.1.length, 0, 0, 0)] else [])) else none
      | _ => none
    | .anewarray _ => match S.2.2.1 with
      | n :: r => if (sGet S.1 n).1 = 0 ∧ 100 ≤ a ∧ zTy a = .object (zOb a) ∧ 0 ≤ (sGet S.1 n).2.1 ∧ (sGet S.1 n).2.2 ≤ 10000 ∧ sRoom mc ms S 1 (sGet S.1 n).2.2 = true ∧ ((R.2.1 = none ∧ (sGet S.1 n).2.2 ≤ tMx R) ∨ (R.2.1 = some (sGet S.1 n).2.1.toNat ∧ (sGet S.1 n).2.1 = (sGet S.1 n).2.2)) ∧ R.2.2.1.isEmpty = true ∧ tBorn .null R.2.2.2 = true ∧ iO ro = false then sMade ro (pc + 3) S r (sGet S.1 n).2.2 [(3, S.1.length, n, 0, 0)] else none
      | _ => none
    | _ => none
    else none
end sMk
def sRt (ret : Option FieldType) (i : Instr) (S : sS) : Option Nat := match i with
  | .ireturn => match S.2.2.1, ret with
    | [s], some ty => if (sGet S.1 s).1 = 0 ∧ tFit ty (sGet S.1 s) = true then some 1 else none
    | _, _ => none
  | .lreturn => match S.2.2.1, ret with
    | [s], some .long => if (sGet S.1 s).1 = 1 then some 1 else none
    | _, _ => none
  | .dreturn => match S.2.2.1, ret with
    | [s], some .double => if (sGet S.1 s).1 = 2 then some 1 else none
    | _, _ => none
  | .areturn => match S.2.2.1, ret with
    | [s], some (.object _) => if tIsR (sGet S.1 s) = true then some 1 else none
    | [s], some (.array _) => if tIsR (sGet S.1 s) = true then some 1 else none
    | _, _ => none
  | .return_ => match S.2.2.1, ret with
    | [], none => some 0
    | _, _ => none
  | _ => none
/-- at most that many words -/
def tCat (t : tT) : Nat := if tNarr t = true then 1 else 2
def sCats (E : List tT) (T : List Nat) : Nat := (T.map (fun s => tCat (sGet E s))).sum
/-- the callee's locals -/
def sArgs (E : List tT) : Nat → List Nat → List (Nat × Nat)
  | _, [] => []
  | i, s :: T => (i, s) :: sArgs E (i + tCat (sGet E s)) T
def sKnown (E : List tT) (T : List Nat) : Bool := T.all (fun s => tNarr (sGet E s) || tWide (sGet E s))
def sRc (W : tWd) (b : Nat) (S : sS) (As : List Nat) : Bool := b / 10 == 0 || match As with
  | o :: _ => (sGet S.1 o).1 == 3 && match wR W (sGet S.1 o).2.1.toNat with
    | some R => R.1 + 1 == b / 10 && decide (R.1 < 90)
    | none => false
  | [] => false
theorem hNew (h : List zC) (c : zC) : (h ++ [c])[h.length]? = some c := by simp
section sMok
variable {W : tWd} {Wr : List (Nat × Nat)} {hb ub : Nat} {ρ ρ0 : List Nat} {ν : List Value} {S : sS} {lv : List (Nat × Value)} {st : List Value} {h h0 : List zC} {u : Nat} {succ : List (Nat × sS)} {pc a k ro : Nat} {N mc ms : Int}
theorem sRoom_ok {n m : Int} (hA : gA hb ub ρ ν S lv st h u) (hr : sRoom mc ms S n m = true) : (h.length : Int) - hb + n ≤ mc ∧ (u : Int) - ub + m ≤ ms := by
  unfold sRoom at hr
  obtain ⟨h1, h2⟩ := Bool.and_eq_true_iff.mp hr
  obtain ⟨h2, h3⟩ := Bool.and_eq_true_iff.mp h2
  obtain ⟨h3, h4⟩ := Bool.and_eq_true_iff.mp h3
  have h3 := of_decide_eq_true h3
  have h4 := of_decide_eq_true h4
  have c1 := cHi_ok hA.1 h1 (Int.le_refl _) ((hA.2.2.2.2.1).mono (m := (h.length : Int) - hb + n) (d := S.2.2.2.2.1 + n) (nExt.refl ν) (by omega))
  have c2 := cHi_ok hA.1 h2 (Int.le_refl _) ((hA.2.2.2.2.2).mono (m := (u : Int) - ub + m) (d := S.2.2.2.2.2.1 + m) (nExt.refl ν) (by omega))
  exact ⟨by omega, by omega⟩
theorem gCo.more {h' : List zC} {u' : Nat} {C : Int × Int × List (Int × Int × Nat)} {n m : Int} (H : gCo hb ub ν h u C) (h1 : (h'.length : Int) ≤ h.length + n) (h2 : (u' : Int) ≤ u + m) : gCo hb ub ν h' u' (sCost C n m) := by
  obtain ⟨a1, a2⟩ := H
  exact ⟨a1.mono (nExt.refl ν) (by show _ ≤ _ + (C.1 + n); omega), a2.mono (nExt.refl ν) (by show _ ≤ _ + (C.2.1 + m); omega)⟩
/-- a cell c of the role ro is made, at the end -/
theorem sMade_ok {pc' : Nat} {r : List Nat} {n : Int} {G : List sF} {c : zC} {st' : List Value} {n' : Nat} (ha : sMade ro pc' S r n G = some succ) (hlk : wTop W (wA W) = true) (hA : gA hb ub ρ ν S lv st h u) (hH : tHeap W N ρ h) (hF : gFr Wr ρ0 h0 h) (hP : gPre hb ρ0 ρ) (hT : gSt ν r st') (hk : wTop W ro = false ∧ 8 ≤ ro)
    (hc : ∀ R, wR W ro = some R → tCell N (ρ ++ [ro]) R c) (hL : (c.2.length : Int) ≤ tMax) (hI : iO ro = true → ∀ n : Int32, c.2[iLm]? = some (.int n) → n.toInt ≤ 0) (hn : (n' : Int) ≤ n) (hG : ∀ f ∈ G, fHold hb (ν ++ [.ref h.length]) (h ++ [c]) f) :
    ∃ ν' S', (pc', S') ∈ succ ∧ nExt ν ν' ∧ gA hb ub (ρ ++ [ro]) ν' S' lv (.ref h.length :: st') (h ++ [c]) (u + n') ∧ tHeap W N (ρ ++ [ro]) (h ++ [c]) ∧ gFr Wr ρ0 h0 (h ++ [c]) ∧ gPre hb ρ0 (ρ ++ [ro]) := by
  unfold sMade at ha
  cases ha
  have hp := rApp ρ ro
  have hle : hb ≤ h.length := by
    rw [← hP.1, ← hH.1]
    rcases Nat.lt_or_ge ρ.length ρ0.length with e | e
    · have e1 : ρ0[ρ.length]? = some ρ0[ρ.length] := List.getElem?_eq_getElem e
      have e2 := hP.2 _ _ e1
      simp at e2
    · exact e
  have hE : gEn (ρ ++ [ro]) ν S.1 := ⟨hA.1.1, fun s v e => (hA.1.2 s v e).grow hp⟩
  have hnew : (ν ++ [Value.ref h.length])[S.1.length]? = some (.ref h.length) := hA.new _
  refine ⟨ν ++ [.ref h.length], _, List.mem_cons_self, nExt_app _ _, ⟨hE.push ⟨h.length, rfl, ?_⟩, hA.2.1.ext (nExt_app _ _), gSt.cons hnew (hT.ext (nExt_app _ _)), fun f hf => ?_, ?_⟩, hH.push hlk hk.1 hk.2 hc hL hI, hF.push c, hP.1, fun i r2 e => hp _ _ (hP.2 i r2 e)⟩
  · show (ρ ++ [ro])[h.length]? = some (ro : Int).toNat
    rw [← hH.1, List.getElem?_append_right (Nat.le_refl _), Nat.sub_self]
    rfl
  · rcases List.mem_append.mp hf with hf | hf
    · rcases List.mem_cons.mp hf with rfl | hf
      · exact ⟨h.length, hnew, hle⟩
      · exact hG f hf
    · exact ((hA.2.2.2.1 f hf).mono (nExt_app _ _)).grow (hApp h c)
  · exact (hA.2.2.2.2.ext (nExt_app _ _)).more (by simp) (by omega)
theorem sIs_ok {o : Option Nat} {n m : Nat} (h : sIs o n = true) (ho : o = some m) : n = m := by
  subst ho
  unfold sIs at h
  exact (by simpa using h : m = n).symm
theorem sIs2_ok {R : tR} {n : Nat} (h : sIs R.2.1 n = true) (h2 : R.2.1.isSome = true) : tLenOk R n := ⟨fun _ hm => sIs_ok h hm, fun q => by rw [q] at h2; cases h2⟩
theorem tMx_ok {R : tR} {n : Nat} {x : Int} (h : (R.2.1 = none ∧ x ≤ tMx R) ∨ R.2.1 = some n) (hn : (n : Int) ≤ x ∨ R.2.1 = some n) : tLenOk R n := by
  refine ⟨fun m hm => ?_, fun q1 q2 q3 => ?_⟩
  · rcases h with h | h
    · rw [h.1] at hm; cases hm
    · rw [h] at hm; cases hm; rfl
  · rcases h with h | h
    · rcases hn with hn | hn
      · have := h.2
        unfold tMx at this
        split at this
        · omega
        · rename_i z
          have h3 : ¬ R.2.2.2.2.2.2 ≤ 2147483647 := fun y => z ⟨q2, q3, y⟩
          omega
      · rw [h.1] at hn; cases hn
    · rw [h] at q1; cases q1
def sMd (W : tWd) (Wr : List (Nat × Nat)) (N : Int) (hb ub : Nat) (ρ0 ρ : List Nat) (ν : List Value) (h0 : List zC) (lv : List (Nat × Value)) (succ : List (Nat × sS)) (z : zOm) : Prop := ∃ pc' st' h' u', z = some (pc', st', h', u') ∧ ∃ ρ' ν' S', (pc', S') ∈ succ ∧ nExt ν ν' ∧ gA hb ub ρ' ν' S' lv st' h' u' ∧ tHeap W N ρ' h' ∧ gFr Wr ρ0 h0 h' ∧ gPre hb ρ0 ρ'
theorem tRep {R : tR} {n : Nat} {v : Value} (hR : R.2.2.1.isEmpty = true) (hb : tBorn v R.2.2.2 = true) : ∀ (k : Nat) (w : Value), (List.replicate n v)[k]? = some w → tVal N ρ (tFd R k) w := by
  intro k w hw
  rw [List.getElem?_replicate] at hw
  split at hw
  · cases hw
    rw [fd_nil hR]
    exact tBorn_ok hb
  · cases hw
theorem sM_ok {i : Instr} (hlk : wTop W (wA W) = true) (hmc : hb + mc ≤ zCM) (hms : ub + ms ≤ zSN) (ha : sM W mc ms ro i a pc S = some succ) (hA : gA hb ub ρ ν S lv st h u) (hH : tHeap W N ρ h) (hF : gFr Wr ρ0 h0 h) (hP : gPre hb ρ0 ρ) : sMd W Wr N hb ub ρ0 ρ ν h0 lv succ (zMk i a pc st h u) := by
  unfold sM at ha
  split at ha
  · cases ha
  · rename_i R hR
    split at ha
    · rename_i hc
      obtain ⟨c1, c2⟩ := hc
      split at ha
      · split at ha
        · rename_i hd
          obtain ⟨d1, d2, d3, d4, d5, d6, d7, dI⟩ := hd
          have hI : iO ro = true → ∀ n : Int32, (zDef a)[iLm]? = some (.int n) → n.toInt ≤ 0 := fun hio n hn => by
            unfold iNew at dI
            rw [hio, hn] at dI
            have dI : n = 0 := by simpa using dI
            rw [dI]
            decide
          have d6 := of_decide_eq_true d6
          obtain ⟨r1, r2⟩ := sRoom_ok hA d3
          unfold zMk
          dsimp only
          rw [if_pos ⟨d1, d2, by omega, by omega⟩]
          split at ha
          · have hA2 : gA hb ub ρ (ν ++ [.int 0]) (sZ S) lv st h u := hA.push (G := []) (t := (0, 0, 0)) ⟨0, rfl, by decide, by decide⟩ nil_ok (hA.2.1.ext (nExt_app _ _)) (hA.2.2.1.ext (nExt_app _ _))
            obtain ⟨ν', S', e1, e2, e3, e4, e5, e6⟩ := sMade_ok (c := (a, zDef a)) (n' := zCn a) (st' := st) ha hlk hA2 hH hF hP hA2.2.2.1 c1 (fun R2 e => by
              rw [hR] at e
              cases e
              exact ⟨c2.symm, sIs2_ok d4 d7, fun k v hv => by
                have := tBorns_ok (N := N) (ρ := ρ ++ [ro]) d5 k v hv
                rw [Nat.zero_add] at this
                exact this⟩) d6 hI (Int.le_refl _) (fun f hf => by
              unfold gZ at hf
              obtain ⟨k, -, hf⟩ := List.mem_filterMap.mp hf
              split at hf
              · rename_i x hx
                split at hf
                · rename_i x0
                  cases hf
                  subst x0
                  have hs1 := hA2.new (.ref h.length)
                  rw [show (sZ S).1.length = S.1.length + 1 by simp [sZ]] at hs1
                  exact ⟨h.length, (a, zDef a), .int 0, hs1, hNew h _, hx, nExt_app _ _ _ _ (hA.new (.int 0))⟩
                · cases hf
              · cases hf)
            exact ⟨_, _, _, _, rfl, _, ν', S', e1, (nExt_app ν [.int 0]).trans e2, e3, e4, e5, e6⟩
          obtain ⟨ν', S', e1, e2, e3, e4, e5, e6⟩ := sMade_ok (c := (a, zDef a)) (n' := zCn a) (st' := st) ha hlk hA hH hF hP hA.2.2.1 c1 (fun R2 e => by
            rw [hR] at e
            cases e
            exact ⟨c2.symm, sIs2_ok d4 d7, fun k v hv => by
              have := tBorns_ok (N := N) (ρ := ρ ++ [ro]) d5 k v hv
              rw [Nat.zero_add] at this
              exact this⟩) d6 hI (Int.le_refl _) nil_ok
          exact ⟨_, _, _, _, rfl, _, ν', S', e1, e2, e3, e4, e5, e6⟩
        · cases ha
      · rename_i at1
        split at ha
        · rename_i n r hs
          split at ha
          · rename_i hd
            obtain ⟨d0, d1, d2, d3, d4, d5, d6, d7, d8, dI⟩ := hd
            have hT0 := hA.2.2.1
            rw [hs] at hT0
            obtain ⟨vn, st1, rfl, en, hT⟩ := hT0.inv
            obtain ⟨x, rfl, x1, x2⟩ := hA.int en d0
            obtain ⟨r1, r2⟩ := sRoom_ok hA d5
            obtain ⟨x3, x4⟩ := ix_nat (j := x) (by omega)
            unfold zMk
            dsimp only
            rw [if_pos ⟨d1, d2, x3, by rw [x4]; omega, by omega, by rw [x4]; omega⟩]
            obtain ⟨ν', S', e1, e2, e3, e4, e5, e6⟩ := sMade_ok (c := (a, List.replicate x.toNatClampNeg (defaultValue (newarray.typeOf at1)))) (n' := x.toNatClampNeg) (st' := st1) ha hlk hA hH hF hP hT c1 (fun R2 e => by
              rw [hR] at e
              cases e
              refine ⟨c2.symm, ?_, tRep d7 d8⟩
              rw [List.length_replicate, x4]
              refine tMx_ok (x := (sGet S.1 n).2.2) (d6.imp (fun z => z) (fun z => ?_)) (Or.inl (by omega))
              rw [z.1]
              congr 1
              omega) (by rw [List.length_replicate, x4]; unfold tMax; omega) (fun z => by rw [dI] at z; cases z) (by rw [x4]; omega) (fun f hf => by
              rcases List.mem_cons.mp hf with rfl | hf
              · exact ⟨h.length, _, x, hA.new _, hNew h _, nExt_app _ _ _ _ en, by rw [List.length_replicate, x4]; omega⟩
              split at hf
              · rename_i a2
                simp only [List.mem_cons, List.not_mem_nil, or_false] at hf
                subst hf
                have dz : defaultValue (newarray.typeOf at1) = .int 0 := by
                  rw [← d2, a2]
                  rfl
                exact ⟨h.length, _, hA.new _, hNew h _, by rw [dz, zcnt_rep]; exact Int.le_refl _⟩
              · cases hf)
            exact ⟨_, _, _, _, rfl, _, ν', S', e1, e2, e3, e4, e5, e6⟩
          · cases ha
        · cases ha
      · split at ha
        · rename_i n r hs
          split at ha
          · rename_i hd
            obtain ⟨d0, d1, d2, d3, d4, d5, d6, d7, d8, dI⟩ := hd
            have hT0 := hA.2.2.1
            rw [hs] at hT0
            obtain ⟨vn, st1, rfl, en, hT⟩ := hT0.inv
            obtain ⟨x, rfl, x1, x2⟩ := hA.int en d0
            obtain ⟨r1, r2⟩ := sRoom_ok hA d5
            obtain ⟨x3, x4⟩ := ix_nat (j := x) (by omega)
            unfold zMk
            dsimp only
            rw [if_pos ⟨d1, d2, x3, by rw [x4]; omega, by omega, by rw [x4]; omega⟩]
            obtain ⟨ν', S', e1, e2, e3, e4, e5, e6⟩ := sMade_ok (c := (a, List.replicate x.toNatClampNeg .null)) (n' := x.toNatClampNeg) (st' := st1) ha hlk hA hH hF hP hT c1 (fun R2 e => by
              rw [hR] at e
              cases e
              refine ⟨c2.symm, ?_, tRep d7 d8⟩
              rw [List.length_replicate, x4]
              refine tMx_ok (x := (sGet S.1 n).2.2) (d6.imp (fun z => z) (fun z => ?_)) (Or.inl (by omega))
              rw [z.1]
              congr 1
              omega) (by rw [List.length_replicate, x4]; unfold tMax; omega) (fun z => by rw [dI] at z; cases z) (by rw [x4]; omega) (fun f hf => by
              simp only [List.mem_cons, List.not_mem_nil, or_false] at hf
              subst hf
              exact ⟨h.length, _, x, hA.new _, hNew h _, nExt_app _ _ _ _ en, by rw [List.length_replicate, x4]; omega⟩)
            exact ⟨_, _, _, _, rfl, _, ν', S', e1, e2, e3, e4, e5, e6⟩
          · cases ha
        · cases ha
      · cases ha
    · cases ha
end sMok
