/-! ===== the heap by roles ===== -/
def tFit (ty : FieldType) (t : tT) : Bool := match ty with
  | .boolean => t.1 == 0 && (decide (0 ≤ t.2.1) && decide (t.2.2 ≤ 1))
  | .byte => t.1 == 0 && (decide (-128 ≤ t.2.1) && decide (t.2.2 ≤ 127))
  | .char => t.1 == 0 && (decide (0 ≤ t.2.1) && decide (t.2.2 ≤ 65535))
  | .int => t.1 == 0
  | .long => t.1 == 1
  | .double => t.1 == 2
  | .object _ => tIsR t
  | .array _ => tIsR t
  | _ => false
theorem tBit {x : Int32} (h1 : 0 ≤ x.toInt) (h2 : x.toInt ≤ 1) : x = 0 ∨ x = 1 := by
  rcases (show x.toInt = 0 ∨ x.toInt = 1 by omega) with e | e
  · exact Or.inl (Int32.toInt_inj.mp (by rw [e]; rfl))
  · exact Or.inr (Int32.toInt_inj.mp (by rw [e]; rfl))
theorem tI8 {a : Int32} (h1 : -128 ≤ a.toInt) (h2 : a.toInt ≤ 127) : a.toInt8.toInt32 = a := by
  apply Int32.toInt_inj.mp
  rw [Int8.toInt_toInt32, Int32.toInt_toInt8]
  exact Int.bmod_eq_of_le (by omega) (by omega)
theorem tI16c {a : Int32} (h1 : 0 ≤ a.toInt) (h2 : a.toInt ≤ 65535) : a.toUInt32.toUInt16.toUInt32.toInt32 = a := by
  apply Int32.toInt_inj.mp
  have e0 : a.toUInt32.toNat = a.toInt.toNat := by
    have : a.toInt = (a.toBitVec.toNat : Int) := by
      have e : a.toInt = a.toBitVec.toInt := rfl
      rw [e] at h1 ⊢
      rw [BitVec.toInt_eq_toNat_cond] at h1 ⊢
      have := a.toBitVec.isLt
      split at h1
      · rename_i q; rw [if_pos q]
      · omega
    have e : a.toUInt32.toNat = a.toBitVec.toNat := rfl
    omega
  have e1 : a.toUInt32.toUInt16.toUInt32.toNat = a.toUInt32.toNat % 65536 := by
    rw [UInt16.toNat_toUInt32, UInt32.toNat_toUInt16]
  have e2 : a.toUInt32.toUInt16.toUInt32.toInt32.toInt = (a.toUInt32.toUInt16.toUInt32.toNat : Int) := by
    show a.toUInt32.toUInt16.toUInt32.toBitVec.toInt = (a.toUInt32.toUInt16.toUInt32.toBitVec.toNat : Int)
    rw [BitVec.toInt_eq_toNat_cond, if_pos]
    have : a.toUInt32.toUInt16.toUInt32.toBitVec.toNat = a.toUInt32.toNat % 65536 := e1
    omega
  rw [e2, e1, e0, Nat.mod_eq_of_lt (by omega)]
  omega
theorem tFit_ok {ρ : List Nat} {ty : FieldType} {t : tT} {v : Value} (h : tFit ty t = true) (hv : tHas ρ t v) : zfitv ty v = true := by
  unfold tFit at h
  split at h
  · obtain ⟨h0, h1⟩ := Bool.and_eq_true_iff.mp h
    obtain ⟨h1, h2⟩ := Bool.and_eq_true_iff.mp h1
    obtain ⟨x, rfl, q1, q2⟩ := tHas_int hv (by simpa using h0)
    have h1 := of_decide_eq_true h1
    have h2 := of_decide_eq_true h2
    rcases tBit (x := x) (by omega) (by omega) with rfl | rfl <;> decide
  · obtain ⟨h0, h1⟩ := Bool.and_eq_true_iff.mp h
    obtain ⟨h1, h2⟩ := Bool.and_eq_true_iff.mp h1
    obtain ⟨x, rfl, q1, q2⟩ := tHas_int hv (by simpa using h0)
    have h1 := of_decide_eq_true h1
    have h2 := of_decide_eq_true h2
    unfold zfitv
    refine Bool.and_eq_true_iff.mpr ⟨decide_eq_true ?_, ?_⟩
    · show Value.int x.toInt8.toInt32 = Value.int x
      rw [tI8 (by omega) (by omega)]
    · show (decide ((-128 : Int32) ≤ x) && decide (x ≤ (127 : Int32))) = true
      refine Bool.and_eq_true_iff.mpr ⟨decide_eq_true ?_, decide_eq_true ?_⟩
      · rw [Int32.le_iff_toInt_le]
        have : (-128 : Int32).toInt = -128 := rfl
        omega
      · rw [Int32.le_iff_toInt_le]
        have : (127 : Int32).toInt = 127 := rfl
        omega
  · obtain ⟨h0, h1⟩ := Bool.and_eq_true_iff.mp h
    obtain ⟨h1, h2⟩ := Bool.and_eq_true_iff.mp h1
    obtain ⟨x, rfl, q1, q2⟩ := tHas_int hv (by simpa using h0)
    have h1 := of_decide_eq_true h1
    have h2 := of_decide_eq_true h2
    unfold zfitv
    refine Bool.and_eq_true_iff.mpr ⟨decide_eq_true ?_, ?_⟩
    · show Value.int x.toUInt32.toUInt16.toUInt32.toInt32 = Value.int x
      rw [tI16c (by omega) (by omega)]
    · show (decide ((0 : Int32) ≤ x) && decide (x ≤ (65535 : Int32))) = true
      refine Bool.and_eq_true_iff.mpr ⟨decide_eq_true ?_, decide_eq_true ?_⟩
      · rw [Int32.le_iff_toInt_le]
        have : (0 : Int32).toInt = 0 := rfl
        omega
      · rw [Int32.le_iff_toInt_le]
        have : (65535 : Int32).toInt = 65535 := rfl
        omega
  · obtain ⟨x, rfl, -⟩ := tHas_int hv (by simpa using h)
    simp [zfitv, narrow, fits]
  · obtain ⟨x, rfl⟩ := tHas_long hv (by simpa using h)
    simp [zfitv, narrow, fits]
  · obtain ⟨x, rfl⟩ := tHas_double hv (by simpa using h)
    simp [zfitv, narrow, fits]
  · rcases tHas_refs hv h with rfl | ⟨i, rfl⟩ <;> simp [zfitv, narrow, fits]
  · rcases tHas_refs hv h with rfl | ⟨i, rfl⟩ <;> simp [zfitv, narrow, fits]
  · cases h
/-- a field: what is read of it, what may be written, its bound by the number of articles (0 none; 1 v ≤ N + c; 2 -v ≤ N + c), c -/
abbrev fT : Type := tT × tT × Nat × Int
/-- a role: the cell's kind, its length where it is fixed, its first places, the others -/
abbrev tR : Type := Nat × Option Nat × List fT × fT
def tFd (R : tR) (k : Nat) : fT := R.2.2.1.getD k R.2.2.2
def gHas (N : Int) (g : Nat × Int) (v : Value) : Prop := if g.1 = 1 then ∃ x : Int32, v = .int x ∧ x.toInt ≤ N + g.2 else if g.1 = 2 then ∃ x : Int32, v = .int x ∧ -x.toInt ≤ N + g.2 else True
def tVal (N : Int) (ρ : List Nat) (f : fT) (v : Value) : Prop := tHas ρ f.1 v ∧ gHas N f.2.2 v
theorem gHas.up {N M : Int} {g : Nat × Int} {v : Value} (hM : N ≤ M) (h : gHas N g v) : gHas M g v := by
  unfold gHas at h ⊢
  split
  · rename_i e
    rw [if_pos e] at h
    obtain ⟨x, e1, e2⟩ := h
    exact ⟨x, e1, by omega⟩
  · rename_i e
    rw [if_neg e] at h
    split
    · rename_i e3
      rw [if_pos e3] at h
      obtain ⟨x, e1, e2⟩ := h
      exact ⟨x, e1, by omega⟩
    · trivial
theorem tVal.grow {N : Int} {ρ ρ' : List Nat} {f : fT} {v : Value} (hp : ∀ i r : Nat, ρ[i]? = some r → ρ'[i]? = some r) (h : tVal N ρ f v) : tVal N ρ' f v := ⟨h.1.grow hp, h.2⟩
/-- the length that a cell of the role has; where it isn't fixed, its bound (0: none) -/
def tLenOk (R : tR) (n : Nat) : Prop := (∀ m, R.2.1 = some m → n = m) ∧ (R.2.1 = none → R.2.2.2.2.2.1 = 0 → 0 < R.2.2.2.2.2.2 → (n : Int) ≤ R.2.2.2.2.2.2)
def tMx (R : tR) : Int := if R.2.2.2.2.2.1 = 0 ∧ 0 < R.2.2.2.2.2.2 ∧ R.2.2.2.2.2.2 ≤ 2147483647 then R.2.2.2.2.2.2 else 2147483647
def tCell (N : Int) (ρ : List Nat) (R : tR) (c : zC) : Prop := c.1 = R.1 ∧ tLenOk R c.2.length ∧ ∀ (k : Nat) (v : Value), c.2[k]? = some v → tVal N ρ (tFd R k) v
theorem tCell.grow {N : Int} {ρ ρ' : List Nat} {R : tR} {c : zC} (hp : ∀ i r : Nat, ρ[i]? = some r → ρ'[i]? = some r) (h : tCell N ρ R c) : tCell N ρ' R c := ⟨h.1, h.2.1, fun k v q => (h.2.2 k v q).grow hp⟩
/-- the roles; the lists (the list's role, its row's, its elements'); the role of the articles' list; the places of a list's row and of its number; roles below that one are read alone -/
abbrev tWd : Type := List tR × List (Nat × Nat × Nat) × Nat × Nat × Nat × Nat
abbrev wR (W : tWd) (r : Nat) : Option tR := W.1[r]?
abbrev wLs (W : tWd) : List (Nat × Nat × Nat) := W.2.1
abbrev wA (W : tWd) : Nat := W.2.2.1
abbrev wEd (W : tWd) : Nat := W.2.2.2.1
abbrev wSz (W : tWd) : Nat := W.2.2.2.2.1
abbrev wW (W : tWd) : Nat := W.2.2.2.2.2
def wLk (W : tWd) (r : Nat) : Bool := (wLs W).any (fun l => l.1 == r || l.2.1 == r)
def wTop (W : tWd) (r : Nat) : Bool := (wLs W).any (fun l => l.1 == r)
theorem wTop_lk {W : tWd} {r : Nat} (h : wTop W r = true) : wLk W r = true := by
  unfold wTop at h
  unfold wLk
  obtain ⟨l, h1, h2⟩ := List.any_eq_true.mp h
  exact List.any_eq_true.mpr ⟨l, h1, by rw [h2]; rfl⟩
theorem wTop_no {W : tWd} {r : Nat} (h : wTop W r = false) : ∀ l ∈ wLs W, l.1 ≠ r := by
  intro l hl
  unfold wTop at h
  have := List.any_eq_false.mp h l hl
  simpa using this
theorem wLk_top {W : tWd} {r : Nat} (h : wLk W r = false) : wTop W r = false := by
  cases e : wTop W r with
  | false => rfl
  | true => rw [wTop_lk e] at h; cases h
/-- the role of the row that every list has at first: a cell of the start, without elements -/
def wE : Nat := 4
/-- a list: its row holds as many elements as it says; or it has none, and the start's row -/
def tList (W : tWd) (ρ : List Nat) (h : List zC) (l : Nat × Nat × Nat) : Prop := ∀ (a : Nat) (c : zC), ρ[a]? = some l.1 → h[a]? = some c → ∃ (q : Nat) (n : Int32), c.2[wEd W]? = some (.ref q) ∧ c.2[wSz W]? = some (.int n) ∧ 0 ≤ n.toInt ∧
  ((ρ[q]? = some wE ∧ n.toInt = 0) ∨ (ρ[q]? = some l.2.1 ∧ ∃ cq : zC, h[q]? = some cq ∧ n.toInt ≤ cq.2.length ∧ ∀ i : Nat, (i : Int) < n.toInt → ∃ e : Nat, cq.2[i]? = some (.ref e) ∧ ρ[e]? = some l.2.2))
/-- an article's signs: below its limits none is 0 -/
def iO (r : Nat) : Bool := r == 53 || r == 65
def iRw : Nat := 54
def iSg : Nat := 4
def iLm : Nat := 6
theorem iO_rw : iO iRw = false := rfl
def tIs (ρ : List Nat) (h : List zC) : Prop := ∀ (i r : Nat) (c : zC), ρ[i]? = some r → h[i]? = some c → iO r = true → ∀ n : Int32, c.2[iLm]? = some (.int n) → ∀ j : Nat, (j : Int) < n.toInt → ∃ (p : Nat) (cp : zC) (s : Int32), c.2[iSg]? = some (.ref p) ∧ ρ[p]? = some iRw ∧ h[p]? = some cp ∧ cp.2[j]? = some (.int s) ∧ 1 ≤ s.toInt
theorem tIs.skip {ρ : List Nat} {h : List zC} {q r : Nat} {d : zC} (H : tIs ρ h) (hr : ρ[q]? = some r) (h1 : iO r = false) (h2 : r ≠ iRw) : tIs ρ (h.set q d) := by
  intro i r' c' hri hci hio n hn j hj
  have ne : q ≠ i := fun z => by
    rw [← z, hr] at hri
    cases hri
    rw [h1] at hio
    cases hio
  rw [List.getElem?_set_ne ne] at hci
  obtain ⟨p, cp, s, e1, e2, e3, e4, e5⟩ := H i r' c' hri hci hio n hn j hj
  have ne2 : q ≠ p := fun z => by
    rw [← z, hr] at e2
    cases e2
    exact h2 rfl
  exact ⟨p, cp, s, e1, e2, by rw [List.getElem?_set_ne ne2]; exact e3, e4, e5⟩
theorem tIs.row {ρ : List Nat} {h : List zC} {q r k : Nat} {c : zC} {v : Value} (H : tIs ρ h) (hr : ρ[q]? = some r) (hq : h[q]? = some c) (h1 : iO r = false) (hv : ∃ s : Int32, v = .int s ∧ 1 ≤ s.toInt) : tIs ρ (h.set q (c.1, c.2.set k v)) := by
  intro i r' c' hri hci hio n hn j hj
  have ne : q ≠ i := fun z => by
    rw [← z, hr] at hri
    cases hri
    rw [h1] at hio
    cases hio
  rw [List.getElem?_set_ne ne] at hci
  obtain ⟨p, cp, s, e1, e2, e3, e4, e5⟩ := H i r' c' hri hci hio n hn j hj
  by_cases z : q = p
  · subst z
    rw [hq] at e3
    cases e3
    have hl := (List.getElem?_eq_some_iff.mp e4).1
    by_cases z2 : k = j
    · subst z2
      obtain ⟨s2, rfl, hs2⟩ := hv
      exact ⟨q, _, s2, e1, e2, List.getElem?_set_self (List.getElem?_eq_some_iff.mp hq).1, List.getElem?_set_self hl, hs2⟩
    · exact ⟨q, _, s, e1, e2, List.getElem?_set_self (List.getElem?_eq_some_iff.mp hq).1, (List.getElem?_set_ne z2).trans e4, e5⟩
  · exact ⟨p, cp, s, e1, e2, by rw [List.getElem?_set_ne z]; exact e3, e4, e5⟩
/-- an object of the kind is written: what is then to be shown of it alone -/
theorem tIs.obj {ρ : List Nat} {h : List zC} {q r : Nat} {c d : zC} (H : tIs ρ h) (hr : ρ[q]? = some r) (hq : h[q]? = some c) (h2 : r ≠ iRw) (hd : iO r = true → ∀ n : Int32, d.2[iLm]? = some (.int n) → ∀ j : Nat, (j : Int) < n.toInt → ∃ (p : Nat) (cp : zC) (s : Int32), d.2[iSg]? = some (.ref p) ∧ ρ[p]? = some iRw ∧ h[p]? = some cp ∧ cp.2[j]? = some (.int s) ∧ 1 ≤ s.toInt) : tIs ρ (h.set q d) := by
  intro i r' c' hri hci hio n hn j hj
  have key : ∃ (p : Nat) (cp : zC) (s : Int32), c'.2[iSg]? = some (.ref p) ∧ ρ[p]? = some iRw ∧ h[p]? = some cp ∧ cp.2[j]? = some (.int s) ∧ 1 ≤ s.toInt := by
    by_cases e : q = i
    · subst e
      rw [List.getElem?_set_self (List.getElem?_eq_some_iff.mp hq).1] at hci
      cases hci
      rw [hr] at hri
      cases hri
      exact hd hio n hn j hj
    · rw [List.getElem?_set_ne e] at hci
      exact H i r' c' hri hci hio n hn j hj
  obtain ⟨p, cp, s, e1, e2, e3, e4, e5⟩ := key
  have ne2 : q ≠ p := fun z => by
    rw [← z, hr] at e2
    cases e2
    exact h2 rfl
  exact ⟨p, cp, s, e1, e2, by rw [List.getElem?_set_ne ne2]; exact e3, e4, e5⟩
def tHeap (W : tWd) (N : Int) (ρ : List Nat) (h : List zC) : Prop :=
  ρ.length = h.length ∧ zro ≤ h.length ∧ (∀ (i : Nat) (c : zC) (r : Nat) (R : tR), h[i]? = some c → ρ[i]? = some r → wR W r = some R → tCell N ρ R c) ∧ (∀ i r : Nat, ρ[i]? = some r → (i < zro → r < wW W) ∧ (1 ≤ r → r < 8 → r ≠ 3 → i = r) ∧ (i < 8 → r = i)) ∧
  (∀ l ∈ wLs W, tList W ρ h l) ∧ (∀ (a : Nat) (c : zC), ρ[a]? = some (wA W) → h[a]? = some c → (∃ x : Int32, c.2[wSz W]? = some (.int x) ∧ x.toInt = N) ∧ ∀ b : Nat, ρ[b]? = some (wA W) → b = a) ∧ (∀ (i : Nat) (c : zC), h[i]? = some c → (c.2.length : Int) ≤ tMax) ∧ tIs ρ h
theorem wLk_no {W : tWd} {r : Nat} (h : wLk W r = false) : ∀ l ∈ wLs W, l.1 ≠ r ∧ l.2.1 ≠ r := by
  intro l hl
  unfold wLk at h
  have := List.any_eq_false.mp h l hl
  simpa using this
theorem tHeap.role {W : tWd} {N : Int} {ρ : List Nat} {h : List zC} {a r : Nat} (H : tHeap W N ρ h) (hr : ρ[a]? = some r) : ∃ c, h[a]? = some c := by
  have := (List.getElem?_eq_some_iff.mp hr).1
  rw [H.1] at this
  exact ⟨h[a], List.getElem?_eq_getElem this⟩
/-- one place of a cell is written -/
theorem tHeap.set {W : tWd} {N : Int} {ρ : List Nat} {h : List zC} {q r k : Nat} {c : zC} {v : Value} (H : tHeap W N ρ h) (hA : wLk W (wA W) = true) (hq : h[q]? = some c) (hr : ρ[q]? = some r) (hk : wLk W r = false) (hv : ∀ R, wR W r = some R → tVal N ρ (tFd R k) v) (hI : tIs ρ (h.set q (c.1, c.2.set k v))) : tHeap W N ρ (h.set q (c.1, c.2.set k v)) := by
  obtain ⟨h1, h2, h3, h4, h5, h6, h7, -⟩ := H
  have hlt := (List.getElem?_eq_some_iff.mp hq).1
  have oth : ∀ a r2 : Nat, ρ[a]? = some r2 → r2 ≠ r → (h.set q (c.1, c.2.set k v))[a]? = h[a]? := fun a r2 e1 e2 => List.getElem?_set_ne (fun z => e2 (by rw [← z, hr] at e1; cases e1; rfl))
  refine ⟨by rw [List.length_set]; exact h1, by rw [List.length_set]; exact h2, fun i ci ri Ri hi hri hRi => ?_, h4, fun l hl a ca ha hca => ?_, fun a ca ha hca => ?_, fun i ci hi => ?_, hI⟩
  · by_cases e : q = i
    · subst e
      rw [List.getElem?_set_self hlt] at hi
      cases hi
      cases hr.symm.trans hri
      obtain ⟨g1, g2, g3⟩ := h3 q c r Ri hq hr hRi
      refine ⟨g1, by rw [List.length_set]; exact g2, fun j w hj => ?_⟩
      by_cases e2 : k = j
      · subst e2
        rw [List.getElem?_set_self (by have := (List.getElem?_eq_some_iff.mp hj).1; simpa using this)] at hj
        cases hj
        exact hv Ri hRi
      · rw [List.getElem?_set_ne e2] at hj
        exact g3 j w hj
    · rw [List.getElem?_set_ne e] at hi
      exact h3 i ci ri Ri hi hri hRi
  · obtain ⟨l1, l2⟩ := wLk_no hk l hl
    rw [oth a l.1 ha l1] at hca
    obtain ⟨p, n, e1, e4, e5, e2⟩ := h5 l hl a ca ha hca
    refine ⟨p, n, e1, e4, e5, ?_⟩
    rcases e2 with e2 | ⟨e2, cp, e3, e6, e7⟩
    · exact Or.inl e2
    · exact Or.inr ⟨e2, cp, by rw [oth p l.2.1 e2 l2]; exact e3, e6, e7⟩
  · have hne : wA W ≠ r := fun z => by rw [z, hk] at hA; cases hA
    rw [oth a _ ha hne] at hca
    exact h6 a ca ha hca
  · by_cases e : q = i
    · subst e
      rw [List.getElem?_set_self hlt] at hi
      cases hi
      show ((c.2.set k v).length : Int) ≤ tMax
      rw [List.length_set]
      exact h7 q c hq
    · rw [List.getElem?_set_ne e] at hi
      exact h7 i ci hi
/-- one place of a cell is written, and the lists are shown to hold -/
theorem tHeap.setG {W : tWd} {N M : Int} {ρ : List Nat} {h : List zC} {q r k : Nat} {c : zC} {v : Value} (H : tHeap W N ρ h) (hM : N ≤ M) (hq : h[q]? = some c) (hr : ρ[q]? = some r) (hv : ∀ R, wR W r = some R → tVal N ρ (tFd R k) v) (hL : ∀ l ∈ wLs W, tList W ρ (h.set q (c.1, c.2.set k v)) l)
    (hN : ∀ (a : Nat) (d : zC), ρ[a]? = some (wA W) → (h.set q (c.1, c.2.set k v))[a]? = some d → (∃ x : Int32, d.2[wSz W]? = some (.int x) ∧ x.toInt = M) ∧ ∀ b : Nat, ρ[b]? = some (wA W) → b = a) (hI : tIs ρ (h.set q (c.1, c.2.set k v))) : tHeap W M ρ (h.set q (c.1, c.2.set k v)) := by
  obtain ⟨h1, h2, h3, h4, h5, h6, h7, -⟩ := H
  have hlt := (List.getElem?_eq_some_iff.mp hq).1
  refine ⟨by rw [List.length_set]; exact h1, by rw [List.length_set]; exact h2, fun i ci ri Ri hi hri hRi => ?_, h4, hL, hN, fun i ci hi => ?_, hI⟩
  · by_cases e : q = i
    · subst e
      rw [List.getElem?_set_self hlt] at hi
      cases hi
      cases hr.symm.trans hri
      obtain ⟨g1, g2, g3⟩ := h3 q c r Ri hq hr hRi
      refine ⟨g1, by rw [List.length_set]; exact g2, fun j w hj => ?_⟩
      by_cases e2 : k = j
      · subst e2
        rw [List.getElem?_set_self (by have := (List.getElem?_eq_some_iff.mp hj).1; simpa using this)] at hj
        cases hj
        exact ⟨(hv Ri hRi).1, (hv Ri hRi).2.up hM⟩
      · rw [List.getElem?_set_ne e2] at hj
        exact ⟨(g3 j w hj).1, (g3 j w hj).2.up hM⟩
    · rw [List.getElem?_set_ne e] at hi
      obtain ⟨g1, g2, g3⟩ := h3 i ci ri Ri hi hri hRi
      exact ⟨g1, g2, fun j w hj => ⟨(g3 j w hj).1, (g3 j w hj).2.up hM⟩⟩
  · by_cases e : q = i
    · subst e
      rw [List.getElem?_set_self hlt] at hi
      cases hi
      show ((c.2.set k v).length : Int) ≤ tMax
      rw [List.length_set]
      exact h7 q c hq
    · rw [List.getElem?_set_ne e] at hi
      exact h7 i ci hi
theorem rApp (ρ : List Nat) (r : Nat) : ∀ i s : Nat, ρ[i]? = some s → (ρ ++ [r])[i]? = some s := fun i s e => by
  rw [List.getElem?_append_left (List.getElem?_eq_some_iff.mp e).1]
  exact e
theorem hApp (h : List zC) (c : zC) : ∀ (i : Nat) (d : zC), h[i]? = some d → (h ++ [c])[i]? = some d := fun i s e => by
  rw [List.getElem?_append_left (List.getElem?_eq_some_iff.mp e).1]
  exact e
theorem rAppInv {ρ : List Nat} {r i s : Nat} (h : (ρ ++ [r])[i]? = some s) : ρ[i]? = some s ∨ (i = ρ.length ∧ s = r) := by
  rcases Nat.lt_or_ge i ρ.length with e | e
  · rw [List.getElem?_append_left e] at h
    exact Or.inl h
  · have e1 : i = ρ.length := by
      have := (List.getElem?_eq_some_iff.mp h).1
      simp at this
      omega
    subst e1
    rw [List.getElem?_append_right (Nat.le_refl _), Nat.sub_self] at h
    cases h
    exact Or.inr ⟨rfl, rfl⟩
/-- a cell is made -/
theorem tHeap.push {W : tWd} {N : Int} {ρ : List Nat} {h : List zC} {r : Nat} {c : zC} (H : tHeap W N ρ h) (hA : wTop W (wA W) = true) (hk : wTop W r = false) (hr8 : 8 ≤ r) (hc : ∀ R, wR W r = some R → tCell N (ρ ++ [r]) R c) (hL : (c.2.length : Int) ≤ tMax) (hI : iO r = true → ∀ n : Int32, c.2[iLm]? = some (.int n) → n.toInt ≤ 0) : tHeap W N (ρ ++ [r]) (h ++ [c]) := by
  obtain ⟨h1, h2, h3, h4, h5, h6, h7, h8⟩ := H
  have hp := rApp ρ r
  have low : ∀ i s : Nat, ρ[i]? = some s → ∀ d, (h ++ [c])[i]? = some d → h[i]? = some d := fun i s e d q => by
    rw [List.getElem?_append_left (by have := (List.getElem?_eq_some_iff.mp e).1; omega)] at q
    exact q
  refine ⟨by simp [h1], by simp; omega, fun i ci ri Ri hi hri hRi => ?_, fun i ri hri => ?_, fun l hl a ca ha hca => ?_, fun a ca ha hca => ?_, fun i ci hi => ?_, fun i r' c' hri hci hio n hn j hj => ?_⟩
  · rcases rAppInv hri with e | ⟨e1, e2⟩
    · exact (h3 i ci ri Ri (low i ri e ci hi) e hRi).grow hp
    · subst e1 e2
      rw [h1, List.getElem?_append_right (Nat.le_refl _), Nat.sub_self] at hi
      cases hi
      exact hc Ri hRi
  · rcases rAppInv hri with e | ⟨e1, e2⟩
    · exact h4 i ri e
    · have hz : zro = 16 := rfl
      exact ⟨fun z => by omega, fun _ z => by omega, fun z => by omega⟩
  · have l1 := wTop_no hk l hl
    rcases rAppInv ha with e | ⟨e1, e2⟩
    · obtain ⟨p, n, e1, e4, e5, e2⟩ := h5 l hl a ca e (low a _ e ca hca)
      refine ⟨p, n, e1, e4, e5, ?_⟩
      rcases e2 with ⟨e2, e3⟩ | ⟨e2, cp, e3, e6, e7⟩
      · exact Or.inl ⟨hp _ _ e2, e3⟩
      · exact Or.inr ⟨hp _ _ e2, cp, hApp h c _ _ e3, e6, fun i hi => by
          obtain ⟨x, x1, x2⟩ := e7 i hi
          exact ⟨x, x1, hp _ _ x2⟩⟩
    · exact absurd e2 l1
  · have hno : wA W ≠ r := fun z => by rw [z, hk] at hA; cases hA
    rcases rAppInv ha with e | ⟨e1, e2⟩
    · obtain ⟨g1, g2⟩ := h6 a ca e (low a _ e ca hca)
      refine ⟨g1, fun b hb => ?_⟩
      rcases rAppInv hb with e3 | ⟨e3, e4⟩
      · exact g2 b e3
      · exact absurd e4 hno
    · exact absurd e2 hno
  · rcases Nat.lt_or_ge i h.length with e | e
    · rw [List.getElem?_append_left e] at hi
      exact h7 i ci hi
    · have e1 : i = h.length := by
        have := (List.getElem?_eq_some_iff.mp hi).1
        simp at this
        omega
      subst e1
      rw [List.getElem?_append_right (Nat.le_refl _), Nat.sub_self] at hi
      cases hi
      exact hL
  · rcases rAppInv hri with e | ⟨e1, e2⟩
    · obtain ⟨p, cp, s, g1, g2, g3, g4, g5⟩ := h8 i r' c' e (low i r' e c' hci) hio n hn j hj
      exact ⟨p, cp, s, g1, hp _ _ g2, hApp h c _ _ g3, g4, g5⟩
    · subst e1 e2
      rw [h1, List.getElem?_append_right (Nat.le_refl _), Nat.sub_self] at hci
      cases hci
      have := hI hio n hn
      omega
/-- what a method may have written of the cells that there were: the fields Wr (999: all) of roles -/
def wIn (Wr : List (Nat × Nat)) (r k : Nat) : Bool := Wr.any (fun w => w.1 == r && (w.2 == k || w.2 == 999))
def gFr (Wr : List (Nat × Nat)) (ρ0 : List Nat) (h0 h : List zC) : Prop := ∀ (a : Nat) (c : zC), h0[a]? = some c → ∃ c' : zC, h[a]? = some c' ∧ c'.1 = c.1 ∧ c'.2.length = c.2.length ∧ ∀ r : Nat, ρ0[a]? = some r → ∀ k : Nat, wIn Wr r k = false → c'.2[k]? = c.2[k]?
theorem gFr.refl (Wr : List (Nat × Nat)) (ρ0 : List Nat) (h : List zC) : gFr Wr ρ0 h h := fun a c ha => ⟨c, ha, rfl, rfl, fun _ _ _ _ => rfl⟩
theorem gFr.push {Wr : List (Nat × Nat)} {ρ0 : List Nat} {h0 h : List zC} (c : zC) (H : gFr Wr ρ0 h0 h) : gFr Wr ρ0 h0 (h ++ [c]) := fun a d ha => by
  obtain ⟨c', e1, e2⟩ := H a d ha
  exact ⟨c', hApp h c _ _ e1, e2⟩
theorem gFr.set {Wr : List (Nat × Nat)} {ρ0 : List Nat} {h0 h : List zC} {q k : Nat} {c : zC} {v : Value} (H : gFr Wr ρ0 h0 h) (hq : h[q]? = some c) (hw : h0.length ≤ q ∨ ∃ r, ρ0[q]? = some r ∧ wIn Wr r k = true) : gFr Wr ρ0 h0 (h.set q (c.1, c.2.set k v)) := fun a d ha => by
  obtain ⟨c', e1, e2, e3, e4⟩ := H a d ha
  by_cases e : q = a
  · subst e
    rw [hq] at e1
    cases e1
    refine ⟨_, List.getElem?_set_self (List.getElem?_eq_some_iff.mp hq).1, e2, by rw [List.length_set]; exact e3, fun r hr j hj => ?_⟩
    rcases hw with hw | ⟨r2, hw1, hw2⟩
    · have := (List.getElem?_eq_some_iff.mp ha).1
      omega
    · have hne : k ≠ j := fun z => by
        subst z
        rw [hr] at hw1
        cases hw1
        rw [hj] at hw2
        cases hw2
      rw [List.getElem?_set_ne hne]
      exact e4 r hr j hj
  · exact ⟨c', by rw [List.getElem?_set_ne e]; exact e1, e2, e3, e4⟩
