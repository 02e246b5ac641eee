/-! ===== symbols: values known by number, and what is known of them ===== -/
/-- (0, lo, hi) an int; (1) a long; (2) a double; (3, r) a cell of the role r; (4, r) null or one; (5) null; (6, r, r2) a cell of the role r or r2; else anything -/
abbrev tT : Type := Nat × Int × Int
def tHas (ρ : List Nat) (t : tT) (v : Value) : Prop := match t.1 with
  | 0 => ∃ x : Int32, v = .int x ∧ t.2.1 ≤ x.toInt ∧ x.toInt ≤ t.2.2
  | 1 => ∃ x : Int64, v = .long x
  | 2 => ∃ x : UInt64, v = .double x
  | 3 => ∃ i : Nat, v = .ref i ∧ ρ[i]? = some t.2.1.toNat
  | 4 => v = .null ∨ ∃ i : Nat, v = .ref i ∧ ρ[i]? = some t.2.1.toNat
  | 5 => v = .null
  | 6 => ∃ i : Nat, v = .ref i ∧ (ρ[i]? = some t.2.1.toNat ∨ ρ[i]? = some t.2.2.toNat)
  | _ => True
def tSub (a b : tT) : Bool := match b.1 with
  | 0 => a.1 == 0 && (decide (b.2.1 ≤ a.2.1) && decide (a.2.2 ≤ b.2.2))
  | 1 => a.1 == 1
  | 2 => a.1 == 2
  | 3 => a.1 == 3 && decide (a.2.1.toNat = b.2.1.toNat)
  | 4 => a.1 == 5 || ((a.1 == 3 || a.1 == 4) && decide (a.2.1.toNat = b.2.1.toNat))
  | 5 => a.1 == 5
  | 6 => (a.1 == 3 && (decide (a.2.1.toNat = b.2.1.toNat) || decide (a.2.1.toNat = b.2.2.toNat))) || (a.1 == 6 && (decide (a.2.1.toNat = b.2.1.toNat) && decide (a.2.2.toNat = b.2.2.toNat)))
  | _ => true
theorem tSub_ok {ρ : List Nat} {a b : tT} {v : Value} (h : tSub a b = true) (hv : tHas ρ a v) : tHas ρ b v := by
  unfold tSub at h
  unfold tHas
  split at h
  · obtain ⟨h0, h1⟩ := Bool.and_eq_true_iff.mp h
    obtain ⟨h1, h2⟩ := Bool.and_eq_true_iff.mp h1
    have h0 : a.1 = 0 := by simpa using h0
    have h1 := of_decide_eq_true h1
    have h2 := of_decide_eq_true h2
    unfold tHas at hv
    rw [h0] at hv
    obtain ⟨x, e, q1, q2⟩ := hv
    exact ⟨x, e, Int.le_trans h1 q1, Int.le_trans q2 h2⟩
  · have h0 : a.1 = 1 := by simpa using h
    unfold tHas at hv
    rw [h0] at hv
    exact hv
  · have h0 : a.1 = 2 := by simpa using h
    unfold tHas at hv
    rw [h0] at hv
    exact hv
  · obtain ⟨h0, h1⟩ := Bool.and_eq_true_iff.mp h
    have h0 : a.1 = 3 := by simpa using h0
    have h1 := of_decide_eq_true h1
    unfold tHas at hv
    rw [h0] at hv
    rw [← h1]
    exact hv
  · rcases Bool.or_eq_true_iff.mp h with h | h
    · have h0 : a.1 = 5 := by simpa using h
      unfold tHas at hv
      rw [h0] at hv
      exact Or.inl hv
    · obtain ⟨h0, h1⟩ := Bool.and_eq_true_iff.mp h
      have h1 := of_decide_eq_true h1
      rw [← h1]
      rcases Bool.or_eq_true_iff.mp h0 with h0 | h0
      · have h0 : a.1 = 3 := by simpa using h0
        unfold tHas at hv
        rw [h0] at hv
        exact Or.inr hv
      · have h0 : a.1 = 4 := by simpa using h0
        unfold tHas at hv
        rw [h0] at hv
        exact hv
  · have h0 : a.1 = 5 := by simpa using h
    unfold tHas at hv
    rw [h0] at hv
    exact hv
  · rcases Bool.or_eq_true_iff.mp h with h | h
    · obtain ⟨h0, h1⟩ := Bool.and_eq_true_iff.mp h
      have h0 : a.1 = 3 := by simpa using h0
      unfold tHas at hv
      rw [h0] at hv
      obtain ⟨i, e, q⟩ := hv
      rcases Bool.or_eq_true_iff.mp h1 with h1 | h1
      · exact ⟨i, e, Or.inl (by rw [← of_decide_eq_true h1]; exact q)⟩
      · exact ⟨i, e, Or.inr (by rw [← of_decide_eq_true h1]; exact q)⟩
    · obtain ⟨h0, h1⟩ := Bool.and_eq_true_iff.mp h
      obtain ⟨h1, h2⟩ := Bool.and_eq_true_iff.mp h1
      have h0 : a.1 = 6 := by simpa using h0
      unfold tHas at hv
      rw [h0] at hv
      rw [← of_decide_eq_true h1, ← of_decide_eq_true h2]
      exact hv
  · trivial
theorem tHas.grow {ρ ρ' : List Nat} {t : tT} {v : Value} (hp : ∀ i r : Nat, ρ[i]? = some r → ρ'[i]? = some r) (h : tHas ρ t v) : tHas ρ' t v := by
  unfold tHas at h ⊢
  split at h
  · exact h
  · exact h
  · exact h
  · obtain ⟨i, e, q⟩ := h
    exact ⟨i, e, hp i _ q⟩
  · rcases h with h | ⟨i, e, q⟩
    · exact Or.inl h
    · exact Or.inr ⟨i, e, hp i _ q⟩
  · exact h
  · obtain ⟨i, e, q⟩ := h
    exact ⟨i, e, q.imp (hp i _) (hp i _)⟩
  · trivial
theorem tHas_int {ρ : List Nat} {t : tT} {v : Value} (h : tHas ρ t v) (hk : t.1 = 0) : ∃ x : Int32, v = .int x ∧ t.2.1 ≤ x.toInt ∧ x.toInt ≤ t.2.2 := by
  unfold tHas at h
  rw [hk] at h
  exact h
theorem tHas_long {ρ : List Nat} {t : tT} {v : Value} (h : tHas ρ t v) (hk : t.1 = 1) : ∃ x : Int64, v = .long x := by
  unfold tHas at h
  rw [hk] at h
  exact h
theorem tHas_double {ρ : List Nat} {t : tT} {v : Value} (h : tHas ρ t v) (hk : t.1 = 2) : ∃ x : UInt64, v = .double x := by
  unfold tHas at h
  rw [hk] at h
  exact h
theorem tHas_ref {ρ : List Nat} {t : tT} {v : Value} (h : tHas ρ t v) (hk : t.1 = 3) : ∃ i : Nat, v = .ref i ∧ ρ[i]? = some t.2.1.toNat := by
  unfold tHas at h
  rw [hk] at h
  exact h
def tIsR (t : tT) : Bool := t.1 == 3 || t.1 == 4 || t.1 == 5
theorem tHas_refs {ρ : List Nat} {t : tT} {v : Value} (h : tHas ρ t v) (hk : tIsR t = true) : v = .null ∨ ∃ i, v = .ref i := by
  unfold tIsR at hk
  unfold tHas at h
  simp only [Bool.or_eq_true, beq_iff_eq] at hk
  rcases hk with (hk | hk) | hk
  · rw [hk] at h
    obtain ⟨i, rfl, -⟩ := h
    exact Or.inr ⟨i, rfl⟩
  · rw [hk] at h
    rcases h with rfl | ⟨i, rfl, -⟩
    · exact Or.inl rfl
    · exact Or.inr ⟨i, rfl⟩
  · rw [hk] at h
    exact Or.inl h
def tWide (t : tT) : Bool := t.1 == 1 || t.1 == 2
def tNarr (t : tT) : Bool := t.1 == 0 || tIsR t
theorem tHas_wide {ρ : List Nat} {t : tT} {v : Value} (h : tHas ρ t v) (hk : tWide t = true) : v.category = 2 := by
  unfold tWide at hk
  simp only [Bool.or_eq_true, beq_iff_eq] at hk
  rcases hk with hk | hk
  · obtain ⟨x, rfl⟩ := tHas_long h hk; rfl
  · obtain ⟨x, rfl⟩ := tHas_double h hk; rfl
theorem tHas_narr {ρ : List Nat} {t : tT} {v : Value} (h : tHas ρ t v) (hk : tNarr t = true) : v.category = 1 := by
  unfold tNarr at hk
  rcases Bool.or_eq_true_iff.mp hk with hk | hk
  · obtain ⟨x, rfl, -⟩ := tHas_int h (by simpa using hk); rfl
  · rcases tHas_refs h hk with rfl | ⟨i, rfl⟩ <;> rfl
/-! more facts: (9) a is a double and no NaN; (10) a is the int b as a double; (11) a is the double of the bits n; (12) b = a + c; (13) a is not 0 -/
/-! the facts: (0) a ≤ b + n; (1) -a ≤ b + n; (2) the field b of the object a is c; (3) the array a is of the length b; (4) the array's a element b is c; (5) a is b op c, op n; (6) a has n bits; (7) a is new; (8) the array a begins as b does, up to c -/
abbrev sF : Type := Nat × Nat × Nat × Nat × Int
def sOp (n : Int) (x y : Int32) : Int32 := if n = 0 then x <<< (y &&& 31) else if n = 1 then x >>> (y &&& 31) else x &&& y
def pop24 (x : Int32) : Nat := ((List.range 24).filter (fun i => x.toBitVec.getLsbD i)).length
/-- how many of these are not 0 -/
def zNz (v : Value) : Bool := match v with
  | .int x => !(decide (x = 0))
  | _ => true
def zcnt (l : List Value) : Nat := (l.filter zNz).length
theorem zcnt_take (l : List Value) (n : Nat) : zcnt (l.take n) ≤ zcnt l := ((List.take_sublist n l).filter zNz).length_le
theorem zcnt_mono (l : List Value) {n m : Nat} (h : n ≤ m) : zcnt (l.take n) ≤ zcnt (l.take m) := by
  have e : l.take n = (l.take m).take n := by rw [List.take_take, Nat.min_eq_left h]
  rw [e]
  exact zcnt_take _ _
theorem zcnt_succ {l : List Value} {n : Nat} {v : Value} (h : l[n]? = some v) : zcnt (l.take (n + 1)) = zcnt (l.take n) + (if zNz v = true then 1 else 0) := by
  unfold zcnt
  rw [List.take_succ, h, List.filter_append, List.length_append]
  show _ + ([v].filter zNz).length = _
  by_cases e : zNz v = true
  · rw [if_pos e, List.filter_cons_of_pos e]; rfl
  · rw [if_neg e, List.filter_cons_of_neg e]; rfl
theorem zcnt_set (w : Value) : ∀ (l : List Value) (n : Nat), zcnt (l.set n w) ≤ zcnt l + 1
  | [], _ => by simp [zcnt]
  | v :: l, 0 => by
    show zcnt (w :: l) ≤ _
    unfold zcnt
    have h1 : ((w :: l).filter zNz).length ≤ (l.filter zNz).length + 1 := by
      by_cases e : zNz w = true
      · rw [List.filter_cons_of_pos e]; exact Nat.le_refl _
      · rw [List.filter_cons_of_neg e]; omega
    have h2 : (l.filter zNz).length ≤ ((v :: l).filter zNz).length := by
      by_cases e : zNz v = true
      · rw [List.filter_cons_of_pos e]; simp
      · rw [List.filter_cons_of_neg e]; exact Nat.le_refl _
    omega
  | v :: l, n + 1 => by
    show zcnt (v :: l.set n w) ≤ _
    have ih := zcnt_set w l n
    unfold zcnt at ih ⊢
    by_cases e : zNz v = true
    · rw [List.filter_cons_of_pos e, List.filter_cons_of_pos e, List.length_cons, List.length_cons]; omega
    · rw [List.filter_cons_of_neg e, List.filter_cons_of_neg e]; exact ih
theorem zcnt_rep (n : Nat) : zcnt (List.replicate n (.int 0)) = 0 := by
  unfold zcnt
  rw [List.filter_replicate_of_neg (by decide)]
  rfl
def fHold (hb : Nat) (ν : List Value) (h : List zC) (f : sF) : Prop := match f.1 with
  | 0 => ∃ x y : Int32, ν[f.2.1]? = some (.int x) ∧ ν[f.2.2.1]? = some (.int y) ∧ x.toInt ≤ y.toInt + f.2.2.2.2
  | 1 => ∃ x y : Int32, ν[f.2.1]? = some (.int x) ∧ ν[f.2.2.1]? = some (.int y) ∧ -x.toInt ≤ y.toInt + f.2.2.2.2
  | 2 => ∃ (a : Nat) (c : zC) (v : Value), ν[f.2.1]? = some (.ref a) ∧ h[a]? = some c ∧ c.2[f.2.2.1]? = some v ∧ ν[f.2.2.2.1]? = some v
  | 3 => ∃ (a : Nat) (c : zC) (x : Int32), ν[f.2.1]? = some (.ref a) ∧ h[a]? = some c ∧ ν[f.2.2.1]? = some (.int x) ∧ x.toInt = c.2.length
  | 4 => ∃ (a : Nat) (c : zC) (x : Int32) (v : Value), ν[f.2.1]? = some (.ref a) ∧ h[a]? = some c ∧ ν[f.2.2.1]? = some (.int x) ∧ 0 ≤ x.toInt ∧ c.2[x.toInt.toNat]? = some v ∧ ν[f.2.2.2.1]? = some v
  | 5 => ∃ x y : Int32, ν[f.2.2.1]? = some (.int x) ∧ ν[f.2.2.2.1]? = some (.int y) ∧ ν[f.2.1]? = some (.int (sOp f.2.2.2.2 x y))
  | 6 => ∃ x : Int32, ν[f.2.1]? = some (.int x) ∧ f.2.2.2.2 ≤ pop24 x
  | 7 => ∃ a : Nat, ν[f.2.1]? = some (.ref a) ∧ hb ≤ a
  | 8 => ∃ (a : Nat) (c : zC) (b : Nat) (d : zC) (x : Int32), ν[f.2.1]? = some (.ref a) ∧ h[a]? = some c ∧ ν[f.2.2.1]? = some (.ref b) ∧ h[b]? = some d ∧ ν[f.2.2.2.1]? = some (.int x) ∧ ∀ i : Nat, (i : Int) < x.toInt → c.2[i]? = d.2[i]?
  | 9 => ∃ x : UInt64, ν[f.2.1]? = some (.double x) ∧ zNan x = true
  | 10 => ∃ x : Int32, ν[f.2.2.1]? = some (.int x) ∧ ν[f.2.1]? = some (.double (FP.i2d x))
  | 11 => ν[f.2.1]? = some (.double (UInt64.ofNat f.2.2.2.2.toNat))
  | 12 => ∃ t x y : Int32, ν[f.2.1]? = some (.int t) ∧ ν[f.2.2.1]? = some (.int x) ∧ ν[f.2.2.2.1]? = some (.int y) ∧ x.toInt = t.toInt + y.toInt
  | 13 => ∃ x : Int32, ν[f.2.1]? = some (.int x) ∧ x.toInt ≠ 0
  | 14 => ∃ (a : Nat) (c : zC) (x y : Int32), ν[f.2.1]? = some (.ref a) ∧ h[a]? = some c ∧ ν[f.2.2.1]? = some (.int x) ∧ ν[f.2.2.2.1]? = some (.int y) ∧ 0 ≤ x.toInt ∧ y.toInt = zcnt (c.2.take x.toInt.toNat)
  | 15 => ∃ (a : Nat) (c : zC), ν[f.2.1]? = some (.ref a) ∧ h[a]? = some c ∧ (zcnt c.2 : Int) ≤ f.2.2.2.2
  | 16 => ∃ (a : Nat) (c : zC) (y : Int32), ν[f.2.1]? = some (.ref a) ∧ h[a]? = some c ∧ ν[f.2.2.1]? = some (.int y) ∧ 0 ≤ f.2.2.2.2 ∧ y.toInt = zcnt (c.2.take f.2.2.2.2.toNat)
  | 17 => ∃ x : Int32, ν[f.2.2.1]? = some (.int x) ∧ ν[f.2.1]? = some (.long x.toInt64)
  | 18 => ∃ (p q : Nat) (c d : zC), ν[f.2.1]? = some (.ref p) ∧ h[p]? = some c ∧ ν[f.2.2.1]? = some (.ref q) ∧ h[q]? = some d ∧ ∀ k : Nat, Nat.testBit f.2.2.2.2.toNat k = false → c.2[k]? = d.2[k]?
  | 19 => ∃ p q : Nat, ν[f.2.1]? = some (.ref p) ∧ ν[f.2.2.1]? = some (.ref q) ∧ p ≠ q
  | _ => True
theorem fHold.mono {hb : Nat} {ν ν' : List Value} {h : List zC} {f : sF} (hp : ∀ (s : Nat) (v : Value), ν[s]? = some v → ν'[s]? = some v) (H : fHold hb ν h f) : fHold hb ν' h f := by
  unfold fHold at H ⊢
  split at H
  · obtain ⟨x, y, e1, e2, e3⟩ := H
    exact ⟨x, y, hp _ _ e1, hp _ _ e2, e3⟩
  · obtain ⟨x, y, e1, e2, e3⟩ := H
    exact ⟨x, y, hp _ _ e1, hp _ _ e2, e3⟩
  · obtain ⟨a, c, v, e1, e2, e3, e4⟩ := H
    exact ⟨a, c, v, hp _ _ e1, e2, e3, hp _ _ e4⟩
  · obtain ⟨a, c, x, e1, e2, e3, e4⟩ := H
    exact ⟨a, c, x, hp _ _ e1, e2, hp _ _ e3, e4⟩
  · obtain ⟨a, c, x, v, e1, e2, e3, e4, e5, e6⟩ := H
    exact ⟨a, c, x, v, hp _ _ e1, e2, hp _ _ e3, e4, e5, hp _ _ e6⟩
  · obtain ⟨x, y, e1, e2, e3⟩ := H
    exact ⟨x, y, hp _ _ e1, hp _ _ e2, hp _ _ e3⟩
  · obtain ⟨x, e1, e2⟩ := H
    exact ⟨x, hp _ _ e1, e2⟩
  · obtain ⟨a, e1, e2⟩ := H
    exact ⟨a, hp _ _ e1, e2⟩
  · obtain ⟨a, c, b, d, x, e1, e2, e3, e4, e5, e6⟩ := H
    exact ⟨a, c, b, d, x, hp _ _ e1, e2, hp _ _ e3, e4, hp _ _ e5, e6⟩
  · obtain ⟨x, e1, e2⟩ := H
    exact ⟨x, hp _ _ e1, e2⟩
  · obtain ⟨x, e1, e2⟩ := H
    exact ⟨x, hp _ _ e1, hp _ _ e2⟩
  · exact hp _ _ H
  · obtain ⟨t, x, y, e1, e2, e3, e4⟩ := H
    exact ⟨t, x, y, hp _ _ e1, hp _ _ e2, hp _ _ e3, e4⟩
  · obtain ⟨x, e1, e2⟩ := H
    exact ⟨x, hp _ _ e1, e2⟩
  · obtain ⟨a, c, x, y, e1, e2, e3, e4, e5⟩ := H
    exact ⟨a, c, x, y, hp _ _ e1, e2, hp _ _ e3, hp _ _ e4, e5⟩
  · obtain ⟨a, c, e1, e2, e3⟩ := H
    exact ⟨a, c, hp _ _ e1, e2, e3⟩
  · obtain ⟨a, c, y, e1, e2, e3, e4⟩ := H
    exact ⟨a, c, y, hp _ _ e1, e2, hp _ _ e3, e4⟩
  · obtain ⟨x, e1, e2⟩ := H
    exact ⟨x, hp _ _ e1, hp _ _ e2⟩
  · obtain ⟨a, b, c, d, e1, e2, e3, e4, e5⟩ := H
    exact ⟨a, b, c, d, hp _ _ e1, e2, hp _ _ e3, e4, e5⟩
  · obtain ⟨a, b, e1, e2, e3⟩ := H
    exact ⟨a, b, hp _ _ e1, hp _ _ e2, e3⟩
  · trivial
theorem fHold.grow {hb : Nat} {ν : List Value} {h h' : List zC} {f : sF} (hp : ∀ (a : Nat) (c : zC), h[a]? = some c → h'[a]? = some c) (H : fHold hb ν h f) : fHold hb ν h' f := by
  unfold fHold at H ⊢
  split at H
  · exact H
  · exact H
  · obtain ⟨a, c, v, e1, e2, e3, e4⟩ := H
    exact ⟨a, c, v, e1, hp _ _ e2, e3, e4⟩
  · obtain ⟨a, c, x, e1, e2, e3, e4⟩ := H
    exact ⟨a, c, x, e1, hp _ _ e2, e3, e4⟩
  · obtain ⟨a, c, x, v, e1, e2, e3, e4, e5, e6⟩ := H
    exact ⟨a, c, x, v, e1, hp _ _ e2, e3, e4, e5, e6⟩
  · exact H
  · exact H
  · exact H
  · obtain ⟨a, c, b, d, x, e1, e2, e3, e4, e5, e6⟩ := H
    exact ⟨a, c, b, d, x, e1, hp _ _ e2, e3, hp _ _ e4, e5, e6⟩
  · exact H
  · exact H
  · exact H
  · exact H
  · exact H
  · obtain ⟨a, c, x, y, e1, e2, e3⟩ := H
    exact ⟨a, c, x, y, e1, hp _ _ e2, e3⟩
  · obtain ⟨a, c, e1, e2, e3⟩ := H
    exact ⟨a, c, e1, hp _ _ e2, e3⟩
  · obtain ⟨a, c, y, e1, e2, e3⟩ := H
    exact ⟨a, c, y, e1, hp _ _ e2, e3⟩
  · exact H
  · obtain ⟨a, b, c, d, e1, e2, e3, e4, e5⟩ := H
    exact ⟨a, b, c, d, e1, hp _ _ e2, e3, hp _ _ e4, e5⟩
  · exact H
  · trivial
/-- n is at most c and the terms -/
def cLe (ν : List Value) (sel : Int × Int × Nat → Int) (n : Int) : Int → List (Int × Int × Nat) → Prop
  | c, [] => n ≤ c
  | c, t :: r => ∃ x : Int32, ν[t.2.2]? = some (.int x) ∧ cLe ν sel n (c + sel t * x.toInt) r
theorem cLe.mono {ν ν' : List Value} {sel : Int × Int × Nat → Int} (hp : ∀ (s : Nat) (v : Value), ν[s]? = some v → ν'[s]? = some v) : ∀ {r : List (Int × Int × Nat)} {n m c d : Int}, m + c ≤ n + d → cLe ν sel n c r → cLe ν' sel m d r
  | [], n, m, c, d, hc, h => by
    unfold cLe at h ⊢
    omega
  | t :: r, n, m, c, d, hc, h => by
    unfold cLe at h ⊢
    obtain ⟨x, e, h⟩ := h
    exact ⟨x, hp _ _ e, cLe.mono hp (by omega) h⟩
/-- symbols' types, locals, stack, facts, cost (cells, slots, terms) -/
abbrev sS : Type := List tT × List (Nat × Nat) × List Nat × List sF × Int × Int × List (Int × Int × Nat)
def sGet (E : List tT) (s : Nat) : tT := E.getD s (9, 0, 0)
def gEn (ρ : List Nat) (ν : List Value) (E : List tT) : Prop := E.length = ν.length ∧ ∀ s : Nat, ∀ v, ν[s]? = some v → tHas ρ (sGet E s) v
def gLo (ν : List Value) (lv : List (Nat × Value)) (L : List (Nat × Nat)) : Prop := ∀ e ∈ L, ∃ v, zld lv e.1 = some v ∧ ν[e.2]? = some v
def gSt (ν : List Value) (T : List Nat) (st : List Value) : Prop := T.map (fun s => ν[s]?) = st.map some
def gCo (hb ub : Nat) (ν : List Value) (h : List zC) (u : Nat) (C : Int × Int × List (Int × Int × Nat)) : Prop := cLe ν (fun t => t.1) ((h.length : Int) - hb) C.1 C.2.2 ∧ cLe ν (fun t => t.2.1) ((u : Int) - ub) C.2.1 C.2.2
def gA (hb ub : Nat) (ρ : List Nat) (ν : List Value) (S : sS) (lv : List (Nat × Value)) (st : List Value) (h : List zC) (u : Nat) : Prop :=
  gEn ρ ν S.1 ∧ gLo ν lv S.2.1 ∧ gSt ν S.2.2.1 st ∧ (∀ f ∈ S.2.2.2.1, fHold hb ν h f) ∧ gCo hb ub ν h u S.2.2.2.2
def nExt (ν ν' : List Value) : Prop := ∀ (s : Nat) (v : Value), ν[s]? = some v → ν'[s]? = some v
theorem nExt.refl (ν : List Value) : nExt ν ν := fun _ _ h => h
theorem nExt.trans {a b c : List Value} (h1 : nExt a b) (h2 : nExt b c) : nExt a c := fun s v h => h2 s v (h1 s v h)
theorem nExt_app (ν ν2 : List Value) : nExt ν (ν ++ ν2) := fun s v h => by
  rw [List.getElem?_append_left (List.getElem?_eq_some_iff.mp h).1]
  exact h
theorem nNew (ν : List Value) (v : Value) : (ν ++ [v])[ν.length]? = some v := by simp
theorem gEn.push {ρ : List Nat} {ν : List Value} {E : List tT} {t : tT} {v : Value} (h : gEn ρ ν E) (hv : tHas ρ t v) : gEn ρ (ν ++ [v]) (E ++ [t]) := by
  refine ⟨by simp [h.1], fun s w hw => ?_⟩
  unfold sGet
  rw [List.getD_eq_getElem?_getD]
  rcases Nat.lt_or_ge s ν.length with e | e
  · rw [List.getElem?_append_left e] at hw
    rw [List.getElem?_append_left (by rw [h.1]; exact e), ← List.getD_eq_getElem?_getD]
    exact h.2 s w hw
  · have hs : s = ν.length := by
      have := (List.getElem?_eq_some_iff.mp hw).1
      simp at this
      omega
    subst hs
    rw [nNew] at hw
    cases hw
    rw [List.getElem?_append_right (by rw [h.1]; exact Nat.le_refl _), h.1, Nat.sub_self]
    exact hv
theorem gEn.set {ρ : List Nat} {ν : List Value} {E : List tT} {t : tT} {s : Nat} (h : gEn ρ ν E) (hv : ∀ v, ν[s]? = some v → tHas ρ t v) : gEn ρ ν (E.set s t) := by
  refine ⟨by simp [h.1], fun q w hw => ?_⟩
  unfold sGet
  rw [List.getD_eq_getElem?_getD]
  by_cases e : s = q
  · subst e
    have hl : s < E.length := by rw [h.1]; exact (List.getElem?_eq_some_iff.mp hw).1
    rw [List.getElem?_set_self hl]
    exact hv w hw
  · rw [List.getElem?_set_ne e, ← List.getD_eq_getElem?_getD]
    exact h.2 q w hw
theorem gLo.ext {ν ν' : List Value} {lv : List (Nat × Value)} {L : List (Nat × Nat)} (hp : nExt ν ν') (h : gLo ν lv L) : gLo ν' lv L := fun e he => by
  obtain ⟨v, h1, h2⟩ := h e he
  exact ⟨v, h1, hp _ _ h2⟩
theorem gSt.ext {ν ν' : List Value} (hp : nExt ν ν') : ∀ {T : List Nat} {st : List Value}, gSt ν T st → gSt ν' T st
  | [], [], _ => rfl
  | s :: T, v :: st, h => by
    unfold gSt at h ⊢
    simp only [List.map_cons, List.cons.injEq] at h ⊢
    exact ⟨hp _ _ h.1, gSt.ext hp h.2⟩
  | [], _ :: _, h => by cases h
  | _ :: _, [], h => by cases h
theorem gSt.cons {ν : List Value} {s : Nat} {T : List Nat} {v : Value} {st : List Value} (h1 : ν[s]? = some v) (h2 : gSt ν T st) : gSt ν (s :: T) (v :: st) := by
  unfold gSt at h2 ⊢
  simp only [List.map_cons, h1, h2]
theorem gSt.inv {ν : List Value} {s : Nat} {T : List Nat} {st : List Value} (h : gSt ν (s :: T) st) : ∃ v st', st = v :: st' ∧ ν[s]? = some v ∧ gSt ν T st' := by
  unfold gSt at h
  match st, h with
  | v :: st', h =>
    simp only [List.map_cons, List.cons.injEq] at h
    exact ⟨v, st', rfl, h.1, h.2⟩
  | [], h => cases h
theorem gCo.ext {hb ub : Nat} {ν ν' : List Value} {h : List zC} {u : Nat} {C : Int × Int × List (Int × Int × Nat)} (hp : nExt ν ν') (H : gCo hb ub ν h u C) : gCo hb ub ν' h u C := ⟨H.1.mono hp (Int.le_refl _), H.2.mono hp (Int.le_refl _)⟩
/-- a new symbol, and facts of it -/
theorem gA.push {hb ub : Nat} {ρ : List Nat} {ν : List Value} {S : sS} {lv : List (Nat × Value)} {st : List Value} {h : List zC} {u : Nat} {t : tT} {v : Value} (H : gA hb ub ρ ν S lv st h u) (hv : tHas ρ t v) {G : List sF} (hG : ∀ f ∈ G, fHold hb (ν ++ [v]) h f) {L : List (Nat × Nat)} {lv' : List (Nat × Value)} (hL : gLo (ν ++ [v]) lv' L) {T : List Nat} {st' : List Value} (hT : gSt (ν ++ [v]) T st') :
    gA hb ub ρ (ν ++ [v]) (S.1 ++ [t], L, T, G ++ S.2.2.2.1, S.2.2.2.2) lv' st' h u :=
  ⟨H.1.push hv, hL, hT, fun f hf => (List.mem_append.mp hf).elim (hG f) (fun q => (H.2.2.2.1 f q).mono (nExt_app _ _)), H.2.2.2.2.ext (nExt_app _ _)⟩
theorem gA.new {hb ub : Nat} {ρ : List Nat} {ν : List Value} {S : sS} {lv : List (Nat × Value)} {st : List Value} {h : List zC} {u : Nat} (H : gA hb ub ρ ν S lv st h u) (v : Value) : (ν ++ [v])[S.1.length]? = some v := by
  rw [H.1.1]
  exact nNew ν v
theorem gA.int {hb ub : Nat} {ρ : List Nat} {ν : List Value} {S : sS} {lv : List (Nat × Value)} {st : List Value} {h : List zC} {u s : Nat} {v : Value} (H : gA hb ub ρ ν S lv st h u) (hs : ν[s]? = some v) (hk : (sGet S.1 s).1 = 0) : ∃ x : Int32, v = .int x ∧ (sGet S.1 s).2.1 ≤ x.toInt ∧ x.toInt ≤ (sGet S.1 s).2.2 := tHas_int (H.1.2 s v hs) hk
