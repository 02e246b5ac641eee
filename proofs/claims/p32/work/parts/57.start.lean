/-! ===== the start's heap keeps the roles ===== -/
def bHas (ρ : List Nat) : tT → Value → Bool
  | (0, l, r), v => match v with
    | .int x => decide (l ≤ x.toInt) && decide (x.toInt ≤ r)
    | _ => false
  | (1, _, _), v => match v with
    | .long _ => true
    | _ => false
  | (2, _, _), v => match v with
    | .double _ => true
    | _ => false
  | (3, l, _), v => match v with
    | .ref i => decide (ρ[i]? = some l.toNat)
    | _ => false
  | (4, l, _), v => match v with
    | .ref i => decide (ρ[i]? = some l.toNat)
    | .null => true
    | _ => false
  | (5, _, _), v => match v with
    | .null => true
    | _ => false
  | (6, l, r), v => match v with
    | .ref i => decide (ρ[i]? = some l.toNat) || decide (ρ[i]? = some r.toNat)
    | _ => false
  | (_ + 7, _, _), _ => true
theorem bHas_ok {ρ : List Nat} : ∀ (t : tT) (v : Value), bHas ρ t v = true → tHas ρ t v
  | (0, l, r), v, h => by
    show ∃ x : Int32, v = .int x ∧ l ≤ x.toInt ∧ x.toInt ≤ r
    cases v with
    | int x =>
      obtain ⟨a, b⟩ := Bool.and_eq_true_iff.mp (show (decide (l ≤ x.toInt) && decide (x.toInt ≤ r)) = true from h)
      exact ⟨x, rfl, of_decide_eq_true a, of_decide_eq_true b⟩
    | _ => exact nomatch (show false = true from h)
  | (1, l, r), v, h => by
    show ∃ x : Int64, v = .long x
    cases v with
    | long x => exact ⟨x, rfl⟩
    | _ => exact nomatch (show false = true from h)
  | (2, l, r), v, h => by
    show ∃ x : UInt64, v = .double x
    cases v with
    | double x => exact ⟨x, rfl⟩
    | _ => exact nomatch (show false = true from h)
  | (3, l, r), v, h => by
    show ∃ i : Nat, v = .ref i ∧ ρ[i]? = some l.toNat
    cases v with
    | ref i => exact ⟨i, rfl, of_decide_eq_true (show decide (ρ[i]? = some l.toNat) = true from h)⟩
    | _ => exact nomatch (show false = true from h)
  | (4, l, r), v, h => by
    show v = .null ∨ ∃ i : Nat, v = .ref i ∧ ρ[i]? = some l.toNat
    cases v with
    | ref i => exact Or.inr ⟨i, rfl, of_decide_eq_true (show decide (ρ[i]? = some l.toNat) = true from h)⟩
    | null => exact Or.inl rfl
    | _ => exact nomatch (show false = true from h)
  | (5, l, r), v, h => by
    show v = .null
    cases v with
    | null => rfl
    | _ => exact nomatch (show false = true from h)
  | (6, l, r), v, h => by
    show ∃ i : Nat, v = .ref i ∧ (ρ[i]? = some l.toNat ∨ ρ[i]? = some r.toNat)
    cases v with
    | ref i =>
      rcases Bool.or_eq_true_iff.mp (show (decide (ρ[i]? = some l.toNat) || decide (ρ[i]? = some r.toNat)) = true from h) with a | a
      · exact ⟨i, rfl, Or.inl (of_decide_eq_true a)⟩
      · exact ⟨i, rfl, Or.inr (of_decide_eq_true a)⟩
    | _ => exact nomatch (show false = true from h)
  | (_ + 7, l, r), v, h => trivial
def bG (g : Nat × Int) (v : Value) : Bool := if g.1 = 1 then (match v with
    | .int x => decide (x.toInt ≤ 0 + g.2)
    | _ => false) else if g.1 = 2 then (match v with
    | .int x => decide (-x.toInt ≤ 0 + g.2)
    | _ => false) else true
theorem bG_ok {g : Nat × Int} {v : Value} (h : bG g v = true) : gHas 0 g v := by
  unfold bG at h
  unfold gHas
  split at h
  · rename_i e
    rw [if_pos e]
    split at h
    · exact ⟨_, rfl, of_decide_eq_true h⟩
    · cases h
  · rename_i e
    rw [if_neg e]
    split at h
    · rename_i e2
      rw [if_pos e2]
      split at h
      · exact ⟨_, rfl, of_decide_eq_true h⟩
      · cases h
    · rename_i e2
      rw [if_neg e2]
      trivial
def bLen (R : tR) (n : Nat) : Bool := (match R.2.1 with
  | some m => decide (n = m)
  | none => true) && decide (R.2.1 = none → R.2.2.2.2.2.1 = 0 → 0 < R.2.2.2.2.2.2 → (n : Int) ≤ R.2.2.2.2.2.2)
theorem bLen_ok {R : tR} {n : Nat} (h : bLen R n = true) : tLenOk R n := by
  unfold bLen at h
  obtain ⟨a, b⟩ := Bool.and_eq_true_iff.mp h
  refine ⟨fun m hm => ?_, of_decide_eq_true b⟩
  rw [hm] at a
  exact of_decide_eq_true a
def bCell (ρ : List Nat) (R : tR) (c : zC) : Bool := decide (c.1 = R.1) && (bLen R c.2.length && c.2.zipIdx.all (fun x => bHas ρ (tFd R x.2).1 x.1 && bG (tFd R x.2).2.2 x.1))
theorem bCell_ok {ρ : List Nat} {R : tR} {c : zC} (h : bCell ρ R c = true) : tCell 0 ρ R c := by
  unfold bCell at h
  obtain ⟨a, b⟩ := Bool.and_eq_true_iff.mp h
  obtain ⟨b, d⟩ := Bool.and_eq_true_iff.mp b
  refine ⟨of_decide_eq_true a, bLen_ok b, fun k v hv => ?_⟩
  have q := List.all_eq_true.mp d (v, k) (List.mem_zipIdx_iff_getElem?.mpr hv)
  obtain ⟨q1, q2⟩ := Bool.and_eq_true_iff.mp q
  exact ⟨bHas_ok _ _ q1, bG_ok q2⟩
/-- what is asked of the place i -/
def bAt (ρ : List Nat) (h : List zC) (p0 i : Nat) : Bool := match ρ[i]?, h[i]? with
  | some r, some c => ((decide (i < 2) || (match wR wT r with
      | some R => bCell ρ R c
      | none => true)) && decide ((i < zro → r < wW wT) ∧ (1 ≤ r → r < 8 → r ≠ 3 → i = r) ∧ (i < 8 → r = i))) && ((wLs wT).all (fun l => !(r == l.1) || (match c.2[wEd wT]?, c.2[wSz wT]? with
      | some (.ref q), some (.int n) => decide (ρ[q]? = some wE) && decide (n.toInt = 0)
      | _, _ => false)) && ((!(r == wA wT) || i == p0) && (decide ((c.2.length : Int) ≤ tMax) && !iO r)))
  | _, _ => false
def bHeap (ρ : List Nat) (h : List zC) (p0 : Nat) : Bool := decide (ρ.length = h.length ∧ zro ≤ h.length) && (List.range h.length).all (bAt ρ h p0)
theorem bAt_ok {ρ : List Nat} {h : List zC} {p0 i r : Nat} {c : zC} (hb : bAt ρ h p0 i = true) (hr : ρ[i]? = some r) (hc : h[i]? = some c) :
    ((i < 2 ∨ ∀ R, wR wT r = some R → tCell 0 ρ R c) ∧ (i < zro → r < wW wT) ∧ (1 ≤ r → r < 8 → r ≠ 3 → i = r) ∧ (i < 8 → r = i)) ∧
    (∀ l ∈ wLs wT, r = l.1 → ∃ (q : Nat) (n : Int32), c.2[wEd wT]? = some (.ref q) ∧ c.2[wSz wT]? = some (.int n) ∧ ρ[q]? = some wE ∧ n.toInt = 0) ∧ (r = wA wT → i = p0) ∧ (c.2.length : Int) ≤ tMax ∧ iO r = false := by
  unfold bAt at hb
  rw [hr, hc] at hb
  dsimp only at hb
  obtain ⟨b1, b2⟩ := Bool.and_eq_true_iff.mp hb
  obtain ⟨b1, b3⟩ := Bool.and_eq_true_iff.mp b1
  obtain ⟨b2, b4⟩ := Bool.and_eq_true_iff.mp b2
  obtain ⟨b4, b5⟩ := Bool.and_eq_true_iff.mp b4
  obtain ⟨b5, b6⟩ := Bool.and_eq_true_iff.mp b5
  refine ⟨⟨?_, of_decide_eq_true b3⟩, fun l hl e => ?_, fun e => ?_, of_decide_eq_true b5, by simpa using b6⟩
  · rcases Bool.or_eq_true_iff.mp b1 with e | e
    · exact Or.inl (of_decide_eq_true e)
    · refine Or.inr (fun R hR => ?_)
      rw [hR] at e
      exact bCell_ok e
  · have q := List.all_eq_true.mp b2 l hl
    rcases Bool.or_eq_true_iff.mp q with e2 | e2
    · simp [e] at e2
    · split at e2
      · rename_i q n e3 e4
        obtain ⟨a1, a2⟩ := Bool.and_eq_true_iff.mp e2
        exact ⟨q, n, e3, e4, of_decide_eq_true a1, of_decide_eq_true a2⟩
      · cases e2
  · rcases Bool.or_eq_true_iff.mp b4 with e2 | e2
    · simp [e] at e2
    · simpa using e2
theorem bHeap_ok {ρ : List Nat} {h : List zC} {p0 : Nat} {c0 c1 : zC} (hb : bHeap ρ h p0 = true) (hc : ∀ R, wR wT 0 = some R → tCell 0 ρ R c0) (hd : ∀ R, wR wT 1 = some R → tCell 0 ρ R c1) (hl : (c0.2.length : Int) ≤ tMax) (hm : (c1.2.length : Int) ≤ tMax) : tHeap wT 0 ρ (hF c0 c1 h) := by
  unfold bHeap at hb
  obtain ⟨a, b⟩ := Bool.and_eq_true_iff.mp hb
  obtain ⟨a1, a2⟩ := of_decide_eq_true a
  have at_ : ∀ (i r : Nat) (c : zC), ρ[i]? = some r → h[i]? = some c → bAt ρ h p0 i = true := fun i r c e1 e2 => List.all_eq_true.mp b i (List.mem_range.mpr (List.getElem?_eq_some_iff.mp e2).1)
  have get : ∀ (i : Nat) (c : zC), (hF c0 c1 h)[i]? = some c → (i = 0 ∧ c = c0) ∨ (i = 1 ∧ c = c1) ∨ (1 < i ∧ h[i]? = some c) := fun i c e => by
    have hlt := (List.getElem?_eq_some_iff.mp e).1
    rw [hF_len] at hlt
    by_cases z1 : i = 1
    · subst z1
      unfold hF at e
      rw [List.getElem?_set_self (by rw [List.length_set]; exact hlt)] at e
      cases e
      exact Or.inr (Or.inl ⟨rfl, rfl⟩)
    · by_cases z : i = 0
      · subst z
        unfold hF at e
        rw [List.getElem?_set_ne (by decide), List.getElem?_set_self hlt] at e
        cases e
        exact Or.inl ⟨rfl, rfl⟩
      · rw [hF_get (by omega)] at e
        exact Or.inr (Or.inr ⟨by omega, e⟩)
  have cel : ∀ (i r : Nat), ρ[i]? = some r → ∃ c, h[i]? = some c := fun i r e => by
    have := (List.getElem?_eq_some_iff.mp e).1
    rw [a1] at this
    exact ⟨h[i], List.getElem?_eq_getElem this⟩
  have r0 : ∀ i r : Nat, i < 2 → ρ[i]? = some r → r = i := fun i r hi e => by
    obtain ⟨c, q⟩ := cel _ _ e
    exact (bAt_ok (at_ _ _ _ e q) e q).1.2.2.2 (by omega)
  refine ⟨by rw [hF_len]; exact a1, by rw [hF_len]; exact a2, fun i c r R hi hr hR => ?_, fun i r hr => ?_, fun l hl2 x c hx hcx => ?_, fun x c hx hcx => ?_, fun i c hi => ?_, fun i r c hr hi hio => ?_⟩
  · rcases get _ _ hi with ⟨rfl, rfl⟩ | ⟨rfl, rfl⟩ | ⟨z, e⟩
    · rw [r0 0 _ (by decide) hr] at hR
      exact hc R hR
    · rw [r0 1 _ (by decide) hr] at hR
      exact hd R hR
    · rcases (bAt_ok (at_ _ _ _ hr e) hr e).1.1 with z2 | q
      · omega
      · exact q R hR
  · obtain ⟨c, q⟩ := cel _ _ hr
    exact (bAt_ok (at_ _ _ _ hr q) hr q).1.2
  · have nl : ∀ l ∈ wLs wT, l.1 ≠ 0 ∧ l.1 ≠ 1 := by decide
    rcases get _ _ hcx with ⟨rfl, rfl⟩ | ⟨rfl, rfl⟩ | ⟨z, e⟩
    · exact absurd (r0 0 _ (by decide) hx) (nl l hl2).1
    · exact absurd (r0 1 _ (by decide) hx) (nl l hl2).2
    · obtain ⟨q, n, e1, e2, e3, e4⟩ := (bAt_ok (at_ _ _ _ hx e) hx e).2.1 l hl2 rfl
      exact ⟨q, n, e1, e2, by omega, Or.inl ⟨e3, e4⟩⟩
  · rcases get _ _ hcx with ⟨rfl, rfl⟩ | ⟨rfl, rfl⟩ | ⟨z, e⟩
    · exact absurd (r0 0 _ (by decide) hx) (by decide)
    · exact absurd (r0 1 _ (by decide) hx) (by decide)
    · have q := bAt_ok (at_ _ _ _ hx e) hx e
      have hw : ∃ l ∈ wLs wT, wA wT = l.1 := ⟨_, List.mem_cons_of_mem _ (List.mem_cons_of_mem _ List.mem_cons_self), rfl⟩
      obtain ⟨l, l1, l2⟩ := hw
      obtain ⟨q1, n, e1, e2, e3, e4⟩ := q.2.1 l l1 l2
      refine ⟨⟨n, e2, e4⟩, fun b hb2 => ?_⟩
      obtain ⟨cb, qb⟩ := cel _ _ hb2
      have := (bAt_ok (at_ _ _ _ hb2 qb) hb2 qb).2.2.1 rfl
      have := q.2.2.1 rfl
      omega
  · rcases get _ _ hi with ⟨rfl, rfl⟩ | ⟨rfl, rfl⟩ | ⟨z, e⟩
    · exact hl
    · exact hm
    · have hlt := (List.getElem?_eq_some_iff.mp e).1
      rw [← a1] at hlt
      exact (bAt_ok (at_ _ _ _ (List.getElem?_eq_getElem hlt) e) (List.getElem?_eq_getElem hlt) e).2.2.2.1
  · obtain ⟨c2, q⟩ := cel _ _ hr
    have := (bAt_ok (at_ _ _ _ hr q) hr q).2.2.2.2
    rw [hio] at this
    cases this
