/-! ===== the relation of all, on ===== -/
/-! ===== the cluster: the relation of both sides ===== -/
/-- the list of the articles and its row -/
theorem al_at {N : Int} {ρ : List Nat} {h : List zC} {lc : Nat} {cc : Int32} (hH : tHeap wT N ρ h) (ro : Ro ρ) (e1 : gF h 225 1 = some (.ref lc)) (e2 : gF h 225 2 = some (.int cc)) : (∃ l, gN h lc = some l ∧ l < 2147483648) ∧ (∃ t, gT h lc = some t ∧ 93 ≤ t) ∧ 0 ≤ cc.toInt ∧ cc.toInt ≤ 24 ∧ (lc = 4 ∨ 239 ≤ lc) ∧
    (ρ[lc]? = some 4 ∨ ρ[lc]? = some 52) ∧ ∀ k, k < cc.toNatClampNeg → ∃ e : Nat, gF h lc k = some (.ref e) ∧ ρ[e]? = some 53 := by
  have hr : ρ[225]? = some 51 := ro _ _ (by decide +kernel)
  obtain ⟨c, hc, -, -, -, -, hf⟩ := kind_at hH hr (R := _) rfl
  obtain ⟨q, n, n1, n2, n3, n4⟩ := hH.2.2.2.2.1 (51, 52, 53) (by decide +kernel) 225 c hr hc
  have n1 : c.2[1]? = some (.ref q) := n1
  have n2 : c.2[2]? = some (.int n) := n2
  rw [gF_of hc, n1] at e1
  rw [gF_of hc, n2] at e2
  cases e1
  cases e2
  have h40 : cc.toInt ≤ 24 := by
    obtain ⟨x, x1, x2, x3⟩ := hf 2 (.int cc) (by rw [gF_of hc, n2])
    cases x1
    exact x3
  have el_ok : ∀ r, ρ[lc]? = some r → r = 4 ∨ r = 52 → lc = 4 ∨ 239 ≤ lc := fun r hr2 hrr => by
    rcases Nat.lt_or_ge lc 239 with z | z
    · have e := ro lc _ (List.getElem?_eq_getElem (rho_lt z))
      rw [hr2] at e
      have key : ∀ lc, lc < 239 → (rho0.getD lc 0 = 4 → lc = 4) ∧ ¬ rho0.getD lc 0 = 52 := by decide +kernel
      have e3 : rho0.getD lc 0 = r := by
        rw [List.getD_eq_getElem?_getD, List.getElem?_eq_getElem (rho_lt z)]
        exact (Option.some.inj e).symm
      rcases hrr with rfl | rfl
      · exact Or.inl ((key lc z).1 e3)
      · exact absurd e3 (key lc z).2
    · exact Or.inr z
  rcases n4 with ⟨m1, m2⟩ | ⟨m1, cq, m2, m3, m4⟩
  · have m1 : ρ[lc]? = some 4 := m1
    obtain ⟨d, hd, k1, k2, k3, k4, -⟩ := kind_at hH m1 (R := _) rfl
    refine ⟨⟨_, k2, by have : tMax = 2147483647 := rfl; omega⟩, ⟨_, k1, by decide⟩, n3, h40, el_ok 4 m1 (Or.inl rfl), Or.inl m1, fun k hk => ?_⟩
    have hk : k < cc.toInt.toNat := hk
    omega
  · have m1 : ρ[lc]? = some 52 := m1
    obtain ⟨d, hd, k1, k2, k3, k4, -⟩ := kind_at hH m1 (R := _) rfl
    refine ⟨⟨_, k2, by have : tMax = 2147483647 := rfl; omega⟩, ⟨_, k1, by decide⟩, n3, h40, el_ok 52 m1 (Or.inr rfl), Or.inr m1, fun k hk => ?_⟩
    have hk : k < cc.toInt.toNat := hk
    obtain ⟨e, f1, f2⟩ := m4 k (by omega)
    refine ⟨e, ?_, f2⟩
    rw [gF_of m2]
    exact f1

theorem no_in {Wr : List (Nat × Nat)} {rs : List Nat} (hw : Wr.all (fun w => !(rs.contains w.1)) = true) {r k : Nat} (hr : r ∈ rs) : wIn Wr r k = false := by
  unfold wIn
  refine List.any_eq_false.mpr (fun w hm => ?_)
  have := List.all_eq_true.mp hw w hm
  have n : ¬ w.1 = r := fun z => by
    rw [z] at this
    simp [hr] at this
  simp [n]
/-! the houses -/
/-- the cells of both sides that hold the same: seats, moods, tastes, pledges -/
def hoP (a k b l : Nat) (lo hi : Int) : Prop := (∃ f s, f < 4 ∧ s < 3 ∧ a = 173 + 3 * f ∧ k = s ∧ b = 227 + s ∧ l = f ∧ lo = 0 ∧ hi = 60) ∨ (∃ f m, f < 4 ∧ m < 4 ∧ a = 172 + 3 * f ∧ k = m ∧ b = 231 + f ∧ l = m ∧ lo = -5 ∧ hi = 5) ∨ (∃ f, f < 4 ∧ a = 171 + 3 * f ∧ k = 2 ∧ b = 235 ∧ l = f ∧ lo = -3 ∧ hi = 3) ∨ (∃ f, f < 4 ∧ a = 171 + 3 * f ∧ k = 3 ∧ b = 236 ∧ l = f ∧ lo = -1 ∧ hi = 23)
def qHO (h : List zC) : Prop := ∀ a k b l lo hi, hoP a k b l lo hi → ∃ x : Int32, gF h a k = some (.int x) ∧ gF h b l = some (.int x) ∧ lo ≤ x.toInt ∧ x.toInt ≤ hi
theorem hoP.at {a k b l : Nat} {lo hi : Int} (p : hoP a k b l lo hi) : 171 ≤ a ∧ a < 183 ∧ 227 ≤ b ∧ b < 237 ∧ ¬ b = 230 := by
  rcases p with ⟨f, s, h1, h2, rfl, rfl, rfl, rfl, rfl, rfl⟩ | ⟨f, s, h1, h2, rfl, rfl, rfl, rfl, rfl, rfl⟩ | ⟨f, h1, rfl, rfl, rfl, rfl, rfl, rfl⟩ | ⟨f, h1, rfl, rfl, rfl, rfl, rfl, rfl⟩ <;> omega
theorem hoP.inj {a k b l a' k' b' l' : Nat} {lo hi lo' hi' : Int} (p : hoP a k b l lo hi) (q : hoP a' k' b' l' lo' hi') : ((a = a' ∧ k = k') ↔ (b = b' ∧ l = l')) ∧ (a = a' ∧ k = k' → lo = lo' ∧ hi = hi') := by
  rcases p with ⟨f, s, h1, h2, rfl, rfl, rfl, rfl, rfl, rfl⟩ | ⟨f, s, h1, h2, rfl, rfl, rfl, rfl, rfl, rfl⟩ | ⟨f, h1, rfl, rfl, rfl, rfl, rfl, rfl⟩ | ⟨f, h1, rfl, rfl, rfl, rfl, rfl, rfl⟩ <;> rcases q with ⟨g, t, g1, g2, rfl, rfl, rfl, rfl, rfl, rfl⟩ | ⟨g, t, g1, g2, rfl, rfl, rfl, rfl, rfl, rfl⟩ | ⟨g, g1, rfl, rfl, rfl, rfl, rfl, rfl⟩ | ⟨g, g1, rfl, rfl, rfl, rfl, rfl, rfl⟩ <;> constructor <;> omega
theorem qHO.same {h h' : List zC} (r : qHO h) (e : ∀ x j, 171 ≤ x → x < 237 → ¬ x = 213 → gF h' x j = gF h x j) : qHO h' := fun a k b l lo hi p => by
  obtain ⟨x, x1, x2, x3⟩ := r a k b l lo hi p
  have q := p.at
  exact ⟨x, by rw [e a k (by omega) (by omega) (by omega)]; exact x1, by rw [e b l (by omega) (by omega) (by omega)]; exact x2, x3⟩
/-- a cell of each side is written -/
theorem qHO.put {h h' : List zC} {a k b l : Nat} {lo hi : Int} {x : Int32} (r : qHO h) (p : hoP a k b l lo hi) (hx : lo ≤ x.toInt ∧ x.toInt ≤ hi) (e : ∀ y j, 171 ≤ y → y < 237 → ¬ y = 213 → gF h' y j = if (y = a ∧ j = k) ∨ (y = b ∧ j = l) then some (.int x) else gF h y j) : qHO h' := fun a' k' b' l' lo' hi' p' => by
  have q := p.at
  have q' := p'.at
  obtain ⟨i1, i2⟩ := p'.inj p
  rw [e a' k' (by omega) (by omega) (by omega), e b' l' (by omega) (by omega) (by omega)]
  by_cases z : a' = a ∧ k' = k
  · obtain ⟨z1, z2⟩ := i2 z
    rw [if_pos (Or.inl z), if_pos (Or.inr (i1.mp z)), z1, z2]
    exact ⟨x, rfl, rfl, hx⟩
  · have w : ¬ (b' = b ∧ l' = l) := fun y => z (i1.mpr y)
    rw [if_neg (fun y => by omega), if_neg (fun y => by omega)]
    exact r a' k' b' l' lo' hi' p'
def hoR : List Nat := [27, 28, 29, 59, 61, 62, 63]
def wHo (Wr : List (Nat × Nat)) : Bool := Wr.all (fun w => !(hoR.contains w.1))
theorem qHO.fr {Wr : List (Nat × Nat)} {ρ : List Nat} {h h' : List zC} (r : qHO h) (hl : 239 ≤ h.length) (ro : Ro ρ) (hF : gFr Wr ρ h h') (hw : wHo Wr = true) : qHO h' := fun a k b l lo hi p => by
  obtain ⟨x, x1, x2, x3⟩ := r a k b l lo hi p
  have key : ∀ y, ((171 ≤ y ∧ y < 183) ∨ (227 ≤ y ∧ y < 237 ∧ ¬ y = 230)) → ∃ rr, rho0[y]? = some rr ∧ rr ∈ hoR := by
    have : ∀ y, y < 237 → ((171 ≤ y ∧ y < 183) ∨ (227 ≤ y ∧ y < 237 ∧ ¬ y = 230)) → hoR.contains (rho0.getD y 0) = true := by decide +kernel
    intro y hy
    have q := this y (by omega) hy
    refine ⟨rho0.getD y 0, ?_, by simpa using q⟩
    rw [List.getD_eq_getElem?_getD, List.getElem?_eq_getElem (show y < rho0.length by have : rho0.length = 239 := (by decide +kernel); omega)]
    rfl
  have q := p.at
  obtain ⟨ra, ra1, ra2⟩ := key a (by omega)
  obtain ⟨rb, rb1, rb2⟩ := key b (by omega)
  exact ⟨x, by rw [gFr_F hF (ro _ _ ra1) (no_in hw ra2) (by omega)]; exact x1, by rw [gFr_F hF (ro _ _ rb1) (no_in hw rb2) (by omega)]; exact x2, x3⟩
theorem sumH_put {h1 h2 h3 h5 c1 m0 : List zC} {a k b l : Nat} {lo hi : Int} {x : Int32} {w : Value} (r : qHO h1) (hl : 239 ≤ h1.length) (p : hoP a k b l lo hi) (hx : lo ≤ x.toInt ∧ x.toInt ≤ hi) (g1 : hPut h1 c1 a k (.int x)) (g2 : hPut c1 h2 238 0 w) (E : ∀ p, p < h2.length → ∀ k, gF h3 p k = gF h2 p k) (t0 : hPut h3 m0 213 0 (.int 0)) (g3 : hPut m0 h5 b l (.int x)) : qHO h5 := by
  have q := p.at
  refine r.put p hx (fun y j y1 y2 y3 => ?_)
  have l2 : h2.length = h1.length := by rw [g2.1, g1.1]
  have e1 : gF h5 y j = if y = b ∧ j = l then some (.int x) else gF h3 y j := by
    rw [g3.2.1]
    by_cases z : y = b ∧ j = l
    · rw [if_pos z, if_pos z]
    · rw [if_neg z, if_neg z, t0.2.1, if_neg (fun w => y3 w.1)]
  rw [e1]
  by_cases z : y = b ∧ j = l
  · rw [if_pos z, if_pos (Or.inr z)]
  · rw [if_neg z, E y (by omega), g2.2.1, if_neg (show ¬ (y = 238 ∧ j = 0) by omega), g1.2.1]
    by_cases w : y = a ∧ j = k
    · rw [if_pos w, if_pos (Or.inl w)]
    · rw [if_neg w, if_neg (fun v => by rcases v with v | v; exact w v; exact z v)]
theorem sumH_no {h1 h2 h3 h5 m0 : List zC} {c : Int32} (r : qHO h1) (hl : 239 ≤ h1.length) (ex : hExt h1 h2) (hl2 : h1.length ≤ h2.length) (E : ∀ p, p < h2.length → ∀ k, gF h3 p k = gF h2 p k) (t0 : hPut h3 m0 213 0 (.int 0)) (g3 : hPut m0 h5 213 0 (.int c)) : qHO h5 := r.same (fun x j x1 x2 x3 => by
  rw [g3.2.1, if_neg (fun w => x3 w.1), t0.2.1, if_neg (fun w => x3 w.1), E x (by omega), ex.fld (by omega)])

