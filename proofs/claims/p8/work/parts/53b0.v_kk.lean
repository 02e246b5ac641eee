/-! ===== the relation of the cluster ===== -/
/-- a rule on both sides -/
def qRE (h : List zC) (p q : Nat) : Prop := ∃ a b c : Int32, (gF h p 3 = some (.int a) ∧ gF h q 3 = some (.int a)) ∧ (gF h p 4 = some (.int b) ∧ gF h q 4 = some (.int b)) ∧ (gF h p 6 = some (.int c) ∧ gF h q 6 = some (.int c)) ∧ gF h p 10 = some (.int (10 * bcO (a ||| b) + c)) ∧ rI 0 63 a ∧ rI 0 63 b ∧ rI 0 0 (a &&& b)
def qRL (h : List zC) (cnt : Int32) (el : Nat) : Prop := ∀ k, k < cnt.toNatClampNeg → ∃ q : Nat, gF h el k = some (.ref q) ∧ 239 ≤ q ∧ ¬ q = el ∧ qRE h (31 + k) q
/-- the rules are the same on both sides, as far as their strengths go -/
def qRR (h : List zC) : Prop := ∃ (cnt : Int32) (el : Nat), gF h 28 2 = some (.int cnt) ∧ gF h 223 2 = some (.int cnt) ∧ gF h 223 1 = some (.ref el) ∧ (el = 4 ∨ 239 ≤ el) ∧ 0 ≤ cnt.toInt ∧ cnt.toInt ≤ 40 ∧ qRL h cnt el
theorem qRE.same {h h' : List zC} {p q p' q' : Nat} (r : qRE h p q) (e : ∀ k, k = 3 ∨ k = 4 ∨ k = 6 ∨ k = 10 → gF h' p' k = gF h p k) (f : ∀ k, k = 3 ∨ k = 4 ∨ k = 6 → gF h' q' k = gF h q k) : qRE h' p' q' := by
  obtain ⟨a, b, c, ⟨a1, a2⟩, ⟨b1, b2⟩, ⟨c1, c2⟩, d1, r1, r2, r3⟩ := r
  refine ⟨a, b, c, ⟨?_, ?_⟩, ⟨?_, ?_⟩, ⟨?_, ?_⟩, ?_, r1, r2, r3⟩
  · rw [e 3 (by omega)]; exact a1
  · rw [f 3 (by omega)]; exact a2
  · rw [e 4 (by omega)]; exact b1
  · rw [f 4 (by omega)]; exact b2
  · rw [e 6 (by omega)]; exact c1
  · rw [f 6 (by omega)]; exact c2
  · rw [e 10 (by omega)]; exact d1
theorem toNat_lt {c : Int32} {k : Nat} (h : k < c.toNatClampNeg) (h40 : c.toInt ≤ 40) : k < 40 := by
  have h : k < c.toInt.toNat := h
  omega
/-- what leaves all but some fields of the results alone keeps the rules -/
theorem qRR.same {h h' : List zC} (hr : qRR h) (hl : 239 ≤ h.length) (e : ∀ p k, p < h.length → ¬ p = 213 → ¬ p = 238 → gF h' p k = gF h p k) : qRR h' := by
  obtain ⟨cnt, el, r1, r2, r3, r4, r5, r6, r7⟩ := hr
  refine ⟨cnt, el, ?_, ?_, ?_, r4, r5, r6, fun k hk => ?_⟩
  · rw [e 28 2 (by omega) (by omega) (by omega)]; exact r1
  · rw [e 223 2 (by omega) (by omega) (by omega)]; exact r2
  · rw [e 223 1 (by omega) (by omega) (by omega)]; exact r3
  · obtain ⟨q, q1, q2, q3, q4⟩ := r7 k hk
    have k40 := toNat_lt hk r6
    have hq : q < h.length := by
      obtain ⟨a, b, c, ⟨-, a2⟩, -⟩ := q4
      exact gF_lt a2
    refine ⟨q, ?_, q2, q3, q4.same (fun k _ => e _ _ (by omega) (by omega) (by omega)) (fun k _ => e _ _ hq (by omega) (by omega))⟩
    rw [e el k (gF_lt q1) (by omega) (by omega)]
    exact q1
/-- a cell's kind by its role -/
theorem kind_at {N : Int} {ρ : List Nat} {h : List zC} {p r : Nat} {R : tR} (hH : tHeap wT N ρ h) (hr : ρ[p]? = some r) (hR : wR wT r = some R) : ∃ c, h[p]? = some c ∧ gT h p = some R.1 ∧ gN h p = some c.2.length ∧ (∀ m, R.2.1 = some m → c.2.length = m) ∧ (c.2.length : Int) ≤ tMax ∧ ∀ k v, gF h p k = some v → tHas ρ (tFd R k).1 v := by
  obtain ⟨c, hc⟩ := hH.role hr
  obtain ⟨t1, t2, t3⟩ := hH.2.2.1 p c r R hc hr hR
  unfold tLenOk at t2
  refine ⟨c, hc, (gT_of hc).trans (congrArg some t1), gN_of hc, t2.1, hH.2.2.2.2.2.2.1 p c hc, fun k v e => ?_⟩
  rw [gF_of hc] at e
  exact (t3 k v e).1
/-- a list and its row -/
theorem rl_at {N : Int} {ρ : List Nat} {h : List zC} {el : Nat} {cnt : Int32} (hH : tHeap wT N ρ h) (ro : Ro ρ) (e1 : gF h 223 1 = some (.ref el)) (e2 : gF h 223 2 = some (.int cnt)) : (∃ l, gN h el = some l ∧ l < 2147483648) ∧ (∃ t, gT h el = some t ∧ 93 ≤ t) ∧ 0 ≤ cnt.toInt ∧ cnt.toInt ≤ 40 ∧ (el = 4 ∨ 239 ≤ el) ∧
    (ρ[el]? = some 4 ∨ ρ[el]? = some 46) ∧ ∀ k, k < cnt.toNatClampNeg → ∃ e : Nat, gF h el k = some (.ref e) ∧ ρ[e]? = some 47 := by
  have hr : ρ[223]? = some 45 := ro _ _ (by decide +kernel)
  obtain ⟨c, hc, -, -, -, -, hf⟩ := kind_at hH hr (R := _) rfl
  obtain ⟨q, n, n1, n2, n3, n4⟩ := hH.2.2.2.2.1 (45, 46, 47) (by decide +kernel) 223 c hr hc
  have n1 : c.2[1]? = some (.ref q) := n1
  have n2 : c.2[2]? = some (.int n) := n2
  rw [gF_of hc, n1] at e1
  rw [gF_of hc, n2] at e2
  cases e1
  cases e2
  have h40 : cnt.toInt ≤ 40 := by
    obtain ⟨x, x1, x2, x3⟩ := hf 2 (.int cnt) (by rw [gF_of hc, n2])
    cases x1
    exact x3
  have el_ok : ∀ r, ρ[el]? = some r → r = 4 ∨ r = 46 → el = 4 ∨ 239 ≤ el := fun r hr2 hrr => by
    rcases Nat.lt_or_ge el 239 with z | z
    · have e := ro el _ (List.getElem?_eq_getElem (rho_lt z))
      rw [hr2] at e
      have key : ∀ el, el < 239 → (rho0.getD el 0 = 4 → el = 4) ∧ ¬ rho0.getD el 0 = 46 := by decide +kernel
      have e3 : rho0.getD el 0 = r := by
        rw [List.getD_eq_getElem?_getD, List.getElem?_eq_getElem (rho_lt z)]
        exact (Option.some.inj e).symm
      rcases hrr with rfl | rfl
      · exact Or.inl ((key el z).1 e3)
      · exact absurd e3 (key el z).2
    · exact Or.inr z
  rcases n4 with ⟨m1, m2⟩ | ⟨m1, cq, m2, m3, m4⟩
  · have m1 : ρ[el]? = some 4 := m1
    obtain ⟨d, hd, k1, k2, k3, k4, -⟩ := kind_at hH m1 (R := _) rfl
    refine ⟨⟨_, k2, by have : tMax = 2147483647 := rfl; omega⟩, ⟨_, k1, by decide⟩, n3, h40, el_ok 4 m1 (Or.inl rfl), Or.inl m1, fun k hk => ?_⟩
    have hk : k < cnt.toInt.toNat := hk
    omega
  · have m1 : ρ[el]? = some 46 := m1
    obtain ⟨d, hd, k1, k2, k3, k4, -⟩ := kind_at hH m1 (R := _) rfl
    refine ⟨⟨_, k2, by have : tMax = 2147483647 := rfl; omega⟩, ⟨_, k1, by decide⟩, n3, h40, el_ok 46 m1 (Or.inr rfl), Or.inr m1, fun k hk => ?_⟩
    have hk : k < cnt.toInt.toNat := hk
    obtain ⟨e, f1, f2⟩ := m4 k (by omega)
    refine ⟨e, ?_, f2⟩
    rw [gF_of m2]
    exact f1
/-- the fields of a reference's rule are numbers -/
theorem rl_int {N : Int} {ρ : List Nat} {h : List zC} {e k : Nat} (hH : tHeap wT N ρ h) (hr : ρ[e]? = some 47) (hk : k = 3 ∨ k = 4 ∨ k = 6) : ∃ x : Int32, gF h e k = some (.int x) := by
  obtain ⟨c, hc, -, -, k3, -, hf⟩ := kind_at hH hr (R := _) rfl
  have hlen : c.2.length = 10 := k3 10 rfl
  have h2 : gF h e k = some (c.2[k]'(by omega)) := by
    rw [gF_of hc, List.getElem?_eq_getElem]
  have h3 := hf k _ h2
  rcases hk with rfl | rfl | rfl
  all_goals
    obtain ⟨x, x1, -⟩ := h3
    exact ⟨x, by rw [h2, x1]⟩
/-- the reference's day is a number -/
theorem day_int {N : Int} {ρ : List Nat} {h : List zC} (hH : tHeap wT N ρ h) (ro : Ro ρ) : ∃ d : Int32, gF h 213 1 = some (.int d) := by
  obtain ⟨c, hc, -, -, k3, -, hf⟩ := kind_at hH (ro 213 40 (by decide +kernel)) (R := _) rfl
  have hlen : c.2.length = 18 := k3 18 rfl
  have h2 : gF h 213 1 = some (c.2[1]'(by omega)) := by
    rw [gF_of hc, List.getElem?_eq_getElem]
  obtain ⟨x, x1, -⟩ := hf 1 _ h2
  exact ⟨x, by rw [h2, x1]⟩
theorem iN_cl {x c : Int32} (hc : 0 ≤ c.toInt) (h : iN c.toInt x) : x.toNatClampNeg < c.toNatClampNeg := by
  obtain ⟨h1, h2⟩ := h
  show x.toInt.toNat < c.toInt.toNat
  omega
theorem qRR.fr {Wr : List (Nat × Nat)} {N : Int} {ρ : List Nat} {h h' : List zC} (hr : qRR h) (hS : Stc h) (ro : Ro ρ) (hH : tHeap wT N ρ h) (hF : gFr Wr ρ h h') (hw : Wr.all (fun w => !(w.1 == 4) && !(w.1 == 16) && !(w.1 == 18) && !(w.1 == 45) && !(w.1 == 46) && !(w.1 == 47)) = true) : qRR h' := by
  have no : ∀ r k, r = 4 ∨ r = 16 ∨ r = 18 ∨ r = 45 ∨ r = 46 ∨ r = 47 → wIn Wr r k = false := fun r k hrk => by
    unfold wIn
    refine List.any_eq_false.mpr (fun w hm => ?_)
    have := List.all_eq_true.mp hw w hm
    simp only [Bool.and_eq_true, Bool.not_eq_true', beq_eq_false_iff_ne] at this
    have : ¬ w.1 = r := by omega
    simp [this]
  have hl := hS.1
  obtain ⟨cnt, el, r1, r2, r3, r4, r5, r6, r7⟩ := hr
  obtain ⟨-, -, -, -, -, s6, s7⟩ := rl_at hH ro r3 r2
  have r18 : ∀ k, k < 40 → rho0[31 + k]? = some 18 := by decide +kernel
  refine ⟨cnt, el, ?_, ?_, ?_, r4, r5, r6, fun k hk => ?_⟩
  · rw [gFr_F hF (ro 28 16 (by decide +kernel)) (no _ _ (by omega)) (by omega)]; exact r1
  · rw [gFr_F hF (ro 223 45 (by decide +kernel)) (no _ _ (by omega)) (by omega)]; exact r2
  · rw [gFr_F hF (ro 223 45 (by decide +kernel)) (no _ _ (by omega)) (by omega)]; exact r3
  · obtain ⟨q, q1, q2, q3, q4⟩ := r7 k hk
    have k40 := toNat_lt hk r6
    obtain ⟨e, e1, e2⟩ := s7 k hk
    rw [q1] at e1
    cases e1
    have hq : q < h.length := by
      obtain ⟨a, b, c, ⟨-, a2⟩, -⟩ := q4
      exact gF_lt a2
    refine ⟨q, ?_, q2, q3, q4.same (fun k2 _ => gFr_F hF (ro _ _ (r18 k k40)) (no _ _ (by omega)) (by omega)) (fun k2 _ => gFr_F hF e2 (no _ _ (by omega)) hq)⟩
    rcases s6 with s6 | s6
    · rw [gFr_F hF s6 (no _ _ (by omega)) (gF_lt q1)]; exact q1
    · rw [gFr_F hF s6 (no _ _ (by omega)) (gF_lt q1)]; exact q1
theorem n_succ {c : Int32} (h0 : 0 ≤ c.toInt) (h : c.toInt < 40) : (c + 1).toNatClampNeg = c.toNatClampNeg + 1 ∧ (c + 1).toInt = c.toInt + 1 := by
  have e : (c + 1).toInt = c.toInt + 1 := by
    rw [Int32.toInt_add]
    have z1 : (1 : Int32).toInt = 1 := rfl
    rw [z1]
    exact Int.bmod_eq_of_le (by omega) (by omega)
  refine ⟨?_, e⟩
  show (c + 1).toInt.toNat = c.toInt.toNat + 1
  omega
def qRDy (h : List zC) : Prop := ∃ d : Int32, gF h 16 0 = some (.int d) ∧ gF h 213 1 = some (.int d)
theorem qRDy.fr {Wr : List (Nat × Nat)} {ρ : List Nat} {h h' : List zC} (hr : qRDy h) (hl : 239 ≤ h.length) (ro : Ro ρ) (hF : gFr Wr ρ h h') (hw : (!(wIn Wr 8 0) && !(wIn Wr 40 1)) = true) : qRDy h' := by
  obtain ⟨d, d1, d2⟩ := hr
  obtain ⟨w1, w2⟩ := Bool.and_eq_true_iff.mp hw
  exact ⟨d, by rw [gFr_F hF (ro 16 8 (by decide +kernel)) (by simpa using w1) (by omega)]; exact d1, by rw [gFr_F hF (ro 213 40 (by decide +kernel)) (by simpa using w2) (by omega)]; exact d2⟩
def wDy (Wr : List (Nat × Nat)) : Bool := !(wIn Wr 8 0) && !(wIn Wr 40 1)
section fr3d
variable {W2 W4 : List (Nat × Nat)} {N1 N2 N3 : Int} {ρ1 ρ2 ρ3 : List Nat} {h1 h2 h3 h4 : List zC}
theorem qRDy.fr3 (hr : qRDy h1) (S1 : Stc h1) (ro1 : Ro ρ1) (H1 : tHeap wT N1 ρ1 h1) (F2 : gFr W2 ρ1 h1 h2) (w2 : wDy W2 = true) (S2 : Stc h2) (ro2 : Ro ρ2) (H2 : tHeap wT N2 ρ2 h2) (F3 : gFr [] ρ2 h2 h3) (S3 : Stc h3) (ro3 : Ro ρ3) (H3 : tHeap wT N3 ρ3 h3) (F4 : gFr W4 ρ3 h3 h4) (w4 : wDy W4 = true) : qRDy h4 := ((hr.fr S1.1 ro1 F2 w2).fr S2.1 ro2 F3 rfl).fr S3.1 ro3 F4 w4
end fr3d
/-- days pass on both sides -/
theorem sum_pass {h1 h2 h3 h5 : List zC} {u2 u5 : Nat} {d x k r' : Int32} (d1 : gF h1 16 0 = some (.int d)) (d2 : gF h1 213 1 = some (.int d)) (hl : 239 ≤ h1.length) (hl2 : h1.length ≤ h2.length)
    (V1 : Q_Lpass d x h1 (.inl (some (.int k))) h2 u2) (E : ∀ p, p < h2.length → ∀ k, gF h3 p k = gF h2 p k) (V2 : Q_mpass d x h3 (.inl (some (.int r'))) h5 u5) : qRDy h5 := by
  obtain ⟨k', e1, V1⟩ := V1
  cases e1
  obtain ⟨y, h4, e2, t0, V2⟩ := V2
  rcases V1 with ⟨rfl, ok, hm, p1, po⟩ | ⟨rfl, no, ex⟩ | ⟨rfl, yes, no, ex⟩
  · rcases V2 with ⟨-, -, g⟩ | ⟨n, -⟩ | ⟨-, n, -⟩
    · refine ⟨d + x, ?_, by rw [g.2.1, if_pos ⟨rfl, rfl⟩]⟩
      rw [g.2.1, if_neg (by omega), t0.2.1, if_neg (by omega), E 16 (by omega), po.2.1, if_neg (by omega), p1.2.1, if_pos ⟨rfl, rfl⟩]
    · exact absurd ok.1 n
    · exact absurd ok.2 n
  · rcases V2 with ⟨w', -⟩ | ⟨-, t1⟩ | ⟨w', -⟩
    · exact absurd w'.1 no
    · refine ⟨d, ?_, ?_⟩
      · rw [t1.2.1, if_neg (by omega), t0.2.1, if_neg (by omega), E 16 (by omega), ex.fld (by omega)]; exact d1
      · rw [t1.2.1, if_neg (by omega), t0.2.1, if_neg (by omega), E 213 (by omega), ex.fld (by omega)]; exact d2
    · exact absurd w' no
  · rcases V2 with ⟨w', -⟩ | ⟨n, -⟩ | ⟨-, -, t1⟩
    · exact absurd w'.2 no
    · exact absurd yes n
    · refine ⟨d, ?_, ?_⟩
      · rw [t1.2.1, if_neg (by omega), t0.2.1, if_neg (by omega), E 16 (by omega), ex.fld (by omega)]; exact d1
      · rw [t1.2.1, if_neg (by omega), t0.2.1, if_neg (by omega), E 213 (by omega), ex.fld (by omega)]; exact d2
/-! ===== the cluster: the relation of both sides ===== -/
/-- the list of the articles and its row -/
theorem al_at {N : Int} {ρ : List Nat} {h : List zC} {lc : Nat} {cc : Int32} (hH : tHeap wT N ρ h) (ro : Ro ρ) (e1 : gF h 225 1 = some (.ref lc)) (e2 : gF h 225 2 = some (.int cc)) : (∃ l, gN h lc = some l ∧ l < 2147483648) ∧ (∃ t, gT h lc = some t ∧ 93 ≤ t) ∧ 0 ≤ cc.toInt ∧ cc.toInt ≤ 24 ∧ (lc = 4 ∨ 239 ≤ lc) ∧
    (ρ[lc]? = some 4 ∨ ρ[lc]? = some 52) ∧ ∀ k, k < cc.toNatClampNeg → ∃ e : Nat, gF h lc k = some (.ref e) ∧ ρ[e]? = some 53 := by
  have hr : ρ[225]? = some 51 := ro _ _ (by decide +kernel)
  obtain ⟨c, hc, -, -, -, -, hf⟩ := kind_at hH hr (R := _) rfl
  obtain ⟨q, n, n1, n2, n3, n4⟩ := hH.2.2.2.2.1 (51, 52, 53) (by decide +kernel) 225 c hr hc
  have n1 : c.2[1]? = some (.ref q) := n1
  have n2 : c.2[2]? = some (.int n) := n2
  rw [gF_of hc, n1] at e1
  rw [gF_of hc, n2] at e2
  cases e1
  cases e2
  have h40 : cc.toInt ≤ 24 := by
    obtain ⟨x, x1, x2, x3⟩ := hf 2 (.int cc) (by rw [gF_of hc, n2])
    cases x1
    exact x3
  have el_ok : ∀ r, ρ[lc]? = some r → r = 4 ∨ r = 52 → lc = 4 ∨ 239 ≤ lc := fun r hr2 hrr => by
    rcases Nat.lt_or_ge lc 239 with z | z
    · have e := ro lc _ (List.getElem?_eq_getElem (rho_lt z))
      rw [hr2] at e
      have key : ∀ lc, lc < 239 → (rho0.getD lc 0 = 4 → lc = 4) ∧ ¬ rho0.getD lc 0 = 52 := by decide +kernel
      have e3 : rho0.getD lc 0 = r := by
        rw [List.getD_eq_getElem?_getD, List.getElem?_eq_getElem (rho_lt z)]
        exact (Option.some.inj e).symm
      rcases hrr with rfl | rfl
      · exact Or.inl ((key lc z).1 e3)
      · exact absurd e3 (key lc z).2
    · exact Or.inr z
  rcases n4 with ⟨m1, m2⟩ | ⟨m1, cq, m2, m3, m4⟩
  · have m1 : ρ[lc]? = some 4 := m1
    obtain ⟨d, hd, k1, k2, k3, k4, -⟩ := kind_at hH m1 (R := _) rfl
    refine ⟨⟨_, k2, by have : tMax = 2147483647 := rfl; omega⟩, ⟨_, k1, by decide⟩, n3, h40, el_ok 4 m1 (Or.inl rfl), Or.inl m1, fun k hk => ?_⟩
    have hk : k < cc.toInt.toNat := hk
    omega
  · have m1 : ρ[lc]? = some 52 := m1
    obtain ⟨d, hd, k1, k2, k3, k4, -⟩ := kind_at hH m1 (R := _) rfl
    refine ⟨⟨_, k2, by have : tMax = 2147483647 := rfl; omega⟩, ⟨_, k1, by decide⟩, n3, h40, el_ok 52 m1 (Or.inr rfl), Or.inr m1, fun k hk => ?_⟩
    have hk : k < cc.toInt.toNat := hk
    obtain ⟨e, f1, f2⟩ := m4 k (by omega)
    refine ⟨e, ?_, f2⟩
    rw [gF_of m2]
    exact f1

theorem no_in {Wr : List (Nat × Nat)} {rs : List Nat} (hw : Wr.all (fun w => !(rs.contains w.1)) = true) {r k : Nat} (hr : r ∈ rs) : wIn Wr r k = false := by
  unfold wIn
  refine List.any_eq_false.mpr (fun w hm => ?_)
  have := List.all_eq_true.mp hw w hm
  have n : ¬ w.1 = r := fun z => by
    rw [z] at this
    simp [hr] at this
  simp [n]
/-! the houses -/
/-- the cells of both sides that hold the same: seats, moods, tastes, pledges -/
def hoP (a k b l : Nat) (lo hi : Int) : Prop := (∃ f s, f < 4 ∧ s < 3 ∧ a = 173 + 3 * f ∧ k = s ∧ b = 227 + s ∧ l = f ∧ lo = 0 ∧ hi = 60) ∨ (∃ f m, f < 4 ∧ m < 4 ∧ a = 172 + 3 * f ∧ k = m ∧ b = 231 + f ∧ l = m ∧ lo = -5 ∧ hi = 5) ∨ (∃ f, f < 4 ∧ a = 171 + 3 * f ∧ k = 2 ∧ b = 235 ∧ l = f ∧ lo = -3 ∧ hi = 3) ∨ (∃ f, f < 4 ∧ a = 171 + 3 * f ∧ k = 3 ∧ b = 236 ∧ l = f ∧ lo = -1 ∧ hi = 23)
def qHO (h : List zC) : Prop := ∀ a k b l lo hi, hoP a k b l lo hi → ∃ x : Int32, gF h a k = some (.int x) ∧ gF h b l = some (.int x) ∧ lo ≤ x.toInt ∧ x.toInt ≤ hi
theorem hoP.at {a k b l : Nat} {lo hi : Int} (p : hoP a k b l lo hi) : 171 ≤ a ∧ a < 183 ∧ 227 ≤ b ∧ b < 237 ∧ ¬ b = 230 := by
  rcases p with ⟨f, s, h1, h2, rfl, rfl, rfl, rfl, rfl, rfl⟩ | ⟨f, s, h1, h2, rfl, rfl, rfl, rfl, rfl, rfl⟩ | ⟨f, h1, rfl, rfl, rfl, rfl, rfl, rfl⟩ | ⟨f, h1, rfl, rfl, rfl, rfl, rfl, rfl⟩ <;> omega
theorem hoP.inj {a k b l a' k' b' l' : Nat} {lo hi lo' hi' : Int} (p : hoP a k b l lo hi) (q : hoP a' k' b' l' lo' hi') : ((a = a' ∧ k = k') ↔ (b = b' ∧ l = l')) ∧ (a = a' ∧ k = k' → lo = lo' ∧ hi = hi') := by
  rcases p with ⟨f, s, h1, h2, rfl, rfl, rfl, rfl, rfl, rfl⟩ | ⟨f, s, h1, h2, rfl, rfl, rfl, rfl, rfl, rfl⟩ | ⟨f, h1, rfl, rfl, rfl, rfl, rfl, rfl⟩ | ⟨f, h1, rfl, rfl, rfl, rfl, rfl, rfl⟩ <;> rcases q with ⟨g, t, g1, g2, rfl, rfl, rfl, rfl, rfl, rfl⟩ | ⟨g, t, g1, g2, rfl, rfl, rfl, rfl, rfl, rfl⟩ | ⟨g, g1, rfl, rfl, rfl, rfl, rfl, rfl⟩ | ⟨g, g1, rfl, rfl, rfl, rfl, rfl, rfl⟩ <;> constructor <;> omega
theorem qHO.same {h h' : List zC} (r : qHO h) (e : ∀ x j, 171 ≤ x → x < 237 → ¬ x = 213 → gF h' x j = gF h x j) : qHO h' := fun a k b l lo hi p => by
  obtain ⟨x, x1, x2, x3⟩ := r a k b l lo hi p
  have q := p.at
  exact ⟨x, by rw [e a k (by omega) (by omega) (by omega)]; exact x1, by rw [e b l (by omega) (by omega) (by omega)]; exact x2, x3⟩
/-- a cell of each side is written -/
theorem qHO.put {h h' : List zC} {a k b l : Nat} {lo hi : Int} {x : Int32} (r : qHO h) (p : hoP a k b l lo hi) (hx : lo ≤ x.toInt ∧ x.toInt ≤ hi) (e : ∀ y j, 171 ≤ y → y < 237 → ¬ y = 213 → gF h' y j = if (y = a ∧ j = k) ∨ (y = b ∧ j = l) then some (.int x) else gF h y j) : qHO h' := fun a' k' b' l' lo' hi' p' => by
  have q := p.at
  have q' := p'.at
  obtain ⟨i1, i2⟩ := p'.inj p
  rw [e a' k' (by omega) (by omega) (by omega), e b' l' (by omega) (by omega) (by omega)]
  by_cases z : a' = a ∧ k' = k
  · obtain ⟨z1, z2⟩ := i2 z
    rw [if_pos (Or.inl z), if_pos (Or.inr (i1.mp z)), z1, z2]
    exact ⟨x, rfl, rfl, hx⟩
  · have w : ¬ (b' = b ∧ l' = l) := fun y => z (i1.mpr y)
    rw [if_neg (fun y => by omega), if_neg (fun y => by omega)]
    exact r a' k' b' l' lo' hi' p'
def hoR : List Nat := [27, 28, 29, 59, 61, 62, 63]
def wHo (Wr : List (Nat × Nat)) : Bool := Wr.all (fun w => !(hoR.contains w.1))
theorem qHO.fr {Wr : List (Nat × Nat)} {ρ : List Nat} {h h' : List zC} (r : qHO h) (hl : 239 ≤ h.length) (ro : Ro ρ) (hF : gFr Wr ρ h h') (hw : wHo Wr = true) : qHO h' := fun a k b l lo hi p => by
  obtain ⟨x, x1, x2, x3⟩ := r a k b l lo hi p
  have key : ∀ y, ((171 ≤ y ∧ y < 183) ∨ (227 ≤ y ∧ y < 237 ∧ ¬ y = 230)) → ∃ rr, rho0[y]? = some rr ∧ rr ∈ hoR := by
    have : ∀ y, y < 237 → ((171 ≤ y ∧ y < 183) ∨ (227 ≤ y ∧ y < 237 ∧ ¬ y = 230)) → hoR.contains (rho0.getD y 0) = true := by decide +kernel
    intro y hy
    have q := this y (by omega) hy
    refine ⟨rho0.getD y 0, ?_, by simpa using q⟩
    rw [List.getD_eq_getElem?_getD, List.getElem?_eq_getElem (show y < rho0.length by have : rho0.length = 239 := (by decide +kernel); omega)]
    rfl
  have q := p.at
  obtain ⟨ra, ra1, ra2⟩ := key a (by omega)
  obtain ⟨rb, rb1, rb2⟩ := key b (by omega)
  exact ⟨x, by rw [gFr_F hF (ro _ _ ra1) (no_in hw ra2) (by omega)]; exact x1, by rw [gFr_F hF (ro _ _ rb1) (no_in hw rb2) (by omega)]; exact x2, x3⟩
theorem sumH_put {h1 h2 h3 h5 c1 m0 : List zC} {a k b l : Nat} {lo hi : Int} {x : Int32} {w : Value} (r : qHO h1) (hl : 239 ≤ h1.length) (p : hoP a k b l lo hi) (hx : lo ≤ x.toInt ∧ x.toInt ≤ hi) (g1 : hPut h1 c1 a k (.int x)) (g2 : hPut c1 h2 238 0 w) (E : ∀ p, p < h2.length → ∀ k, gF h3 p k = gF h2 p k) (t0 : hPut h3 m0 213 0 (.int 0)) (g3 : hPut m0 h5 b l (.int x)) : qHO h5 := by
  have q := p.at
  refine r.put p hx (fun y j y1 y2 y3 => ?_)
  have l2 : h2.length = h1.length := by rw [g2.1, g1.1]
  have e1 : gF h5 y j = if y = b ∧ j = l then some (.int x) else gF h3 y j := by
    rw [g3.2.1]
    by_cases z : y = b ∧ j = l
    · rw [if_pos z, if_pos z]
    · rw [if_neg z, if_neg z, t0.2.1, if_neg (fun w => y3 w.1)]
  rw [e1]
  by_cases z : y = b ∧ j = l
  · rw [if_pos z, if_pos (Or.inr z)]
  · rw [if_neg z, E y (by omega), g2.2.1, if_neg (show ¬ (y = 238 ∧ j = 0) by omega), g1.2.1]
    by_cases w : y = a ∧ j = k
    · rw [if_pos w, if_pos (Or.inl w)]
    · rw [if_neg w, if_neg (fun v => by rcases v with v | v; exact w v; exact z v)]
theorem sumH_no {h1 h2 h3 h5 m0 : List zC} {c : Int32} (r : qHO h1) (hl : 239 ≤ h1.length) (ex : hExt h1 h2) (hl2 : h1.length ≤ h2.length) (E : ∀ p, p < h2.length → ∀ k, gF h3 p k = gF h2 p k) (t0 : hPut h3 m0 213 0 (.int 0)) (g3 : hPut m0 h5 213 0 (.int c)) : qHO h5 := r.same (fun x j x1 x2 x3 => by
  rw [g3.2.1, if_neg (fun w => x3 w.1), t0.2.1, if_neg (fun w => x3 w.1), E x (by omega), ex.fld (by omega)])

