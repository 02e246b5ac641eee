/-! ===== the rules, the people: the relation of both sides ===== -/
/-- a rule on both sides -/
def qRE (h : List zC) (p q : Nat) : Prop := ∃ a b c : Int32, (gF h p 3 = some (.int a) ∧ gF h q 3 = some (.int a)) ∧ (gF h p 4 = some (.int b) ∧ gF h q 4 = some (.int b)) ∧ (gF h p 6 = some (.int c) ∧ gF h q 6 = some (.int c)) ∧ gF h p 10 = some (.int (10 * bcO (a ||| b) + c)) ∧ rI 0 63 a ∧ rI 0 63 b ∧ rI 0 0 (a &&& b)
def qRL (h : List zC) (cnt : Int32) (el : Nat) : Prop := ∀ k, k < cnt.toNatClampNeg → ∃ q : Nat, gF h el k = some (.ref q) ∧ 239 ≤ q ∧ ¬ q = el ∧ qRE h (31 + k) q
/-- the rules are the same on both sides, as far as their strengths go -/
def qRR (h : List zC) : Prop := ∃ (cnt : Int32) (el : Nat), gF h 28 2 = some (.int cnt) ∧ gF h 223 2 = some (.int cnt) ∧ gF h 223 1 = some (.ref el) ∧ (el = 4 ∨ 239 ≤ el) ∧ 0 ≤ cnt.toInt ∧ cnt.toInt ≤ 40 ∧ qRL h cnt el
theorem qRE.same {h h' : List zC} {p q p' q' : Nat} (r : qRE h p q) (e : ∀ k, k = 3 ∨ k = 4 ∨ k = 6 ∨ k = 10 → gF h' p' k = gF h p k) (f : ∀ k, k = 3 ∨ k = 4 ∨ k = 6 → gF h' q' k = gF h q k) : qRE h' p' q' := by
  obtain ⟨a, b, c, ⟨a1, a2⟩, ⟨b1, b2⟩, ⟨c1, c2⟩, d1, r1, r2, r3⟩ := r
  refine ⟨a, b, c, ⟨?_, ?_⟩, ⟨?_, ?_⟩, ⟨?_, ?_⟩, ?_, r1, r2, r3⟩
  · rw [e 3 (by omega)]; exact a1
  · rw [f 3 (by omega)]; exact a2
  · rw [e 4 (by omega)]; exact b1
  · rw [f 4 (by omega)]; exact b2
  · rw [e 6 (by omega)]; exact c1
  · rw [f 6 (by omega)]; exact c2
  · rw [e 10 (by omega)]; exact d1
theorem toNat_lt {c : Int32} {k : Nat} (h : k < c.toNatClampNeg) (h40 : c.toInt ≤ 40) : k < 40 := by
  have h : k < c.toInt.toNat := h
  omega
/-- what leaves all but some fields of the results alone keeps the rules -/
theorem qRR.same {h h' : List zC} (hr : qRR h) (hl : 239 ≤ h.length) (e : ∀ p k, p < h.length → ¬ p = 213 → ¬ p = 238 → gF h' p k = gF h p k) : qRR h' := by
  obtain ⟨cnt, el, r1, r2, r3, r4, r5, r6, r7⟩ := hr
  refine ⟨cnt, el, ?_, ?_, ?_, r4, r5, r6, fun k hk => ?_⟩
  · rw [e 28 2 (by omega) (by omega) (by omega)]; exact r1
  · rw [e 223 2 (by omega) (by omega) (by omega)]; exact r2
  · rw [e 223 1 (by omega) (by omega) (by omega)]; exact r3
  · obtain ⟨q, q1, q2, q3, q4⟩ := r7 k hk
    have k40 := toNat_lt hk r6
    have hq : q < h.length := by
      obtain ⟨a, b, c, ⟨-, a2⟩, -⟩ := q4
      exact gF_lt a2
    refine ⟨q, ?_, q2, q3, q4.same (fun k _ => e _ _ (by omega) (by omega) (by omega)) (fun k _ => e _ _ hq (by omega) (by omega))⟩
    rw [e el k (gF_lt q1) (by omega) (by omega)]
    exact q1
/-- a cell's kind by its role -/
theorem kind_at {N : Int} {ρ : List Nat} {h : List zC} {p r : Nat} {R : tR} (hH : tHeap wT N ρ h) (hr : ρ[p]? = some r) (hR : wR wT r = some R) : ∃ c, h[p]? = some c ∧ gT h p = some R.1 ∧ gN h p = some c.2.length ∧ (∀ m, R.2.1 = some m → c.2.length = m) ∧ (c.2.length : Int) ≤ tMax ∧ ∀ k v, gF h p k = some v → tHas ρ (tFd R k).1 v := by
  obtain ⟨c, hc⟩ := hH.role hr
  obtain ⟨t1, t2, t3⟩ := hH.2.2.1 p c r R hc hr hR
  unfold tLenOk at t2
  refine ⟨c, hc, (gT_of hc).trans (congrArg some t1), gN_of hc, t2.1, hH.2.2.2.2.2.2.1 p c hc, fun k v e => ?_⟩
  rw [gF_of hc] at e
  exact (t3 k v e).1
/-- a list and its row -/
theorem rl_at {N : Int} {ρ : List Nat} {h : List zC} {el : Nat} {cnt : Int32} (hH : tHeap wT N ρ h) (ro : Ro ρ) (e1 : gF h 223 1 = some (.ref el)) (e2 : gF h 223 2 = some (.int cnt)) : (∃ l, gN h el = some l ∧ l < 2147483648) ∧ (∃ t, gT h el = some t ∧ 93 ≤ t) ∧ 0 ≤ cnt.toInt ∧ cnt.toInt ≤ 40 ∧ (el = 4 ∨ 239 ≤ el) ∧
    (ρ[el]? = some 4 ∨ ρ[el]? = some 46) ∧ ∀ k, k < cnt.toNatClampNeg → ∃ e : Nat, gF h el k = some (.ref e) ∧ ρ[e]? = some 47 := by
  have hr : ρ[223]? = some 45 := ro _ _ (by decide +kernel)
  obtain ⟨c, hc, -, -, -, -, hf⟩ := kind_at hH hr (R := _) rfl
  obtain ⟨q, n, n1, n2, n3, n4⟩ := hH.2.2.2.2.1 (45, 46, 47) (by decide +kernel) 223 c hr hc
  have n1 : c.2[1]? = some (.ref q) := n1
  have n2 : c.2[2]? = some (.int n) := n2
  rw [gF_of hc, n1] at e1
  rw [gF_of hc, n2] at e2
  cases e1
  cases e2
  have h40 : cnt.toInt ≤ 40 := by
    obtain ⟨x, x1, x2, x3⟩ := hf 2 (.int cnt) (by rw [gF_of hc, n2])
    cases x1
    exact x3
  have el_ok : ∀ r, ρ[el]? = some r → r = 4 ∨ r = 46 → el = 4 ∨ 239 ≤ el := fun r hr2 hrr => by
    rcases Nat.lt_or_ge el 239 with z | z
    · have e := ro el _ (List.getElem?_eq_getElem (rho_lt z))
      rw [hr2] at e
      have key : ∀ el, el < 239 → (rho0.getD el 0 = 4 → el = 4) ∧ ¬ rho0.getD el 0 = 46 := by decide +kernel
      have e3 : rho0.getD el 0 = r := by
        rw [List.getD_eq_getElem?_getD, List.getElem?_eq_getElem (rho_lt z)]
        exact (Option.some.inj e).symm
      rcases hrr with rfl | rfl
      · exact Or.inl ((key el z).1 e3)
      · exact absurd e3 (key el z).2
    · exact Or.inr z
  rcases n4 with ⟨m1, m2⟩ | ⟨m1, cq, m2, m3, m4⟩
  · have m1 : ρ[el]? = some 4 := m1
    obtain ⟨d, hd, k1, k2, k3, k4, -⟩ := kind_at hH m1 (R := _) rfl
    refine ⟨⟨_, k2, by have : tMax = 2147483647 := rfl; omega⟩, ⟨_, k1, by decide⟩, n3, h40, el_ok 4 m1 (Or.inl rfl), Or.inl m1, fun k hk => ?_⟩
    have hk : k < cnt.toInt.toNat := hk
    omega
  · have m1 : ρ[el]? = some 46 := m1
    obtain ⟨d, hd, k1, k2, k3, k4, -⟩ := kind_at hH m1 (R := _) rfl
    refine ⟨⟨_, k2, by have : tMax = 2147483647 := rfl; omega⟩, ⟨_, k1, by decide⟩, n3, h40, el_ok 46 m1 (Or.inr rfl), Or.inr m1, fun k hk => ?_⟩
    have hk : k < cnt.toInt.toNat := hk
    obtain ⟨e, f1, f2⟩ := m4 k (by omega)
    refine ⟨e, ?_, f2⟩
    rw [gF_of m2]
    exact f1
/-- the fields of a reference's rule are numbers -/
theorem rl_int {N : Int} {ρ : List Nat} {h : List zC} {e k : Nat} (hH : tHeap wT N ρ h) (hr : ρ[e]? = some 47) (hk : k = 3 ∨ k = 4 ∨ k = 6) : ∃ x : Int32, gF h e k = some (.int x) := by
  obtain ⟨c, hc, -, -, k3, -, hf⟩ := kind_at hH hr (R := _) rfl
  have hlen : c.2.length = 10 := k3 10 rfl
  have h2 : gF h e k = some (c.2[k]'(by omega)) := by
    rw [gF_of hc, List.getElem?_eq_getElem]
  have h3 := hf k _ h2
  rcases hk with rfl | rfl | rfl
  all_goals
    obtain ⟨x, x1, -⟩ := h3
    exact ⟨x, by rw [h2, x1]⟩
/-- the reference's day is a number -/
theorem day_int {N : Int} {ρ : List Nat} {h : List zC} (hH : tHeap wT N ρ h) (ro : Ro ρ) : ∃ d : Int32, gF h 213 1 = some (.int d) := by
  obtain ⟨c, hc, -, -, k3, -, hf⟩ := kind_at hH (ro 213 40 (by decide +kernel)) (R := _) rfl
  have hlen : c.2.length = 18 := k3 18 rfl
  have h2 : gF h 213 1 = some (c.2[1]'(by omega)) := by
    rw [gF_of hc, List.getElem?_eq_getElem]
  obtain ⟨x, x1, -⟩ := hf 1 _ h2
  exact ⟨x, by rw [h2, x1]⟩
theorem iN_cl {x c : Int32} (hc : 0 ≤ c.toInt) (h : iN c.toInt x) : x.toNatClampNeg < c.toNatClampNeg := by
  obtain ⟨h1, h2⟩ := h
  show x.toInt.toNat < c.toInt.toNat
  omega
theorem qRR.fr {Wr : List (Nat × Nat)} {N : Int} {ρ : List Nat} {h h' : List zC} (hr : qRR h) (hS : Stc h) (ro : Ro ρ) (hH : tHeap wT N ρ h) (hF : gFr Wr ρ h h') (hw : Wr.all (fun w => !(w.1 == 4) && !(w.1 == 16) && !(w.1 == 18) && !(w.1 == 45) && !(w.1 == 46) && !(w.1 == 47)) = true) : qRR h' := by
  have no : ∀ r k, r = 4 ∨ r = 16 ∨ r = 18 ∨ r = 45 ∨ r = 46 ∨ r = 47 → wIn Wr r k = false := fun r k hrk => by
    unfold wIn
    refine List.any_eq_false.mpr (fun w hm => ?_)
    have := List.all_eq_true.mp hw w hm
    simp only [Bool.and_eq_true, Bool.not_eq_true', beq_eq_false_iff_ne] at this
    have : ¬ w.1 = r := by omega
    simp [this]
  have hl := hS.1
  obtain ⟨cnt, el, r1, r2, r3, r4, r5, r6, r7⟩ := hr
  obtain ⟨-, -, -, -, -, s6, s7⟩ := rl_at hH ro r3 r2
  have r18 : ∀ k, k < 40 → rho0[31 + k]? = some 18 := by decide +kernel
  refine ⟨cnt, el, ?_, ?_, ?_, r4, r5, r6, fun k hk => ?_⟩
  · rw [gFr_F hF (ro 28 16 (by decide +kernel)) (no _ _ (by omega)) (by omega)]; exact r1
  · rw [gFr_F hF (ro 223 45 (by decide +kernel)) (no _ _ (by omega)) (by omega)]; exact r2
  · rw [gFr_F hF (ro 223 45 (by decide +kernel)) (no _ _ (by omega)) (by omega)]; exact r3
  · obtain ⟨q, q1, q2, q3, q4⟩ := r7 k hk
    have k40 := toNat_lt hk r6
    obtain ⟨e, e1, e2⟩ := s7 k hk
    rw [q1] at e1
    cases e1
    have hq : q < h.length := by
      obtain ⟨a, b, c, ⟨-, a2⟩, -⟩ := q4
      exact gF_lt a2
    refine ⟨q, ?_, q2, q3, q4.same (fun k2 _ => gFr_F hF (ro _ _ (r18 k k40)) (no _ _ (by omega)) (by omega)) (fun k2 _ => gFr_F hF e2 (no _ _ (by omega)) hq)⟩
    rcases s6 with s6 | s6
    · rw [gFr_F hF s6 (no _ _ (by omega)) (gF_lt q1)]; exact q1
    · rw [gFr_F hF s6 (no _ _ (by omega)) (gF_lt q1)]; exact q1
theorem n_succ {c : Int32} (h0 : 0 ≤ c.toInt) (h : c.toInt < 40) : (c + 1).toNatClampNeg = c.toNatClampNeg + 1 ∧ (c + 1).toInt = c.toInt + 1 := by
  have e : (c + 1).toInt = c.toInt + 1 := by
    rw [Int32.toInt_add]
    have z1 : (1 : Int32).toInt = 1 := rfl
    rw [z1]
    exact Int.bmod_eq_of_le (by omega) (by omega)
  refine ⟨?_, e⟩
  show (c + 1).toInt.toNat = c.toInt.toNat + 1
  omega
/-- a rule is sworn on both sides -/
theorem sum_rule {h1 h2 h3 h5 : List zC} {u2 u5 el : Nat} {cnt d p m c a b s r k r' : Int32} (r1 : gF h1 28 2 = some (.int cnt)) (r2 : gF h1 223 2 = some (.int cnt)) (r3 : gF h1 223 1 = some (.ref el)) (r4 : el = 4 ∨ 239 ≤ el) (r5 : 0 ≤ cnt.toInt) (r6 : cnt.toInt ≤ 40) (r7 : qRL h1 cnt el) (hl : 239 ≤ h1.length) (hl2 : h1.length ≤ h2.length) (hl3 : h2.length ≤ h3.length)
    (V1 : Q_Lrule cnt p m c a b s r h1 (.inl (some (.int k))) h2 u2) (E : ∀ p, p < h2.length → ∀ k, gF h3 p k = gF h2 p k) (V2 : Q_mrule el cnt d p m c a b s r h3 (.inl (some (.int r'))) h5 u5) : qRR h5 ∧ True := by
  refine ⟨?_, trivial⟩
  obtain ⟨k', e1, V1⟩ := V1
  cases e1
  obtain ⟨x, h4, e2, t0, V2⟩ := V2
  rcases V1 with ⟨rfl, ok, hm, w, rm, po⟩ | ⟨-, no, ex⟩
  · rcases V2 with ⟨-, mm⟩ | ⟨no, -⟩
    · obtain ⟨⟨-, -⟩, ⟨-, oa, ob, oab, -, -⟩, o40⟩ := ok
      obtain ⟨m1, m2, ⟨f0, f1, f2, f3, f4, f5, f6⟩, f10, f9, f7, f8, ml, mt⟩ := rm
      obtain ⟨q, el', q1, q2, q3, q4, q5, q6, q7, ⟨g0, g1, g2, g3, g4, g5, g6, g7⟩, g8, g9, n0, q8⟩ := mm
      obtain ⟨sn, si⟩ := n_succ r5 o40
      have hk40 : cnt.toNatClampNeg < 40 := n40 o40
      have old : ∀ x k, x < h1.length → ¬ x = 31 + cnt.toNatClampNeg → ¬ x = 28 → ¬ x = 238 → gF h3 x k = gF h1 x k := fun x k x1 x2 x3 x4 => by
        rw [E x (by omega), po.2.1, if_neg (fun z => x4 z.1), m1 x k x2 (fun z => x3 z.1)]
      have new : ∀ x k, x < h1.length → ¬ x = 223 → ¬ x = el → ¬ x = 213 → gF h5 x k = gF h3 x k := fun x k x1 x2 x3 x4 => q8 x k (by omega) x2 x3 (fun z => x4 z.1)
      refine ⟨cnt + 1, el', ?_, q3, q2, ?_, by omega, by omega, fun k hk => ?_⟩
      · rw [new 28 2 (by omega) (by omega) (by omega) (by omega), E 28 (by omega), po.2.1, if_neg (by omega)]
        exact m2
      · rcases q6 with q6 | q6
        · rw [q6]; exact r4
        · exact Or.inr (by omega)
      · rw [sn] at hk
        rcases Nat.lt_or_ge k cnt.toNatClampNeg with z | z
        · obtain ⟨y, y1, y2, y3, y4⟩ := r7 k z
          have hy : y < h1.length := by
            obtain ⟨a, b, c, ⟨-, a2⟩, -⟩ := y4
            exact gF_lt a2
          have hel := gF_lt y1
          refine ⟨y, ?_, y2, ?_, y4.same (fun k2 _ => ?_) (fun k2 _ => ?_)⟩
          · rw [q4 k z, old el k hel (by omega) (by omega) (by omega)]
            exact y1
          · rcases q6 with q6 | q6
            · rw [q6]; exact y3
            · omega
          · rw [new _ k2 (by omega) (by omega) (by omega) (by omega), old _ k2 (by omega) (by omega) (by omega) (by omega)]
          · rw [new y k2 hy (by omega) y3 (by omega), old y k2 hy (by omega) (by omega) (by omega)]
        · have zk : k = cnt.toNatClampNeg := by omega
          subst zk
          have cl : ∀ k2, gF h5 (31 + cnt.toNatClampNeg) k2 = gF hm (31 + cnt.toNatClampNeg) k2 := fun k2 => by
            rw [new _ k2 (by omega) (by omega) (by omega) (by omega), E _ (by omega), po.2.1, if_neg (by omega)]
          refine ⟨q, q5, by omega, q7, a, b, r, ⟨?_, g3⟩, ⟨?_, g4⟩, ⟨?_, g6⟩, ?_, oa, ob, oab⟩
          · rw [cl]; exact f3
          · rw [cl]; exact f4
          · rw [cl]; exact f6
          · rw [cl]; exact f10
    · exact absurd ok no
  · rcases V2 with ⟨ok, -⟩ | ⟨-, kk, -, t1⟩
    · exact absurd ok no
    · refine qRR.same ⟨cnt, el, r1, r2, r3, r4, r5, r6, r7⟩ hl (fun q k hq n1 n2 => ?_)
      rw [t1.2.1, if_neg (fun z => n1 z.1), t0.2.1, if_neg (fun z => n1 z.1), E q (by omega), ex.fld hq]
/-- a rule's limits on both sides -/
theorem sum_limit {h1 h2 h3 h5 : List zC} {u2 u5 el : Nat} {cnt x a b k r' : Int32} (r1 : gF h1 28 2 = some (.int cnt)) (r2 : gF h1 223 2 = some (.int cnt)) (r3 : gF h1 223 1 = some (.ref el)) (r4 : el = 4 ∨ 239 ≤ el) (r5 : 0 ≤ cnt.toInt) (r6 : cnt.toInt ≤ 40) (r7 : qRL h1 cnt el) (hl : 239 ≤ h1.length) (hl2 : h1.length ≤ h2.length) (hl3 : h2.length ≤ h3.length)
    (V1 : Q_Llimit cnt x a b h1 (.inl (some (.int k))) h2 u2) (E : ∀ p, p < h2.length → ∀ k, gF h3 p k = gF h2 p k) (V2 : Q_mlimit el cnt x a b h3 (.inl (some (.int r'))) h5 u5) :
    qRR h5 ∧ gF h5 213 0 = some (.int k) ∧ (k = 0 → gF h5 238 0 = some (.long r'.toInt64)) ∧ (k = 0 ∨ k = 1 ∨ k = 2) := by
  obtain ⟨k', e1, V1⟩ := V1
  cases e1
  obtain ⟨y, h4, e2, t0, V2⟩ := V2
  cases e2
  have RR1 : qRR h1 := ⟨cnt, el, r1, r2, r3, r4, r5, r6, r7⟩
  rcases V1 with ⟨rfl, ok, s, hm, hn, s1, p1, p2, po⟩ | ⟨rfl, no, ex⟩ | ⟨rfl, yes, no, ex⟩
  · rcases V2 with ⟨-, q, i1, fa, fb, fc, sa, sb, w1, w2, g1, g2, f3, f4, f6, z1, z2, rfl⟩ | ⟨n, -⟩ | ⟨-, n, -⟩
    · have hx := ok.1
      have hxn : x.toNatClampNeg < cnt.toNatClampNeg := by
        obtain ⟨a1, a2⟩ := hx
        show x.toInt.toNat < cnt.toInt.toNat
        omega
      have x40 := toNat_lt hxn r6
      obtain ⟨q', y1, y2, y3, fa', fb', fc', ⟨c3, d3⟩, ⟨c4, d4⟩, ⟨c6, d6⟩, c10, ra, rb, rab⟩ := r7 _ hxn
      have hq := gF_lt d3
      have hel := gF_lt y1
      have old : ∀ v k, v < h1.length → ¬ (v = 31 + x.toNatClampNeg ∧ (k = 7 ∨ k = 8)) → ¬ v = 238 → gF h3 v k = gF h1 v k := fun v k v1 v2 v3 => by
        rw [E v (by omega), po.2.1, if_neg (fun z => v3 z.1), p2.2.1, if_neg (fun z => v2 ⟨z.1, by omega⟩), p1.2.1, if_neg (fun z => v2 ⟨z.1, by omega⟩)]
      have e5 : q = q' := by
        rw [old el _ hel (by omega) (by omega), y1] at w1
        cases w1
        rfl
      subst e5
      have new : ∀ v k, ¬ (v = q ∧ (k = 8 ∨ k = 9)) → ¬ (v = 213 ∧ k = 0) → gF h5 v k = gF h3 v k := fun v k v1 v2 => by
        rw [g2.2.1, if_neg (fun z => v1 ⟨z.1, by omega⟩), g1.2.1, if_neg (fun z => v1 ⟨z.1, by omega⟩), t0.2.1, if_neg v2]
      refine ⟨⟨cnt, el, ?_, ?_, ?_, r4, r5, r6, fun k hk => ?_⟩, ?_, fun _ => ?_, Or.inl rfl⟩
      · rw [new 28 2 (by omega) (by omega), old 28 2 (by omega) (by omega) (by omega)]; exact r1
      · rw [new 223 2 (by omega) (by omega), old 223 2 (by omega) (by omega) (by omega)]; exact r2
      · rw [new 223 1 (by omega) (by omega), old 223 1 (by omega) (by omega) (by omega)]; exact r3
      · obtain ⟨v, v1, v2, v3, v4⟩ := r7 k hk
        have k40 := toNat_lt hk r6
        have hv : v < h1.length := by
          obtain ⟨a, b, c, ⟨-, a2⟩, -⟩ := v4
          exact gF_lt a2
        refine ⟨v, ?_, v2, v3, v4.same (fun k2 hk2 => ?_) (fun k2 hk2 => ?_)⟩
        · rw [new el k (by omega) (by omega), old el k hel (by omega) (by omega)]; exact v1
        · rw [new _ k2 (by omega) (by omega), old _ k2 (by omega) (by omega) (by omega)]
        · rw [new _ k2 (by omega) (by omega), old _ k2 hv (by omega) (by omega)]
      · rw [g2.2.1, if_neg (by omega), g1.2.1, if_neg (by omega), t0.2.1, if_pos ⟨rfl, rfl⟩]
      · rw [new 238 0 (by omega) (by omega), E 238 (by omega), po.2.1, if_pos ⟨rfl, rfl⟩]
        rw [old q 3 hq (by omega) (by omega), d3] at f3
        rw [old q 4 hq (by omega) (by omega), d4] at f4
        rw [old q 6 hq (by omega) (by omega), d6] at f6
        cases f3
        cases f4
        cases f6
        rw [c10] at s1
        cases s1
        rw [bc_sz ra rb rab z1 z2]
    · exact absurd ok.1 n
    · exact absurd ok.2 n
  · rcases V2 with ⟨w', -⟩ | ⟨-, t1⟩ | ⟨w', -⟩
    · exact absurd w'.1 no
    · refine ⟨RR1.same hl (fun q k hq n1 n2 => ?_), ?_, fun z => (by cases z), Or.inr (Or.inl rfl)⟩
      · rw [t1.2.1, if_neg (fun z => n1 z.1), t0.2.1, if_neg (fun z => n1 z.1), E q (by omega), ex.fld hq]
      · rw [t1.2.1, if_pos ⟨rfl, rfl⟩]
    · exact absurd w' no
  · rcases V2 with ⟨w', -⟩ | ⟨n, -⟩ | ⟨-, -, t1⟩
    · exact absurd w'.2 no
    · exact absurd yes n
    · refine ⟨RR1.same hl (fun q k hq n1 n2 => ?_), ?_, fun z => (by cases z), Or.inr (Or.inr rfl)⟩
      · rw [t1.2.1, if_neg (fun z => n1 z.1), t0.2.1, if_neg (fun z => n1 z.1), E q (by omega), ex.fld hq]
      · rw [t1.2.1, if_pos ⟨rfl, rfl⟩]
/-- the fields of a reference's rule, of its case, are numbers -/
theorem rul_ints {N : Int} {ρ : List Nat} {h : List zC} {e : Nat} (hH : tHeap wT N ρ h) (hr : ρ[e]? = some 47) : RI h e := fun k hk => by
  obtain ⟨c, hc, -, -, k3, -, hf⟩ := kind_at hH hr (R := _) rfl
  have hlen : c.2.length = 10 := k3 10 rfl
  have h2 : gF h e k = some (c.2[k]'(by omega)) := by
    rw [gF_of hc, List.getElem?_eq_getElem]
  have h3 := hf k _ h2
  have w : k = 0 ∨ k = 1 ∨ k = 2 ∨ k = 3 ∨ k = 4 ∨ k = 5 ∨ k = 6 ∨ k = 7 ∨ k = 8 ∨ k = 9 := by omega
  rcases w with rfl | rfl | rfl | rfl | rfl | rfl | rfl | rfl | rfl | rfl
  all_goals
    obtain ⟨x, x1, -⟩ := h3
    exact ⟨x, by rw [h2, x1]⟩
theorem cas_ints {N : Int} {ρ : List Nat} {h : List zC} {e : Nat} (hH : tHeap wT N ρ h) (hr : ρ[e]? = some 50) : CI h e := fun k hk => by
  obtain ⟨c, hc, -, -, k3, -, hf⟩ := kind_at hH hr (R := _) rfl
  have hlen : c.2.length = 9 := k3 9 rfl
  have h2 : gF h e k = some (c.2[k]'(by omega)) := by
    rw [gF_of hc, List.getElem?_eq_getElem]
  have h3 := hf k _ h2
  have w : k = 0 ∨ k = 1 ∨ k = 2 ∨ k = 3 ∨ k = 4 ∨ k = 5 ∨ k = 6 := by omega
  rcases w with rfl | rfl | rfl | rfl | rfl | rfl | rfl
  all_goals
    obtain ⟨x, x1, -⟩ := h3
    exact ⟨x, by rw [h2, x1]⟩
theorem wNo {Wr : List (Nat × Nat)} {r k : Nat} (h : Wr.all (fun w => !(w.1 == r)) = true) : wIn Wr r k = false := by
  unfold wIn
  refine List.any_eq_false.mpr (fun w hm => ?_)
  have := List.all_eq_true.mp h w hm
  simp only [Bool.not_eq_true', beq_eq_false_iff_ne] at this
  simp [this]
/-- the places that a rule's fields have on both sides -/
def prs : List (Nat × Nat) := [(0, 0), (1, 1), (2, 2), (5, 5), (7, 8), (8, 9), (9, 7)]
def qREF (h : List zC) (p q : Nat) : Prop := qRE h p q ∧ (∀ e ∈ prs, ∃ x : Int32, gF h p e.1 = some (.int x) ∧ gF h q e.2 = some (.int x)) ∧ rI 1 5 (iv h q 6) ∧ rI 0 100 (iv h q 5)
theorem qREF.same {h h' : List zC} {p q p' q' : Nat} (r : qREF h p q) (e : ∀ k, gF h' p' k = gF h p k) (f : ∀ k, gF h' q' k = gF h q k) : qREF h' p' q' := ⟨r.1.same (fun k _ => e k) (fun k _ => f k), fun x hx => by
  obtain ⟨y, y1, y2⟩ := r.2.1 x hx
  exact ⟨y, by rw [e]; exact y1, by rw [f]; exact y2⟩, by rw [iv_eq (f 6)]; exact r.2.2.1, by rw [iv_eq (f 5)]; exact r.2.2.2⟩
theorem qREF.lt {h : List zC} {p q : Nat} (r : qREF h p q) : p < h.length ∧ q < h.length := by
  obtain ⟨⟨a, b, c, ⟨a1, a2⟩, -⟩, -⟩ := r
  exact ⟨gF_lt a1, gF_lt a2⟩
/-- all rules, on both sides -/
def qRFL (h : List zC) (cnt : Int32) (el : Nat) : Prop := (∀ k, k < cnt.toNatClampNeg → ∃ q : Nat, gF h el k = some (.ref q) ∧ 239 ≤ q ∧ ¬ q = el ∧ qREF h (31 + k) q) ∧ (∀ i j, i < cnt.toNatClampNeg → j < cnt.toNatClampNeg → gF h el i = gF h el j → i = j) ∧ ∀ k, cnt.toNatClampNeg ≤ k → k < 40 → gF h (31 + k) 7 = some (.int 0) ∧ gF h (31 + k) 8 = some (.int 999)
def qRFu (h : List zC) : Prop := ∃ (cnt : Int32) (el : Nat), gF h 28 2 = some (.int cnt) ∧ gF h 223 2 = some (.int cnt) ∧ gF h 223 1 = some (.ref el) ∧ (el = 4 ∨ 239 ≤ el) ∧ 0 ≤ cnt.toInt ∧ cnt.toInt ≤ 40 ∧ qRFL h cnt el
/-- the day is the same -/
def qRDy (h : List zC) : Prop := ∃ d : Int32, gF h 16 0 = some (.int d) ∧ gF h 213 1 = some (.int d)
theorem qRFL.same {h h' : List zC} {cnt : Int32} {el : Nat} (r : qRFL h cnt el) (h40 : cnt.toInt ≤ 40) (e : ∀ k, gF h' el k = gF h el k) (f : ∀ k x, k < 40 → gF h' (31 + k) x = gF h (31 + k) x) (g : ∀ (k q x : Nat), k < cnt.toNatClampNeg → gF h el k = some (.ref q) → gF h' q x = gF h q x) : qRFL h' cnt el := by
  obtain ⟨r1, r2, r3⟩ := r
  refine ⟨fun k hk => ?_, fun i j hi hj z => r2 i j hi hj (by rw [← e, ← e]; exact z), fun k h1 h2 => ?_⟩
  · obtain ⟨q, q1, q2, q3, q4⟩ := r1 k hk
    exact ⟨q, by rw [e]; exact q1, q2, q3, q4.same (fun x => f k x (toNat_lt hk h40)) (fun x => g k q x hk q1)⟩
  · rw [f k 7 h2, f k 8 h2]
    exact r3 k h1 h2
theorem qRFu.same {h h' : List zC} (hr : qRFu h) (hl : 239 ≤ h.length) (e : ∀ p k, p < h.length → ¬ p = 213 → ¬ p = 238 → gF h' p k = gF h p k) : qRFu h' := by
  obtain ⟨cnt, el, r1, r2, r3, r4, r5, r6, r7⟩ := hr
  have kp : ∀ (k q : Nat), k < cnt.toNatClampNeg → gF h el k = some (.ref q) → 239 ≤ q ∧ q < h.length := fun k q hk hq => by
    obtain ⟨y, y1, y2, -, y4⟩ := r7.1 k hk
    rw [hq] at y1
    cases y1
    exact ⟨y2, y4.lt.2⟩
  refine ⟨cnt, el, ?_, ?_, ?_, r4, r5, r6, ?_⟩
  · rw [e 28 2 (by omega) (by omega) (by omega)]; exact r1
  · rw [e 223 2 (by omega) (by omega) (by omega)]; exact r2
  · rw [e 223 1 (by omega) (by omega) (by omega)]; exact r3
  · by_cases hel : el < h.length
    · exact r7.same r6 (fun k => e el k hel (by omega) (by omega)) (fun k x hk => e _ x (by omega) (by omega) (by omega)) (fun k q x hk hq => by
        obtain ⟨a, b⟩ := kp k q hk hq
        exact e q x b (by omega) (by omega))
    · -- no rule stands in a row that is not there
      have c0 : cnt.toNatClampNeg = 0 := by
        rcases Nat.eq_zero_or_pos cnt.toNatClampNeg with z | z
        · exact z
        · obtain ⟨q, q1, -⟩ := r7.1 0 z
          exact absurd (gF_lt q1) hel
      refine ⟨fun k hk => by omega, fun i j hi => by omega, fun k h1 h2 => ?_⟩
      rw [e _ 7 (by omega) (by omega) (by omega), e _ 8 (by omega) (by omega) (by omega)]
      exact r7.2.2 k h1 h2
theorem qRFu.fr {Wr : List (Nat × Nat)} {N : Int} {ρ : List Nat} {h h' : List zC} (hr : qRFu h) (hS : Stc h) (ro : Ro ρ) (hH : tHeap wT N ρ h) (hF : gFr Wr ρ h h') (hw : Wr.all (fun w => !(w.1 == 4) && !(w.1 == 16) && !(w.1 == 18) && !(w.1 == 45) && !(w.1 == 46) && !(w.1 == 47)) = true) : qRFu h' := by
  have no : ∀ r k, r = 4 ∨ r = 16 ∨ r = 18 ∨ r = 45 ∨ r = 46 ∨ r = 47 → wIn Wr r k = false := fun r k hrk => by
    unfold wIn
    refine List.any_eq_false.mpr (fun w hm => ?_)
    have := List.all_eq_true.mp hw w hm
    simp only [Bool.and_eq_true, Bool.not_eq_true', beq_eq_false_iff_ne] at this
    have : ¬ w.1 = r := by omega
    simp [this]
  have hl := hS.1
  obtain ⟨cnt, el, r1, r2, r3, r4, r5, r6, r7⟩ := hr
  obtain ⟨⟨l, l1, -⟩, -, -, -, -, s6, s7⟩ := rl_at hH ro r3 r2
  have r18 : ∀ k, k < 40 → rho0[31 + k]? = some 18 := by decide +kernel
  refine ⟨cnt, el, ?_, ?_, ?_, r4, r5, r6, r7.same r6 (fun k => ?_) (fun k x hk => gFr_F hF (ro _ _ (r18 k hk)) (no _ _ (by omega)) (by omega)) (fun k q x hk hq => ?_)⟩
  · rw [gFr_F hF (ro 28 16 (by decide +kernel)) (no _ _ (by omega)) (by omega)]; exact r1
  · rw [gFr_F hF (ro 223 45 (by decide +kernel)) (no _ _ (by omega)) (by omega)]; exact r2
  · rw [gFr_F hF (ro 223 45 (by decide +kernel)) (no _ _ (by omega)) (by omega)]; exact r3
  · rcases s6 with s6 | s6
    · exact gFr_F hF s6 (no _ _ (by omega)) (gN_lt l1)
    · exact gFr_F hF s6 (no _ _ (by omega)) (gN_lt l1)
  · obtain ⟨e, e1, e2⟩ := s7 k hk
    rw [hq] at e1
    cases e1
    obtain ⟨y, y1, -, -, y4⟩ := r7.1 k hk
    rw [hq] at y1
    cases y1
    exact gFr_F hF e2 (no _ _ (by omega)) y4.lt.2
theorem qRDy.fr {Wr : List (Nat × Nat)} {ρ : List Nat} {h h' : List zC} (hr : qRDy h) (hl : 239 ≤ h.length) (ro : Ro ρ) (hF : gFr Wr ρ h h') (hw : (!(wIn Wr 8 0) && !(wIn Wr 40 1)) = true) : qRDy h' := by
  obtain ⟨d, d1, d2⟩ := hr
  obtain ⟨w1, w2⟩ := Bool.and_eq_true_iff.mp hw
  exact ⟨d, by rw [gFr_F hF (ro 16 8 (by decide +kernel)) (by simpa using w1) (by omega)]; exact d1, by rw [gFr_F hF (ro 213 40 (by decide +kernel)) (by simpa using w2) (by omega)]; exact d2⟩
/-- a rule is sworn on both sides -/
theorem sumF_rule {h1 h2 h3 h5 : List zC} {u2 u5 el : Nat} {cnt d p m c a b s r k r' : Int32} (r1 : gF h1 28 2 = some (.int cnt)) (r2 : gF h1 223 2 = some (.int cnt)) (r3 : gF h1 223 1 = some (.ref el)) (r4 : el = 4 ∨ 239 ≤ el) (r5 : 0 ≤ cnt.toInt) (r6 : cnt.toInt ≤ 40) (r7 : qRFL h1 cnt el) (hel : el < h1.length) (hd1 : gF h1 16 0 = some (.int d)) (hl : 239 ≤ h1.length) (hl2 : h1.length ≤ h2.length) (hl3 : h2.length ≤ h3.length)
    (V1 : Q_Lrule cnt p m c a b s r h1 (.inl (some (.int k))) h2 u2) (E : ∀ p, p < h2.length → ∀ k, gF h3 p k = gF h2 p k) (V2 : Q_mrule el cnt d p m c a b s r h3 (.inl (some (.int r'))) h5 u5) : qRFu h5 := by
  obtain ⟨k', e1, V1⟩ := V1
  cases e1
  obtain ⟨x, h4, e2, t0, V2⟩ := V2
  rcases V1 with ⟨rfl, ok, hm, w, rm, po⟩ | ⟨-, no, ex⟩
  · rcases V2 with ⟨-, mm⟩ | ⟨no, -⟩
    · obtain ⟨⟨-, -⟩, ⟨-, oa, ob, oab, os, orr⟩, o40⟩ := ok
      obtain ⟨m1, m2, ⟨f0, f1, f2, f3, f4, f5, f6⟩, f10, f9, f7, f8, ml, mt⟩ := rm
      obtain ⟨q, el', q1, q2, q3, q4, q5, q6, q7, ⟨g0, g1, g2, g3, g4, g5, g6, g7⟩, g8, g9, n0, q8⟩ := mm
      obtain ⟨sn, si⟩ := n_succ r5 o40
      have hk40 : cnt.toNatClampNeg < 40 := n40 o40
      have old : ∀ x k, x < h1.length → ¬ x = 31 + cnt.toNatClampNeg → ¬ x = 28 → ¬ x = 238 → gF h3 x k = gF h1 x k := fun x k x1 x2 x3 x4 => by
        rw [E x (by omega), po.2.1, if_neg (fun z => x4 z.1), m1 x k x2 (fun z => x3 z.1)]
      have new : ∀ x k, x < h1.length → ¬ x = 223 → ¬ x = el → ¬ x = 213 → gF h5 x k = gF h3 x k := fun x k x1 x2 x3 x4 => q8 x k (by omega) x2 x3 (fun z => x4 z.1)
      have row : ∀ k, k < cnt.toNatClampNeg → gF h5 el' k = gF h1 el k := fun k z => by
        rw [q4 k z, old el k hel (by omega) (by omega) (by omega)]
      have cl : ∀ k2, gF h5 (31 + cnt.toNatClampNeg) k2 = gF hm (31 + cnt.toNatClampNeg) k2 := fun k2 => by
        rw [new _ k2 (by omega) (by omega) (by omega) (by omega), E _ (by omega), po.2.1, if_neg (by omega)]
      have ol : ∀ k q, k < cnt.toNatClampNeg → gF h1 el k = some (.ref q) → q < h1.length ∧ 239 ≤ q ∧ ¬ q = el ∧ qREF h1 (31 + k) q := fun k q hk hq => by
        obtain ⟨y, y1, y2, y3, y4⟩ := r7.1 k hk
        rw [hq] at y1
        cases y1
        exact ⟨y4.lt.2, y2, y3, y4⟩
      refine ⟨cnt + 1, el', ?_, q3, q2, ?_, by omega, by omega, fun k hk => ?_, fun i j hi hj z => ?_, fun k h1 h2 => ?_⟩
      · rw [new 28 2 (by omega) (by omega) (by omega) (by omega), E 28 (by omega), po.2.1, if_neg (by omega)]
        exact m2
      · rcases q6 with q6 | q6
        · rw [q6]; exact r4
        · exact Or.inr (by omega)
      · rw [sn] at hk
        rcases Nat.lt_or_ge k cnt.toNatClampNeg with z | z
        · obtain ⟨y, y1, y2, y3, y4⟩ := r7.1 k z
          have hy := y4.lt.2
          refine ⟨y, by rw [row k z]; exact y1, y2, ?_, y4.same (fun k2 => ?_) (fun k2 => ?_)⟩
          · rcases q6 with q6 | q6
            · rw [q6]; exact y3
            · omega
          · rw [new _ k2 (by omega) (by omega) (by omega) (by omega), old _ k2 (by omega) (by omega) (by omega) (by omega)]
          · rw [new y k2 hy (by omega) y3 (by omega), old y k2 hy (by omega) (by omega) (by omega)]
        · have zk : k = cnt.toNatClampNeg := by omega
          subst zk
          have fr := r7.2.2 _ (Nat.le_refl _) hk40
          refine ⟨q, q5, by omega, q7, ⟨a, b, r, ⟨?_, g3⟩, ⟨?_, g4⟩, ⟨?_, g6⟩, ?_, oa, ob, oab⟩, fun e he => ?_, by rw [iv_of g6]; exact orr, by rw [iv_of g5]; exact os⟩
          · rw [cl]; exact f3
          · rw [cl]; exact f4
          · rw [cl]; exact f6
          · rw [cl]; exact f10
          · unfold prs at he
            simp only [List.mem_cons, List.not_mem_nil, or_false] at he
            rcases he with rfl | rfl | rfl | rfl | rfl | rfl | rfl
            · exact ⟨p, by rw [cl]; exact f0, g0⟩
            · exact ⟨m, by rw [cl]; exact f1, g1⟩
            · exact ⟨c, by rw [cl]; exact f2, g2⟩
            · exact ⟨s, by rw [cl]; exact f5, g5⟩
            · exact ⟨0, by rw [cl]; exact f7.trans fr.1, g8⟩
            · exact ⟨999, by rw [cl]; exact f8.trans fr.2, g9⟩
            · exact ⟨d, by rw [cl]; exact f9.trans hd1, g7⟩
      · rw [sn] at hi hj
        rcases Nat.lt_or_ge i cnt.toNatClampNeg with zi | zi
        · rcases Nat.lt_or_ge j cnt.toNatClampNeg with zj | zj
          · rw [row i zi, row j zj] at z
            exact r7.2.1 i j zi zj z
          · have ej : j = cnt.toNatClampNeg := by omega
            subst ej
            obtain ⟨y, y1, -, -, y4⟩ := r7.1 i zi
            rw [row i zi, y1, q5] at z
            cases z
            have := y4.lt.2
            omega
        · have ei : i = cnt.toNatClampNeg := by omega
          subst ei
          rcases Nat.lt_or_ge j cnt.toNatClampNeg with zj | zj
          · obtain ⟨y, y1, -, -, y4⟩ := r7.1 j zj
            rw [row j zj, y1, q5] at z
            cases z
            have := y4.lt.2
            omega
          · omega
      · rw [sn] at h1
        rw [new _ 7 (by omega) (by omega) (by omega) (by omega), old _ 7 (by omega) (by omega) (by omega) (by omega), new _ 8 (by omega) (by omega) (by omega) (by omega), old _ 8 (by omega) (by omega) (by omega) (by omega)]
        exact r7.2.2 k (by omega) h2
    · exact absurd ok no
  · rcases V2 with ⟨ok, -⟩ | ⟨-, kk, -, t1⟩
    · exact absurd ok no
    · refine qRFu.same ⟨cnt, el, r1, r2, r3, r4, r5, r6, r7⟩ hl (fun q k hq n1 n2 => ?_)
      rw [t1.2.1, if_neg (fun z => n1 z.1), t0.2.1, if_neg (fun z => n1 z.1), E q (by omega), ex.fld hq]
/-- a rule's limits on both sides -/
theorem sumF_limit {h1 h2 h3 h5 : List zC} {u2 u5 el : Nat} {cnt x a b k r' : Int32} (r1 : gF h1 28 2 = some (.int cnt)) (r2 : gF h1 223 2 = some (.int cnt)) (r3 : gF h1 223 1 = some (.ref el)) (r4 : el = 4 ∨ 239 ≤ el) (r5 : 0 ≤ cnt.toInt) (r6 : cnt.toInt ≤ 40) (r7 : qRFL h1 cnt el) (hel : el < h1.length) (hl : 239 ≤ h1.length) (hl2 : h1.length ≤ h2.length) (hl3 : h2.length ≤ h3.length)
    (V1 : Q_Llimit cnt x a b h1 (.inl (some (.int k))) h2 u2) (E : ∀ p, p < h2.length → ∀ k, gF h3 p k = gF h2 p k) (V2 : Q_mlimit el cnt x a b h3 (.inl (some (.int r'))) h5 u5) : qRFu h5 := by
  obtain ⟨k', e1, V1⟩ := V1
  cases e1
  obtain ⟨y, h4, e2, t0, V2⟩ := V2
  have RR1 : qRFu h1 := ⟨cnt, el, r1, r2, r3, r4, r5, r6, r7⟩
  rcases V1 with ⟨rfl, ok, s, hm, hn, s1, p1, p2, po⟩ | ⟨rfl, no, ex⟩ | ⟨rfl, yes, no, ex⟩
  · rcases V2 with ⟨-, q, i1, fa, fb, fc, sa, sb, w1, w2, g1, g2, f3, f4, f6, z1, z2, -⟩ | ⟨n, -⟩ | ⟨-, n, -⟩
    · have hx := ok.1
      have hxn : x.toNatClampNeg < cnt.toNatClampNeg := iN_cl r5 hx
      have x40 := toNat_lt hxn r6
      obtain ⟨q', y1, y2, y3, y4⟩ := r7.1 _ hxn
      have hq := y4.lt.2
      have old : ∀ v k, v < h1.length → ¬ (v = 31 + x.toNatClampNeg ∧ (k = 7 ∨ k = 8)) → ¬ v = 238 → gF h3 v k = gF h1 v k := fun v k v1 v2 v3 => by
        rw [E v (by omega), po.2.1, if_neg (fun z => v3 z.1), p2.2.1, if_neg (fun z => v2 ⟨z.1, by omega⟩), p1.2.1, if_neg (fun z => v2 ⟨z.1, by omega⟩)]
      have e5 : q = q' := by
        rw [old el _ hel (by omega) (by omega), y1] at w1
        cases w1
        rfl
      subst e5
      have new : ∀ v k, ¬ (v = q ∧ (k = 8 ∨ k = 9)) → ¬ (v = 213 ∧ k = 0) → gF h5 v k = gF h3 v k := fun v k v1 v2 => by
        rw [g2.2.1, if_neg (fun z => v1 ⟨z.1, by omega⟩), g1.2.1, if_neg (fun z => v1 ⟨z.1, by omega⟩), t0.2.1, if_neg v2]
      have cP7 : gF h5 (31 + x.toNatClampNeg) 7 = some (.int a) := by
        rw [new _ 7 (by omega) (by omega), E _ (by omega), po.2.1, if_neg (by omega), p2.2.1, if_neg (by omega), p1.2.1, if_pos ⟨rfl, rfl⟩]
      have cP8 : gF h5 (31 + x.toNatClampNeg) 8 = some (.int b) := by
        rw [new _ 8 (by omega) (by omega), E _ (by omega), po.2.1, if_neg (by omega), p2.2.1, if_pos ⟨rfl, rfl⟩]
      have cq8 : gF h5 q 8 = some (.int a) := by
        rw [g2.2.1, if_neg (by omega), g1.2.1, if_pos ⟨rfl, rfl⟩]
      have cq9 : gF h5 q 9 = some (.int b) := by
        rw [g2.2.1, if_pos ⟨rfl, rfl⟩]
      have row : ∀ k, gF h5 el k = gF h1 el k := fun k => by
        rw [new el k (by omega) (by omega), old el k hel (by omega) (by omega)]
      refine ⟨cnt, el, ?_, ?_, ?_, r4, r5, r6, fun k hk => ?_, fun i j hi hj z => r7.2.1 i j hi hj (by rw [← row, ← row]; exact z), fun k k1 k2 => ?_⟩
      · rw [new 28 2 (by omega) (by omega), old 28 2 (by omega) (by omega) (by omega)]; exact r1
      · rw [new 223 2 (by omega) (by omega), old 223 2 (by omega) (by omega) (by omega)]; exact r2
      · rw [new 223 1 (by omega) (by omega), old 223 1 (by omega) (by omega) (by omega)]; exact r3
      · obtain ⟨v, v1, v2, v3, v4⟩ := r7.1 k hk
        have k40 := toNat_lt hk r6
        have hv := v4.lt.2
        by_cases ke : k = x.toNatClampNeg
        · subst ke
          rw [y1] at v1
          cases v1
          refine ⟨q, by rw [row]; exact y1, v2, v3, v4.1.same (fun k2 hk2 => ?_) (fun k2 hk2 => ?_), fun e he => ?_, ?_, ?_⟩
          · rw [new _ k2 (by omega) (by omega), old _ k2 (by omega) (by omega) (by omega)]
          · rw [new _ k2 (by omega) (by omega), old _ k2 hv (by omega) (by omega)]
          · unfold prs at he
            simp only [List.mem_cons, List.not_mem_nil, or_false] at he
            have keep : ∀ e ∈ prs, ¬ e.1 = 7 → ¬ e.1 = 8 → ¬ e.2 = 8 → ¬ e.2 = 9 → ∃ y : Int32, gF h5 (31 + x.toNatClampNeg) e.1 = some (.int y) ∧ gF h5 q e.2 = some (.int y) := fun e he n1 n2 n3 n4 => by
              obtain ⟨y, w1, w2⟩ := v4.2.1 e he
              refine ⟨y, ?_, ?_⟩
              · rw [new _ _ (by omega) (by omega), old _ _ (by omega) (by omega) (by omega)]; exact w1
              · rw [new _ _ (by omega) (by omega), old _ _ hv (by omega) (by omega)]; exact w2
            rcases he with rfl | rfl | rfl | rfl | rfl | rfl | rfl
            · exact keep (0, 0) (by decide) (by decide) (by decide) (by decide) (by decide)
            · exact keep (1, 1) (by decide) (by decide) (by decide) (by decide) (by decide)
            · exact keep (2, 2) (by decide) (by decide) (by decide) (by decide) (by decide)
            · exact keep (5, 5) (by decide) (by decide) (by decide) (by decide) (by decide)
            · exact ⟨a, cP7, cq8⟩
            · exact ⟨b, cP8, cq9⟩
            · exact keep (9, 7) (by decide) (by decide) (by decide) (by decide) (by decide)
          · rw [iv_eq ((new q 6 (by omega) (by omega)).trans (old q 6 hv (by omega) (by omega)))]
            exact v4.2.2.1
          · rw [iv_eq ((new q 5 (by omega) (by omega)).trans (old q 5 hv (by omega) (by omega)))]
            exact v4.2.2.2
        · have qe : ¬ v = q := fun z => by
            subst z
            exact ke (r7.2.1 k _ hk hxn (by rw [v1, y1]))
          refine ⟨v, by rw [row]; exact v1, v2, v3, v4.same (fun k2 => ?_) (fun k2 => ?_)⟩
          · rw [new _ k2 (by omega) (by omega), old _ k2 (by omega) (by omega) (by omega)]
          · rw [new _ k2 (by omega) (by omega), old _ k2 hv (by omega) (by omega)]
      · rw [new _ 7 (by omega) (by omega), old _ 7 (by omega) (by omega) (by omega), new _ 8 (by omega) (by omega), old _ 8 (by omega) (by omega) (by omega)]
        exact r7.2.2 k k1 k2
    · exact absurd ok.1 n
    · exact absurd ok.2 n
  · rcases V2 with ⟨w', -⟩ | ⟨-, t1⟩ | ⟨w', -⟩
    · exact absurd w'.1 no
    · refine RR1.same hl (fun q k hq n1 n2 => ?_)
      rw [t1.2.1, if_neg (fun z => n1 z.1), t0.2.1, if_neg (fun z => n1 z.1), E q (by omega), ex.fld hq]
    · exact absurd w' no
  · rcases V2 with ⟨w', -⟩ | ⟨n, -⟩ | ⟨-, -, t1⟩
    · exact absurd w'.2 no
    · exact absurd yes n
    · refine RR1.same hl (fun q k hq n1 n2 => ?_)
      rw [t1.2.1, if_neg (fun z => n1 z.1), t0.2.1, if_neg (fun z => n1 z.1), E q (by omega), ex.fld hq]
/-- days pass on both sides -/
theorem sum_pass {h1 h2 h3 h5 : List zC} {u2 u5 : Nat} {d x k r' : Int32} (d1 : gF h1 16 0 = some (.int d)) (d2 : gF h1 213 1 = some (.int d)) (hl : 239 ≤ h1.length) (hl2 : h1.length ≤ h2.length)
    (V1 : Q_Lpass d x h1 (.inl (some (.int k))) h2 u2) (E : ∀ p, p < h2.length → ∀ k, gF h3 p k = gF h2 p k) (V2 : Q_mpass d x h3 (.inl (some (.int r'))) h5 u5) : qRDy h5 := by
  obtain ⟨k', e1, V1⟩ := V1
  cases e1
  obtain ⟨y, h4, e2, t0, V2⟩ := V2
  rcases V1 with ⟨rfl, ok, hm, p1, po⟩ | ⟨rfl, no, ex⟩ | ⟨rfl, yes, no, ex⟩
  · rcases V2 with ⟨-, -, g⟩ | ⟨n, -⟩ | ⟨-, n, -⟩
    · refine ⟨d + x, ?_, by rw [g.2.1, if_pos ⟨rfl, rfl⟩]⟩
      rw [g.2.1, if_neg (by omega), t0.2.1, if_neg (by omega), E 16 (by omega), po.2.1, if_neg (by omega), p1.2.1, if_pos ⟨rfl, rfl⟩]
    · exact absurd ok.1 n
    · exact absurd ok.2 n
  · rcases V2 with ⟨w', -⟩ | ⟨-, t1⟩ | ⟨w', -⟩
    · exact absurd w'.1 no
    · refine ⟨d, ?_, ?_⟩
      · rw [t1.2.1, if_neg (by omega), t0.2.1, if_neg (by omega), E 16 (by omega), ex.fld (by omega)]; exact d1
      · rw [t1.2.1, if_neg (by omega), t0.2.1, if_neg (by omega), E 213 (by omega), ex.fld (by omega)]; exact d2
    · exact absurd w' no
  · rcases V2 with ⟨w', -⟩ | ⟨n, -⟩ | ⟨-, -, t1⟩
    · exact absurd w'.2 no
    · exact absurd yes n
    · refine ⟨d, ?_, ?_⟩
      · rw [t1.2.1, if_neg (by omega), t0.2.1, if_neg (by omega), E 16 (by omega), ex.fld (by omega)]; exact d1
      · rw [t1.2.1, if_neg (by omega), t0.2.1, if_neg (by omega), E 213 (by omega), ex.fld (by omega)]; exact d2
def wFu (Wr : List (Nat × Nat)) : Bool := Wr.all (fun w => !(w.1 == 4) && !(w.1 == 16) && !(w.1 == 18) && !(w.1 == 45) && !(w.1 == 46) && !(w.1 == 47))
def wDy (Wr : List (Nat × Nat)) : Bool := !(wIn Wr 8 0) && !(wIn Wr 40 1)
section fr3
variable {W2 W4 : List (Nat × Nat)} {N1 N2 N3 : Int} {ρ1 ρ2 ρ3 : List Nat} {h1 h2 h3 h4 : List zC}
theorem qRFu.fr3 (hr : qRFu h1) (S1 : Stc h1) (ro1 : Ro ρ1) (H1 : tHeap wT N1 ρ1 h1) (F2 : gFr W2 ρ1 h1 h2) (w2 : wFu W2 = true) (S2 : Stc h2) (ro2 : Ro ρ2) (H2 : tHeap wT N2 ρ2 h2) (F3 : gFr [] ρ2 h2 h3) (S3 : Stc h3) (ro3 : Ro ρ3) (H3 : tHeap wT N3 ρ3 h3) (F4 : gFr W4 ρ3 h3 h4) (w4 : wFu W4 = true) : qRFu h4 := ((hr.fr S1 ro1 H1 F2 w2).fr S2 ro2 H2 F3 rfl).fr S3 ro3 H3 F4 w4
theorem qRDy.fr3 (hr : qRDy h1) (S1 : Stc h1) (ro1 : Ro ρ1) (H1 : tHeap wT N1 ρ1 h1) (F2 : gFr W2 ρ1 h1 h2) (w2 : wDy W2 = true) (S2 : Stc h2) (ro2 : Ro ρ2) (H2 : tHeap wT N2 ρ2 h2) (F3 : gFr [] ρ2 h2 h3) (S3 : Stc h3) (ro3 : Ro ρ3) (H3 : tHeap wT N3 ρ3 h3) (F4 : gFr W4 ρ3 h3 h4) (w4 : wDy W4 = true) : qRDy h4 := ((hr.fr S1.1 ro1 F2 w2).fr S2.1 ro2 F3 rfl).fr S3.1 ro3 F4 w4
end fr3

/-! ===== what is held: both ways are the same ===== -/
theorem byc_s {t w : Nat → Int32} {k i : Nat} : byc t w (k + 1) i = if (3 + t k).toNatClampNeg = i then byc t w k i + w k else byc t w k i := rfl
theorem pwF_s {t w : Nat → Int32} {x : Int32} {k : Nat} : pwF t w x (k + 1) = if t k = x then pwF t w x k + w k else pwF t w x k := rfl
theorem i3_add {x : Int32} (hx : rI (-3) 100 x) : (3 + x).toInt = 3 + x.toInt := by
  obtain ⟨h1, h2⟩ := hx
  have z1 : (-3 : Int32).toInt = -3 := rfl
  have z2 : (100 : Int32).toInt = 100 := rfl
  have z3 : (3 : Int32).toInt = 3 := rfl
  rw [Int32.toInt_add, z3]
  exact Int.bmod_eq_of_le (by omega) (by omega)
theorem byc_pw {t w : Nat → Int32} {x : Int32} (hx : rI (-3) 100 x) (ht : ∀ j, j < 6 → rI (-3) 100 (t j)) : ∀ k, k ≤ 6 → byc t w k (3 + x).toNatClampNeg = pwF t w x k
  | 0, _ => rfl
  | k + 1, hk => by
    have ih := byc_pw (w := w) hx ht k (by omega)
    have e1 := i3_add (ht k (by omega))
    have e2 := i3_add hx
    have z1 : (-3 : Int32).toInt = -3 := rfl
    have key : (3 + t k).toNatClampNeg = (3 + x).toNatClampNeg ↔ t k = x := by
      constructor
      · intro h
        have h : (3 + t k).toInt.toNat = (3 + x).toInt.toNat := h
        obtain ⟨h1, h2⟩ := hx
        obtain ⟨h3, h4⟩ := ht k (by omega)
        exact Int32.toInt_inj.mp (by omega)
      · intro h
        rw [h]
    rw [byc_s, pwF_s, ih]
    by_cases z : t k = x
    · rw [if_pos z, if_pos (key.mpr z)]
    · rw [if_neg z, if_neg (fun y => z (key.mp y))]
theorem byc_ext {t w t' w' : Nat → Int32} (h : ∀ j, j < 6 → t j = t' j ∧ w j = w' j) (i : Nat) : ∀ k, k ≤ 6 → byc t w k i = byc t' w' k i
  | 0, _ => rfl
  | k + 1, hk => by
    rw [byc_s, byc_s, byc_ext h i k (by omega), (h k (by omega)).1, (h k (by omega)).2]
theorem pw_b {t w : Nat → Int32} {x : Int32} (hw : ∀ j, j < 6 → rI 1 99 (w j)) : ∀ k, k ≤ 6 → 0 ≤ (pwF t w x k).toInt ∧ (pwF t w x k).toInt ≤ 99 * k ∧ ((∃ j, j < k ∧ t j = x) → 0 < (pwF t w x k).toInt) ∧ (0 < (pwF t w x k).toInt → ∃ j, j < k ∧ t j = x)
  | 0, _ => by
    have z : (pwF t w x 0).toInt = 0 := rfl
    rw [z]
    exact ⟨Int.le_refl _, Int.le_refl _, fun ⟨j, h, _⟩ => absurd h (Nat.not_lt_zero _), fun h => absurd h (Int.lt_irrefl _)⟩
  | k + 1, hk => by
    obtain ⟨a, b, c, d⟩ := pw_b (t := t) (x := x) hw k (by omega)
    obtain ⟨w1, w2⟩ := hw k (by omega)
    have z1 : (1 : Int32).toInt = 1 := rfl
    have z99 : (99 : Int32).toInt = 99 := rfl
    rw [pwF_s]
    by_cases z : t k = x
    · rw [if_pos z]
      have e : (pwF t w x k + w k).toInt = (pwF t w x k).toInt + (w k).toInt := by
        rw [Int32.toInt_add]
        exact Int.bmod_eq_of_le (by omega) (by omega)
      rw [e]
      exact ⟨by omega, by omega, fun _ => by omega, fun _ => ⟨k, by omega, z⟩⟩
    · rw [if_neg z]
      refine ⟨a, by omega, fun ⟨j, h1, h2⟩ => c ⟨j, ?_, h2⟩, fun h => ?_⟩
      · rcases Nat.lt_or_ge j k with y | y
        · exact y
        · have e : j = k := by omega
          rw [e] at h2
          exact absurd h2 z
      · obtain ⟨j, h1, h2⟩ := d h
        exact ⟨j, by omega, h2⟩
theorem mh_i {t w : Nat → Int32} (hw : ∀ j, j < 6 → rI 1 99 (w j)) : ∀ k, k ≤ 6 → (mhF t w k = (0, -1) ∧ ∀ j, j < k → t j < 0) ∨ (0 ≤ (mhF t w k).2.toInt ∧ (∃ j, j < k ∧ t j = (mhF t w k).2) ∧ (mhF t w k).1 = pwF t w (mhF t w k).2 6 ∧ ∀ j, j < k → ¬ t j < 0 → (pwF t w (t j) 6).toInt < (mhF t w k).1.toInt ∨ (pwF t w (t j) 6 = (mhF t w k).1 ∧ (mhF t w k).2.toInt ≤ (t j).toInt))
  | 0, _ => Or.inl ⟨rfl, fun j h => absurd h (Nat.not_lt_zero _)⟩
  | k + 1, hk => by
    have ih := mh_i (t := t) hw k (by omega)
    have z0 : (0 : Int32).toInt = 0 := rfl
    by_cases z : ¬ t k < 0 ∧ ((mhF t w k).1 < pwF t w (t k) 6 ∨ pwF t w (t k) 6 = (mhF t w k).1 ∧ t k < (mhF t w k).2)
    · rw [mhF_y z]
      obtain ⟨z1, z2⟩ := z
      rw [i32_lt] at z1
      refine Or.inr ⟨by dsimp only; omega, ⟨k, by omega, rfl⟩, rfl, fun j hj hn => ?_⟩
      dsimp only
      by_cases e : j = k
      · rw [e]
        exact Or.inr ⟨rfl, Int.le_refl _⟩
      · rcases ih with ⟨i1, i2⟩ | ⟨i1, i2, i3, i4⟩
        · exact absurd (i2 j (by omega)) hn
        · rcases i4 j (by omega) hn with q | ⟨q1, q2⟩
          · rcases z2 with z2 | ⟨z2, z3⟩
            · rw [i32_lt] at z2
              exact Or.inl (by omega)
            · rw [z2]
              exact Or.inl q
          · rcases z2 with z2 | ⟨z2, z3⟩
            · rw [i32_lt] at z2
              rw [q1]
              exact Or.inl z2
            · rw [i32_lt] at z3
              exact Or.inr ⟨by rw [q1, z2], by omega⟩
    · rw [mhF_n z]
      rcases ih with ⟨i1, i2⟩ | ⟨i1, i2, i3, i4⟩
      · refine Or.inl ⟨i1, fun j hj => ?_⟩
        by_cases e : j = k
        · rw [e]
          refine Decidable.byContradiction (fun hn => z ⟨hn, Or.inl ?_⟩)
          rw [i1, i32_lt]
          exact (pw_b (t := t) (x := t k) hw 6 (Nat.le_refl _)).2.2.1 ⟨k, by omega, rfl⟩
        · exact i2 j (by omega)
      · obtain ⟨j0, j1, j2⟩ := i2
        refine Or.inr ⟨i1, ⟨j0, by omega, j2⟩, i3, fun j hj hn => ?_⟩
        by_cases e : j = k
        · rw [e] at hn ⊢
          by_cases a : (mhF t w k).1 < pwF t w (t k) 6
          · exact absurd ⟨hn, Or.inl a⟩ z
          · rw [i32_lt] at a
            by_cases b : pwF t w (t k) 6 = (mhF t w k).1
            · refine Or.inr ⟨b, ?_⟩
              by_cases c : t k < (mhF t w k).2
              · exact absurd ⟨hn, Or.inr ⟨b, c⟩⟩ z
              · rw [i32_lt] at c
                omega
            · have : ¬ (pwF t w (t k) 6).toInt = (mhF t w k).1.toInt := fun y => b (Int32.toInt_inj.mp y)
              exact Or.inl (by omega)
        · exact i4 j (by omega) hn
theorem bs_i {c : Nat → Int32} : ∀ k, k ≤ 101 → (bsF c k = -1 ∧ ∀ x, x < k → ¬ 0 < (c (3 + Int32.ofNat x).toNatClampNeg).toInt) ∨ (∃ b, b < k ∧ bsF c k = Int32.ofNat b ∧ 0 < (c (3 + Int32.ofNat b).toNatClampNeg).toInt ∧ (∀ x, x < k → (c (3 + Int32.ofNat x).toNatClampNeg).toInt ≤ (c (3 + Int32.ofNat b).toNatClampNeg).toInt) ∧ ∀ x, x < b → (c (3 + Int32.ofNat x).toNatClampNeg).toInt < (c (3 + Int32.ofNat b).toNatClampNeg).toInt)
  | 0, _ => Or.inl ⟨rfl, fun x h => absurd h (Nat.not_lt_zero _)⟩
  | k + 1, hk => by
    have z0 : (0 : Int32).toInt = 0 := rfl
    have zm : (-1 : Int32).toInt = -1 := rfl
    rcases bs_i (c := c) k (by omega) with ⟨i1, i2⟩ | ⟨b, b1, b2, b3, b4, b5⟩
    · by_cases z : (0 : Int32) < c (3 + Int32.ofNat k).toNatClampNeg
      · rw [bsF_y (by rw [i1, if_pos rfl]; exact z)]
        rw [i32_lt, z0] at z
        refine Or.inr ⟨k, by omega, rfl, z, fun x hx => ?_, fun x hx => ?_⟩
        · by_cases e : x = k
          · rw [e]
            exact Int.le_refl _
          · have := i2 x (by omega)
            omega
        · have := i2 x hx
          omega
      · rw [bsF_n (by rw [i1, if_pos rfl]; exact z)]
        rw [i32_lt, z0] at z
        refine Or.inl ⟨i1, fun x hx => ?_⟩
        by_cases e : x = k
        · rw [e]
          exact z
        · exact i2 x (by omega)
    · have nb : ¬ Int32.ofNat b = -1 := fun e => by
        have y := congrArg Int32.toInt e
        rw [(toNat_ofNat (m := b) (by omega)).2, zm] at y
        omega
      by_cases z : c (3 + Int32.ofNat b).toNatClampNeg < c (3 + Int32.ofNat k).toNatClampNeg
      · rw [bsF_y (by rw [b2, if_neg nb]; exact z)]
        rw [i32_lt] at z
        refine Or.inr ⟨k, by omega, rfl, by omega, fun x hx => ?_, fun x hx => ?_⟩
        · by_cases e : x = k
          · rw [e]
            exact Int.le_refl _
          · have := b4 x (by omega)
            omega
        · have := b4 x hx
          omega
      · rw [bsF_n (by rw [b2, if_neg nb]; exact z)]
        rw [i32_lt] at z
        refine Or.inr ⟨b, by omega, b2, b3, fun x hx => ?_, b5⟩
        by_cases e : x = k
        · rw [e]
          omega
        · exact b4 x (by omega)
theorem best_same {t w : Nat → Int32} (hw : ∀ j, j < 6 → rI 1 99 (w j)) (ht : ∀ j, j < 6 → rI (-3) 100 (t j)) : bsF (byc t w 6) 101 = (mhF t w 6).2 ∧ ((mhF t w 6).2 = -1 ∨ rI 0 100 (mhF t w 6).2) := by
  have z0 : (0 : Int32).toInt = 0 := rfl
  have z3 : (-3 : Int32).toInt = -3 := rfl
  have z100 : (100 : Int32).toInt = 100 := rfl
  have C : ∀ x : Int32, rI (-3) 100 x → byc t w 6 (3 + x).toNatClampNeg = pwF t w x 6 := fun x hx => byc_pw hx ht 6 (Nat.le_refl _)
  have R : ∀ b : Nat, b < 101 → rI (-3) 100 (Int32.ofNat b) := fun b hb => by
    have := (toNat_ofNat (m := b) (by omega)).2
    exact ⟨by omega, by omega⟩
  rcases mh_i (t := t) hw 6 (Nat.le_refl _) with ⟨m1, m2⟩ | ⟨m1, ⟨j, j1, j2⟩, m3, m4⟩
  · rcases bs_i (c := byc t w 6) 101 (Nat.le_refl _) with ⟨b1, b2⟩ | ⟨b, b1, b2, b3, -, -⟩
    · rw [b1, m1]
      exact ⟨rfl, Or.inl rfl⟩
    · exfalso
      rw [C _ (R b b1)] at b3
      obtain ⟨j, j1, j2⟩ := (pw_b (t := t) (x := Int32.ofNat b) hw 6 (Nat.le_refl _)).2.2.2 b3
      have y := m2 j j1
      rw [j2, i32_lt, z0, (toNat_ofNat (m := b) (by omega)).2] at y
      omega
  · have rs : rI 0 100 (mhF t w 6).2 := by
      have y := ht j j1
      rw [j2] at y
      exact ⟨by omega, y.2⟩
    have rs3 : rI (-3) 100 (mhF t w 6).2 := ⟨by omega, rs.2⟩
    obtain ⟨n, hn⟩ : ∃ n : Nat, n = (mhF t w 6).2.toInt.toNat := ⟨_, rfl⟩
    obtain ⟨rs1, rs2⟩ := rs
    have n101 : n < 101 := by omega
    have es : (mhF t w 6).2 = Int32.ofNat n := Int32.toInt_inj.mp (by rw [(toNat_ofNat (m := n) (by omega)).2]; omega)
    have pos := (pw_b (t := t) (x := (mhF t w 6).2) hw 6 (Nat.le_refl _)).2.2.1 ⟨j, j1, j2⟩
    refine ⟨?_, Or.inr ⟨rs1, rs2⟩⟩
    rcases bs_i (c := byc t w 6) 101 (Nat.le_refl _) with ⟨b1, b2⟩ | ⟨b, b1, b2, b3, b4, b5⟩
    · exfalso
      refine b2 n n101 ?_
      rw [← es, C _ rs3]
      exact pos
    · have q1 := b4 n n101
      rw [← es, C _ rs3, C _ (R b b1)] at q1
      have b3' := b3
      rw [C _ (R b b1)] at b3'
      obtain ⟨i, i1, i2⟩ := (pw_b (t := t) (x := Int32.ofNat b) hw 6 (Nat.le_refl _)).2.2.2 b3'
      have eb := (toNat_ofNat (m := b) (by omega)).2
      have en := (toNat_ofNat (m := n) (by omega)).2
      have q := m4 i i1 (by rw [i2, i32_lt, z0, eb]; omega)
      rw [i2] at q
      rcases q with q | ⟨q, q2⟩
      · rw [m3] at q
        omega
      · rw [eb] at q2
        by_cases y : n < b
        · exfalso
          have q3 := b5 n y
          rw [← es, C _ rs3, C _ (R b b1), q, m3] at q3
          exact absurd q3 (Int.lt_irrefl _)
        · have e : n = b := by
            rw [es, en] at q2
            omega
          rw [b2, es, e]
theorem held_same {t w : Nat → Int32} {y : Int32} (hw : ∀ j, j < 6 → rI 1 99 (w j)) (ht : ∀ j, j < 6 → rI (-3) 100 (t j)) (hy : rI 0 3 y) : hdF t w y = hnF (byc t w 6) y := by
  have C : ∀ x : Int32, rI (-3) 100 x → byc t w 6 (3 + x).toNatClampNeg = pwF t w x 6 := fun x hx => byc_pw hx ht 6 (Nat.le_refl _)
  obtain ⟨e, r⟩ := best_same hw ht
  have z3 : (-3 : Int32).toInt = -3 := rfl
  have z0 : (0 : Int32).toInt = 0 := rfl
  unfold hdF hnF
  rw [e]
  by_cases y0 : y.toInt = 0
  · rw [if_pos y0, if_pos y0]
  · rw [if_neg y0, if_neg y0]
    by_cases y1 : y.toInt = 1
    · rw [if_pos y1, if_pos y1]
      rcases r with r | r
      · rw [if_pos r, if_pos r]
      · rw [C _ ⟨by have := r.1; omega, r.2⟩]
    · rw [if_neg y1, if_neg y1]
      have c1 : byc t w 6 1 = pwF t w (-2) 6 := C (-2) ⟨by decide, by decide⟩
      have c2 : byc t w 6 2 = pwF t w (-1) 6 := C (-1) ⟨by decide, by decide⟩
      by_cases y2 : y.toInt = 2
      · rw [if_pos y2, if_pos y2, c1]
      · rw [if_neg y2, if_neg y2, c2]
/-! the customs, on both sides -/
theorem szF_b : ∀ a, a < 64 → 0 ≤ (szF (Int32.ofNat a)).toInt ∧ (szF (Int32.ofNat a)).toInt ≤ 6 := by decide +kernel
theorem rI63 {x : Int32} (hx : rI 0 63 x) : ∃ n : Nat, n < 64 ∧ x = Int32.ofNat n := by
  obtain ⟨h1, h2⟩ := hx
  have z0 : (0 : Int32).toInt = 0 := rfl
  have z1 : (63 : Int32).toInt = 63 := rfl
  refine ⟨x.toInt.toNat, by omega, Int32.toInt_inj.mp ?_⟩
  rw [Int32.toInt_ofNat_of_lt (by omega)]
  omega
theorem st_pos {a b c : Int32} (ha : rI 0 63 a) (hb : rI 0 63 b) (hc : rI 1 5 c) : 0 < (10 * (szF a + szF b) + c).toInt := by
  obtain ⟨m, m1, rfl⟩ := rI63 ha
  obtain ⟨n, n1, rfl⟩ := rI63 hb
  obtain ⟨a1, a2⟩ := szF_b m m1
  obtain ⟨b1, b2⟩ := szF_b n n1
  obtain ⟨c1, c2⟩ := hc
  have z1 : (1 : Int32).toInt = 1 := rfl
  have z5 : (5 : Int32).toInt = 5 := rfl
  have z10 : (10 : Int32).toInt = 10 := rfl
  have e1 : (szF (Int32.ofNat m) + szF (Int32.ofNat n)).toInt = (szF (Int32.ofNat m)).toInt + (szF (Int32.ofNat n)).toInt := by
    rw [Int32.toInt_add]
    exact Int.bmod_eq_of_le (by omega) (by omega)
  have e2 : (10 * (szF (Int32.ofNat m) + szF (Int32.ofNat n))).toInt = 10 * ((szF (Int32.ofNat m)).toInt + (szF (Int32.ofNat n)).toInt) := by
    rw [Int32.toInt_mul, z10, e1]
    exact Int.bmod_eq_of_le (by omega) (by omega)
  rw [Int32.toInt_add, e2, Int.bmod_eq_of_le (by omega) (by omega)]
  omega
theorem qREF.eqs {h : List zC} {p q : Nat} (r : qREF h p q) : iv h p 0 = iv h q 0 ∧ iv h p 1 = iv h q 1 ∧ iv h p 2 = iv h q 2 ∧ iv h p 3 = iv h q 3 ∧ iv h p 4 = iv h q 4 ∧ iv h p 5 = iv h q 5 ∧ iv h p 7 = iv h q 8 ∧ iv h p 8 = iv h q 9 ∧ iv h p 9 = iv h q 7 ∧ iv h p 10 = stV h q ∧ 0 < (stV h q).toInt := by
  obtain ⟨⟨a, b, c, ⟨a1, a2⟩, ⟨b1, b2⟩, ⟨c1, c2⟩, s1, ra, rb, rab⟩, fl, fp, -⟩ := r
  have fe : ∀ e ∈ prs, iv h p e.1 = iv h q e.2 := fun e he => by
    obtain ⟨x, x1, x2⟩ := fl e he
    rw [iv_of x1, iv_of x2]
  have sv : stV h q = 10 * (szF a + szF b) + c := by
    unfold stV
    rw [iv_of a2, iv_of b2, iv_of c2]
  have e1 : bcO (a ||| b) = szF a + szF b := by
    obtain ⟨m, m1, rfl⟩ := rI63 ra
    obtain ⟨n, n1, rfl⟩ := rI63 rb
    exact bc_sz ra rb rab ⟨7, szF_tab _ m1⟩ ⟨7, szF_tab _ n1⟩
  rw [iv_of c2] at fp
  exact ⟨fe (0, 0) (by decide), fe (1, 1) (by decide), fe (2, 2) (by decide), by rw [iv_of a1, iv_of a2], by rw [iv_of b1, iv_of b2], fe (5, 5) (by decide), fe (7, 8) (by decide), fe (8, 9) (by decide), fe (9, 7) (by decide), by rw [iv_of s1, e1, sv], by rw [sv]; exact st_pos ra rb fp⟩
theorem d_same {h : List zC} {cnt : Int32} {el : Nat} {p m r f a d : Int32} (r7 : qRFL h cnt el) : ∀ k, k < cnt.toNatClampNeg → dC h p m r f a d k = dM h el p m r f a d k := fun k hk => by
  obtain ⟨q, q1, -, -, q4⟩ := r7.1 k hk
  obtain ⟨f0, f1, f2, f3, f4, f5, f7, f8, f9, f10, -⟩ := q4.eqs
  have ok : okP (iv h (31 + k)) m r f a d = okP (mR h q) m r f a d := by
    unfold okP
    rw [f1, f2, f3, f4, f7, f8, f9]
    rfl
  unfold dC dM
  rw [rf_of q1]
  by_cases z : iv h q 0 = p ∧ okP (mR h q) m r f a d
  · rw [if_pos z, if_pos (show iv h (31 + k) 0 = p ∧ okP (iv h (31 + k)) m r f a d from ⟨by rw [f0]; exact z.1, by rw [ok]; exact z.2⟩), f10, f5]
  · rw [if_neg z, if_neg (fun y : iv h (31 + k) 0 = p ∧ okP (iv h (31 + k)) m r f a d => z ⟨by rw [← f0]; exact y.1, by rw [← ok]; exact y.2⟩)]
/-- what a parish's customs tell is the same on both sides, and it is -2, -1 or a share -/
theorem cust_same {h : List zC} {cnt : Int32} {el : Nat} {p m r f a d : Int32} (r7 : qRFL h cnt el) : (cuC (dC h p m r f a d) cnt.toNatClampNeg).1 = (cuM (dM h el p m r f a d) cnt.toNatClampNeg).1 ∧ rI (-3) 100 (cuC (dC h p m r f a d) cnt.toNatClampNeg).1 := by
  have share : ∀ k, k < cnt.toNatClampNeg → ∀ st sh, dC h p m r f a d k = some (st, sh) → 0 < st.toInt ∧ rI 0 100 sh := fun k hk st sh e => by
    obtain ⟨q, q1, -, -, q4⟩ := r7.1 k hk
    obtain ⟨-, -, -, -, -, f5, -, -, -, f10, f11⟩ := q4.eqs
    unfold dC at e
    split at e
    · cases e
      rw [f10, f5]
      exact ⟨f11, q4.2.2.2⟩
    · cases e
  refine ⟨?_, ?_⟩
  · have e : cuM (dC h p m r f a d) cnt.toNatClampNeg = cuM (dM h el p m r f a d) cnt.toNatClampNeg := cu_same (d_same r7) _ (Nat.le_refl _)
    rw [← e]
    exact (cu_eq (n := cnt.toNatClampNeg) (fun k hk st sh e => (share k hk st sh e).1) _ (Nat.le_refl _)).1
  · have z3 : (-3 : Int32).toInt = -3 := rfl
    have z0 : (0 : Int32).toInt = 0 := rfl
    have key : ∀ n, n ≤ cnt.toNatClampNeg → rI (-3) 100 (cuC (dC h p m r f a d) n).1 := fun n => by
      induction n with
      | zero => exact fun _ => show rI (-3) 100 (-1) from ⟨by decide, by decide⟩
      | succ n ih =>
        intro hn
        have ih := ih (by omega)
        show rI (-3) 100 (stC (cuC (dC h p m r f a d) n) (dC h p m r f a d n)).1
        cases e : dC h p m r f a d n with
        | none => exact ih
        | some y =>
          obtain ⟨st, sh⟩ := y
          obtain ⟨-, s1, s2⟩ := share n (by omega) st sh e
          unfold stC
          dsimp only
          split
          · exact ⟨by show (-3 : Int32).toInt ≤ sh.toInt; omega, s2⟩
          · split
            · exact show rI (-3) 100 (-2) from ⟨by decide, by decide⟩
            · exact ih
    exact key _ (Nat.le_refl _)
/-! the relation -/
def wRp (Wr : List (Nat × Nat)) : Bool := Wr.all (fun w => !(w.1 == 9) && !(w.1 == 41))
theorem qRp.fr {Wr : List (Nat × Nat)} {ρ : List Nat} {h h' : List zC} (hr : qRp h) (hl : 239 ≤ h.length) (ro : Ro ρ) (hF : gFr Wr ρ h h') (hw : wRp Wr = true) : qRp h' := fun i hi => by
  have no : ∀ r k, r = 9 ∨ r = 41 → wIn Wr r k = false := fun r k hrk => by
    unfold wIn
    refine List.any_eq_false.mpr (fun w hm => ?_)
    have := List.all_eq_true.mp hw w hm
    simp only [Bool.and_eq_true, Bool.not_eq_true', beq_eq_false_iff_ne] at this
    have : ¬ w.1 = r := by omega
    simp [this]
  obtain ⟨x, x1, x2, x3⟩ := hr i hi
  exact ⟨x, by rw [gFr_F hF (ro 17 9 (by decide +kernel)) (no _ _ (Or.inl rfl)) (by omega)]; exact x1, by rw [gFr_F hF (ro 214 41 (by decide +kernel)) (no _ _ (Or.inr rfl)) (by omega)]; exact x2, x3⟩
/-- people are told on both sides -/
theorem sum_people {h1 h2 h3 h5 : List zC} {u2 u5 : Nat} {p x k r' : Int32} (hr : qRp h1) (hl : 239 ≤ h1.length) (hl2 : h1.length ≤ h2.length)
    (V1 : Q_Lpeople p x h1 (.inl (some (.int k))) h2 u2) (E : ∀ p, p < h2.length → ∀ k, gF h3 p k = gF h2 p k) (V2 : Q_mpeople p x h3 (.inl (some (.int r'))) h5 u5) : qRp h5 := by
  obtain ⟨k', e1, V1⟩ := V1
  cases e1
  obtain ⟨y, h4, e2, t0, V2⟩ := V2
  rcases V1 with ⟨rfl, ok, hm, w, p1, po⟩ | ⟨-, no, ex⟩
  · rcases V2 with ⟨-, g⟩ | ⟨n, -⟩
    · intro i hi
      have ip := ok.1
      have a17 : gF h5 17 i = gF hm 17 i := by
        rw [g.2.1, if_neg (by omega), t0.2.1, if_neg (by omega), E 17 (by omega), po.2.1, if_neg (by omega)]
      have a214 : ¬ i = p.toNatClampNeg → gF h5 214 i = gF h1 214 i := fun z => by
        rw [g.2.1, if_neg (by omega), t0.2.1, if_neg (by omega), E 214 (by omega), po.2.1, if_neg (by omega), p1.2.1, if_neg (by omega)]
      by_cases z : i = p.toNatClampNeg
      · exact ⟨x, by rw [a17, p1.2.1, if_pos ⟨rfl, z⟩], by rw [g.2.1, if_pos ⟨rfl, z⟩], ok.2⟩
      · obtain ⟨y, y1, y2, y3⟩ := hr i hi
        exact ⟨y, by rw [a17, p1.2.1, if_neg (by omega)]; exact y1, by rw [a214 z]; exact y2, y3⟩
    · exact absurd ok n
  · rcases V2 with ⟨ok, -⟩ | ⟨-, kk, t1⟩
    · exact absurd ok no
    · intro i hi
      obtain ⟨y, y1, y2, y3⟩ := hr i hi
      refine ⟨y, ?_, ?_, y3⟩
      · rw [t1.2.1, if_neg (by omega), t0.2.1, if_neg (by omega), E 17 (by omega), ex.fld (by omega)]
        exact y1
      · rw [t1.2.1, if_neg (by omega), t0.2.1, if_neg (by omega), E 214 (by omega), ex.fld (by omega)]
        exact y2
/-- what is held is asked on both sides -/
theorem sum_held {h1 h2 h3 h5 : List zC} {u2 u5 el : Nat} {cnt d m r f a y k r' : Int32} (r4 : el = 4 ∨ 239 ≤ el) (r6 : cnt.toInt ≤ 40) (r7 : qRFL h1 cnt el) (hel : el < h1.length) (hp : qRp h1) (hl : 239 ≤ h1.length) (hl2 : h1.length ≤ h2.length) (hl3 : h2.length ≤ h3.length)
    (V1 : Q_Lheld cnt d m r f a y h1 (.inl (some (.int k))) h2 u2) (E : ∀ p, p < h2.length → ∀ k, gF h3 p k = gF h2 p k) (V2 : Q_mheld el cnt d m r f a y h3 (.inl (some (.int r'))) h5 u5) : gF h5 213 0 = some (.int k) ∧ (k = 0 → gF h5 238 0 = some (.long r'.toInt64)) ∧ (k = 0 ∨ k = 1 ∨ k = 2) := by
  obtain ⟨k', e1, V1⟩ := V1
  cases e1
  obtain ⟨w, h4, e2, t0, V2⟩ := V2
  cases e2
  rcases V1 with ⟨rfl, ok, hm, lm, fm, am, po⟩ | ⟨rfl, no, ex⟩ | ⟨rfl, yes, no, ex⟩
  · rcases V2 with ⟨-, fr, fl, rfl⟩ | ⟨n, -⟩ | ⟨-, n, -⟩
    · have l4 : h4.length = h3.length := t0.1
      have l2 : h2.length = hm.length := po.1
      have old : ∀ v i, v < h1.length → ¬ v = 213 → ¬ v = 238 → ¬ v = 186 → ¬ v = 26 → gF h4 v i = gF h1 v i := fun v i v1 v2 v3 v4 v5 => by
        rw [t0.2.1, if_neg (fun z => v2 z.1), E v (by omega), po.2.1, if_neg (fun z => v3 z.1), fm v i v4 v5]
      have tc : ∀ i, i < 6 → iv hm 26 i = tMu h4 el cnt m r f a d i := fun i hi => by
        rw [iv_of (am i hi)]
        unfold tCu
        rw [(cust_same r7).1]
        unfold tMu
        rw [cu_same (n := cnt.toNatClampNeg) (fun x hx => ?_) _ (Nat.le_refl _)]
        obtain ⟨q, q1, q2, q3, q4⟩ := r7.1 x hx
        refine (dM_same (old el x hel (by omega) (by omega) (by omega) (by omega)) (fun z => ?_)).symm
        rw [rf_of q1]
        exact old q z q4.lt.2 (by omega) (by omega) (by omega) (by omega)
      have wc : ∀ i, i < 6 → iv hm 17 i = iv h4 214 i ∧ rI 1 99 (iv hm 17 i) := fun i hi => by
        obtain ⟨y, y1, y2, y3⟩ := hp i hi
        have a1 : gF hm 17 i = some (.int y) := (fm 17 i (by omega) (by omega)).trans y1
        have a2 : gF h4 214 i = some (.int y) := (old 214 i (by omega) (by omega) (by omega) (by omega) (by omega)).trans y2
        rw [iv_of a1, iv_of a2]
        exact ⟨rfl, y3⟩
      have key : hdF (iv hm 26) (iv hm 17) y = hnF (byc (tMu h4 el cnt m r f a d) (iv h4 214) 6) y := by
        rw [held_same (fun j hj => (wc j hj).2) (fun j hj => by
          rw [iv_of (am j hj)]
          unfold tCu
          exact (cust_same r7).2) ok.2.2.2]
        rw [show byc (iv hm 26) (iv hm 17) 6 = byc (tMu h4 el cnt m r f a d) (iv h4 214) 6 from funext (fun i => byc_ext (fun j hj => ⟨tc j hj, (wc j hj).1⟩) i 6 (Nat.le_refl _))]
      refine ⟨?_, fun _ => ?_, Or.inl rfl⟩
      · rw [fr 213 0 (by omega), t0.2.1, if_pos ⟨rfl, rfl⟩]
      · rw [fr 238 0 (by omega), t0.2.1, if_neg (by omega), E 238 (by omega), po.2.1, if_pos ⟨rfl, rfl⟩, key]
    · exact absurd ok.1 n
    · exact absurd ok.2 n
  · rcases V2 with ⟨w', -⟩ | ⟨-, t1⟩ | ⟨w', -⟩
    · exact absurd w'.1 no
    · exact ⟨by rw [t1.2.1, if_pos ⟨rfl, rfl⟩], fun z => absurd z (by decide), Or.inr (Or.inl rfl)⟩
    · exact absurd w' no
  · rcases V2 with ⟨w', -⟩ | ⟨n, -⟩ | ⟨-, -, t1⟩
    · exact absurd w'.2 no
    · exact absurd yes n
    · exact ⟨by rw [t1.2.1, if_pos ⟨rfl, rfl⟩], fun z => absurd z (by decide), Or.inr (Or.inr rfl)⟩
section fr4
variable {W2 W4 : List (Nat × Nat)} {N1 N2 N3 : Int} {ρ1 ρ2 ρ3 : List Nat} {h1 h2 h3 h4 : List zC}
theorem qRp.fr3 (hr : qRp h1) (S1 : Stc h1) (ro1 : Ro ρ1) (F2 : gFr W2 ρ1 h1 h2) (w2 : wRp W2 = true) (S2 : Stc h2) (ro2 : Ro ρ2) (F3 : gFr [] ρ2 h2 h3) (S3 : Stc h3) (ro3 : Ro ρ3) (F4 : gFr W4 ρ3 h3 h4) (w4 : wRp W4 = true) : qRp h4 := ((hr.fr S1.1 ro1 F2 w2).fr S2.1 ro2 F3 rfl).fr S3.1 ro3 F4 w4
end fr4
def qRHe (h : List zC) : Prop := qRFu h ∧ qRDy h ∧ qRp h
def wHe (Wr : List (Nat × Nat)) : Bool := wFu Wr && (wDy Wr && wRp Wr)
theorem qRHe.fr {Wr : List (Nat × Nat)} {N : Int} {ρ : List Nat} {h h' : List zC} (hr : qRHe h) (hS : Stc h) (ro : Ro ρ) (hH : tHeap wT N ρ h) (hF : gFr Wr ρ h h') (hw : wHe Wr = true) : qRHe h' := by
  obtain ⟨w1, w2⟩ := Bool.and_eq_true_iff.mp hw
  obtain ⟨w3, w4⟩ := Bool.and_eq_true_iff.mp w2
  exact ⟨hr.1.fr hS ro hH hF w1, hr.2.1.fr hS.1 ro hF w3, hr.2.2.fr hS.1 ro hF w4⟩

