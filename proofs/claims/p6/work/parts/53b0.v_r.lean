/-! ===== the rules: the relation of both sides ===== -/
/-- a rule on both sides -/
def qRE (h : List zC) (p q : Nat) : Prop := ∃ a b c : Int32, (gF h p 3 = some (.int a) ∧ gF h q 3 = some (.int a)) ∧ (gF h p 4 = some (.int b) ∧ gF h q 4 = some (.int b)) ∧ (gF h p 6 = some (.int c) ∧ gF h q 6 = some (.int c)) ∧ gF h p 10 = some (.int (10 * bcO (a ||| b) + c)) ∧ rI 0 63 a ∧ rI 0 63 b ∧ rI 0 0 (a &&& b)
def qRL (h : List zC) (cnt : Int32) (el : Nat) : Prop := ∀ k, k < cnt.toNatClampNeg → ∃ q : Nat, gF h el k = some (.ref q) ∧ 239 ≤ q ∧ ¬ q = el ∧ qRE h (31 + k) q
/-- the rules are the same on both sides, as far as their strengths go -/
def qRR (h : List zC) : Prop := ∃ (cnt : Int32) (el : Nat), gF h 28 2 = some (.int cnt) ∧ gF h 223 2 = some (.int cnt) ∧ gF h 223 1 = some (.ref el) ∧ (el = 4 ∨ 239 ≤ el) ∧ 0 ≤ cnt.toInt ∧ cnt.toInt ≤ 40 ∧ qRL h cnt el
theorem qRE.same {h h' : List zC} {p q p' q' : Nat} (r : qRE h p q) (e : ∀ k, k = 3 ∨ k = 4 ∨ k = 6 ∨ k = 10 → gF h' p' k = gF h p k) (f : ∀ k, k = 3 ∨ k = 4 ∨ k = 6 → gF h' q' k = gF h q k) : qRE h' p' q' := by
  obtain ⟨a, b, c, ⟨a1, a2⟩, ⟨b1, b2⟩, ⟨c1, c2⟩, d1, r1, r2, r3⟩ := r
  refine ⟨a, b, c, ⟨?_, ?_⟩, ⟨?_, ?_⟩, ⟨?_, ?_⟩, ?_, r1, r2, r3⟩
  · rw [e 3 (by omega)]; exact a1
  · rw [f 3 (by omega)]; exact a2
  · rw [e 4 (by omega)]; exact b1
  · rw [f 4 (by omega)]; exact b2
  · rw [e 6 (by omega)]; exact c1
  · rw [f 6 (by omega)]; exact c2
  · rw [e 10 (by omega)]; exact d1
theorem toNat_lt {c : Int32} {k : Nat} (h : k < c.toNatClampNeg) (h40 : c.toInt ≤ 40) : k < 40 := by
  have h : k < c.toInt.toNat := h
  omega
/-- what leaves all but some fields of the results alone keeps the rules -/
theorem qRR.same {h h' : List zC} (hr : qRR h) (hl : 239 ≤ h.length) (e : ∀ p k, p < h.length → ¬ p = 213 → ¬ p = 238 → gF h' p k = gF h p k) : qRR h' := by
  obtain ⟨cnt, el, r1, r2, r3, r4, r5, r6, r7⟩ := hr
  refine ⟨cnt, el, ?_, ?_, ?_, r4, r5, r6, fun k hk => ?_⟩
  · rw [e 28 2 (by omega) (by omega) (by omega)]; exact r1
  · rw [e 223 2 (by omega) (by omega) (by omega)]; exact r2
  · rw [e 223 1 (by omega) (by omega) (by omega)]; exact r3
  · obtain ⟨q, q1, q2, q3, q4⟩ := r7 k hk
    have k40 := toNat_lt hk r6
    have hq : q < h.length := by
      obtain ⟨a, b, c, ⟨-, a2⟩, -⟩ := q4
      exact gF_lt a2
    refine ⟨q, ?_, q2, q3, q4.same (fun k _ => e _ _ (by omega) (by omega) (by omega)) (fun k _ => e _ _ hq (by omega) (by omega))⟩
    rw [e el k (gF_lt q1) (by omega) (by omega)]
    exact q1
/-- a cell's kind by its role -/
theorem kind_at {N : Int} {ρ : List Nat} {h : List zC} {p r : Nat} {R : tR} (hH : tHeap wT N ρ h) (hr : ρ[p]? = some r) (hR : wR wT r = some R) : ∃ c, h[p]? = some c ∧ gT h p = some R.1 ∧ gN h p = some c.2.length ∧ (∀ m, R.2.1 = some m → c.2.length = m) ∧ (c.2.length : Int) ≤ tMax ∧ ∀ k v, gF h p k = some v → tHas ρ (tFd R k).1 v := by
  obtain ⟨c, hc⟩ := hH.role hr
  obtain ⟨t1, t2, t3⟩ := hH.2.2.1 p c r R hc hr hR
  unfold tLenOk at t2
  refine ⟨c, hc, (gT_of hc).trans (congrArg some t1), gN_of hc, t2.1, hH.2.2.2.2.2.2.1 p c hc, fun k v e => ?_⟩
  rw [gF_of hc] at e
  exact (t3 k v e).1
/-- a list and its row -/
theorem rl_at {N : Int} {ρ : List Nat} {h : List zC} {el : Nat} {cnt : Int32} (hH : tHeap wT N ρ h) (ro : Ro ρ) (e1 : gF h 223 1 = some (.ref el)) (e2 : gF h 223 2 = some (.int cnt)) : (∃ l, gN h el = some l ∧ l < 2147483648) ∧ (∃ t, gT h el = some t ∧ 93 ≤ t) ∧ 0 ≤ cnt.toInt ∧ cnt.toInt ≤ 40 ∧ (el = 4 ∨ 239 ≤ el) ∧
    (ρ[el]? = some 4 ∨ ρ[el]? = some 46) ∧ ∀ k, k < cnt.toNatClampNeg → ∃ e : Nat, gF h el k = some (.ref e) ∧ ρ[e]? = some 47 := by
  have hr : ρ[223]? = some 45 := ro _ _ (by decide +kernel)
  obtain ⟨c, hc, -, -, -, -, hf⟩ := kind_at hH hr (R := _) rfl
  obtain ⟨q, n, n1, n2, n3, n4⟩ := hH.2.2.2.2.1 (45, 46, 47) (by decide +kernel) 223 c hr hc
  have n1 : c.2[1]? = some (.ref q) := n1
  have n2 : c.2[2]? = some (.int n) := n2
  rw [gF_of hc, n1] at e1
  rw [gF_of hc, n2] at e2
  cases e1
  cases e2
  have h40 : cnt.toInt ≤ 40 := by
    obtain ⟨x, x1, x2, x3⟩ := hf 2 (.int cnt) (by rw [gF_of hc, n2])
    cases x1
    exact x3
  have el_ok : ∀ r, ρ[el]? = some r → r = 4 ∨ r = 46 → el = 4 ∨ 239 ≤ el := fun r hr2 hrr => by
    rcases Nat.lt_or_ge el 239 with z | z
    · have e := ro el _ (List.getElem?_eq_getElem (rho_lt z))
      rw [hr2] at e
      have key : ∀ el, el < 239 → (rho0.getD el 0 = 4 → el = 4) ∧ ¬ rho0.getD el 0 = 46 := by decide +kernel
      have e3 : rho0.getD el 0 = r := by
        rw [List.getD_eq_getElem?_getD, List.getElem?_eq_getElem (rho_lt z)]
        exact (Option.some.inj e).symm
      rcases hrr with rfl | rfl
      · exact Or.inl ((key el z).1 e3)
      · exact absurd e3 (key el z).2
    · exact Or.inr z
  rcases n4 with ⟨m1, m2⟩ | ⟨m1, cq, m2, m3, m4⟩
  · have m1 : ρ[el]? = some 4 := m1
    obtain ⟨d, hd, k1, k2, k3, k4, -⟩ := kind_at hH m1 (R := _) rfl
    refine ⟨⟨_, k2, by have : tMax = 2147483647 := rfl; omega⟩, ⟨_, k1, by decide⟩, n3, h40, el_ok 4 m1 (Or.inl rfl), Or.inl m1, fun k hk => ?_⟩
    have hk : k < cnt.toInt.toNat := hk
    omega
  · have m1 : ρ[el]? = some 46 := m1
    obtain ⟨d, hd, k1, k2, k3, k4, -⟩ := kind_at hH m1 (R := _) rfl
    refine ⟨⟨_, k2, by have : tMax = 2147483647 := rfl; omega⟩, ⟨_, k1, by decide⟩, n3, h40, el_ok 46 m1 (Or.inr rfl), Or.inr m1, fun k hk => ?_⟩
    have hk : k < cnt.toInt.toNat := hk
    obtain ⟨e, f1, f2⟩ := m4 k (by omega)
    refine ⟨e, ?_, f2⟩
    rw [gF_of m2]
    exact f1
/-- the fields of a reference's rule are numbers -/
theorem rl_int {N : Int} {ρ : List Nat} {h : List zC} {e k : Nat} (hH : tHeap wT N ρ h) (hr : ρ[e]? = some 47) (hk : k = 3 ∨ k = 4 ∨ k = 6) : ∃ x : Int32, gF h e k = some (.int x) := by
  obtain ⟨c, hc, -, -, k3, -, hf⟩ := kind_at hH hr (R := _) rfl
  have hlen : c.2.length = 10 := k3 10 rfl
  have h2 : gF h e k = some (c.2[k]'(by omega)) := by
    rw [gF_of hc, List.getElem?_eq_getElem]
  have h3 := hf k _ h2
  rcases hk with rfl | rfl | rfl
  all_goals
    obtain ⟨x, x1, -⟩ := h3
    exact ⟨x, by rw [h2, x1]⟩
/-- the reference's day is a number -/
theorem day_int {N : Int} {ρ : List Nat} {h : List zC} (hH : tHeap wT N ρ h) (ro : Ro ρ) : ∃ d : Int32, gF h 213 1 = some (.int d) := by
  obtain ⟨c, hc, -, -, k3, -, hf⟩ := kind_at hH (ro 213 40 (by decide +kernel)) (R := _) rfl
  have hlen : c.2.length = 18 := k3 18 rfl
  have h2 : gF h 213 1 = some (c.2[1]'(by omega)) := by
    rw [gF_of hc, List.getElem?_eq_getElem]
  obtain ⟨x, x1, -⟩ := hf 1 _ h2
  exact ⟨x, by rw [h2, x1]⟩
theorem iN_cl {x c : Int32} (hc : 0 ≤ c.toInt) (h : iN c.toInt x) : x.toNatClampNeg < c.toNatClampNeg := by
  obtain ⟨h1, h2⟩ := h
  show x.toInt.toNat < c.toInt.toNat
  omega
theorem qRR.fr {Wr : List (Nat × Nat)} {N : Int} {ρ : List Nat} {h h' : List zC} (hr : qRR h) (hS : Stc h) (ro : Ro ρ) (hH : tHeap wT N ρ h) (hF : gFr Wr ρ h h') (hw : Wr.all (fun w => !(w.1 == 4) && !(w.1 == 16) && !(w.1 == 18) && !(w.1 == 45) && !(w.1 == 46) && !(w.1 == 47)) = true) : qRR h' := by
  have no : ∀ r k, r = 4 ∨ r = 16 ∨ r = 18 ∨ r = 45 ∨ r = 46 ∨ r = 47 → wIn Wr r k = false := fun r k hrk => by
    unfold wIn
    refine List.any_eq_false.mpr (fun w hm => ?_)
    have := List.all_eq_true.mp hw w hm
    simp only [Bool.and_eq_true, Bool.not_eq_true', beq_eq_false_iff_ne] at this
    have : ¬ w.1 = r := by omega
    simp [this]
  have hl := hS.1
  obtain ⟨cnt, el, r1, r2, r3, r4, r5, r6, r7⟩ := hr
  obtain ⟨-, -, -, -, -, s6, s7⟩ := rl_at hH ro r3 r2
  have r18 : ∀ k, k < 40 → rho0[31 + k]? = some 18 := by decide +kernel
  refine ⟨cnt, el, ?_, ?_, ?_, r4, r5, r6, fun k hk => ?_⟩
  · rw [gFr_F hF (ro 28 16 (by decide +kernel)) (no _ _ (by omega)) (by omega)]; exact r1
  · rw [gFr_F hF (ro 223 45 (by decide +kernel)) (no _ _ (by omega)) (by omega)]; exact r2
  · rw [gFr_F hF (ro 223 45 (by decide +kernel)) (no _ _ (by omega)) (by omega)]; exact r3
  · obtain ⟨q, q1, q2, q3, q4⟩ := r7 k hk
    have k40 := toNat_lt hk r6
    obtain ⟨e, e1, e2⟩ := s7 k hk
    rw [q1] at e1
    cases e1
    have hq : q < h.length := by
      obtain ⟨a, b, c, ⟨-, a2⟩, -⟩ := q4
      exact gF_lt a2
    refine ⟨q, ?_, q2, q3, q4.same (fun k2 _ => gFr_F hF (ro _ _ (r18 k k40)) (no _ _ (by omega)) (by omega)) (fun k2 _ => gFr_F hF e2 (no _ _ (by omega)) hq)⟩
    rcases s6 with s6 | s6
    · rw [gFr_F hF s6 (no _ _ (by omega)) (gF_lt q1)]; exact q1
    · rw [gFr_F hF s6 (no _ _ (by omega)) (gF_lt q1)]; exact q1
theorem n_succ {c : Int32} (h0 : 0 ≤ c.toInt) (h : c.toInt < 40) : (c + 1).toNatClampNeg = c.toNatClampNeg + 1 ∧ (c + 1).toInt = c.toInt + 1 := by
  have e : (c + 1).toInt = c.toInt + 1 := by
    rw [Int32.toInt_add]
    have z1 : (1 : Int32).toInt = 1 := rfl
    rw [z1]
    exact Int.bmod_eq_of_le (by omega) (by omega)
  refine ⟨?_, e⟩
  show (c + 1).toInt.toNat = c.toInt.toNat + 1
  omega
/-- a rule is sworn on both sides -/
theorem sum_rule {h1 h2 h3 h5 : List zC} {u2 u5 el : Nat} {cnt d p m c a b s r k r' : Int32} (r1 : gF h1 28 2 = some (.int cnt)) (r2 : gF h1 223 2 = some (.int cnt)) (r3 : gF h1 223 1 = some (.ref el)) (r4 : el = 4 ∨ 239 ≤ el) (r5 : 0 ≤ cnt.toInt) (r6 : cnt.toInt ≤ 40) (r7 : qRL h1 cnt el) (hl : 239 ≤ h1.length) (hl2 : h1.length ≤ h2.length) (hl3 : h2.length ≤ h3.length)
    (V1 : Q_Lrule cnt p m c a b s r h1 (.inl (some (.int k))) h2 u2) (E : ∀ p, p < h2.length → ∀ k, gF h3 p k = gF h2 p k) (V2 : Q_mrule el cnt d p m c a b s r h3 (.inl (some (.int r'))) h5 u5) : qRR h5 ∧ True := by
  refine ⟨?_, trivial⟩
  obtain ⟨k', e1, V1⟩ := V1
  cases e1
  obtain ⟨x, h4, e2, t0, V2⟩ := V2
  rcases V1 with ⟨rfl, ok, hm, w, rm, po⟩ | ⟨-, no, ex⟩
  · rcases V2 with ⟨-, mm⟩ | ⟨no, -⟩
    · obtain ⟨⟨-, -⟩, ⟨-, oa, ob, oab, -, -⟩, o40⟩ := ok
      obtain ⟨m1, m2, ⟨f0, f1, f2, f3, f4, f5, f6⟩, f10, f9, f7, f8, ml, mt⟩ := rm
      obtain ⟨q, el', q1, q2, q3, q4, q5, q6, q7, ⟨g0, g1, g2, g3, g4, g5, g6, g7⟩, g8, g9, n0, q8⟩ := mm
      obtain ⟨sn, si⟩ := n_succ r5 o40
      have hk40 : cnt.toNatClampNeg < 40 := n40 o40
      have old : ∀ x k, x < h1.length → ¬ x = 31 + cnt.toNatClampNeg → ¬ x = 28 → ¬ x = 238 → gF h3 x k = gF h1 x k := fun x k x1 x2 x3 x4 => by
        rw [E x (by omega), po.2.1, if_neg (fun z => x4 z.1), m1 x k x2 (fun z => x3 z.1)]
      have new : ∀ x k, x < h1.length → ¬ x = 223 → ¬ x = el → ¬ x = 213 → gF h5 x k = gF h3 x k := fun x k x1 x2 x3 x4 => q8 x k (by omega) x2 x3 (fun z => x4 z.1)
      refine ⟨cnt + 1, el', ?_, q3, q2, ?_, by omega, by omega, fun k hk => ?_⟩
      · rw [new 28 2 (by omega) (by omega) (by omega) (by omega), E 28 (by omega), po.2.1, if_neg (by omega)]
        exact m2
      · rcases q6 with q6 | q6
        · rw [q6]; exact r4
        · exact Or.inr (by omega)
      · rw [sn] at hk
        rcases Nat.lt_or_ge k cnt.toNatClampNeg with z | z
        · obtain ⟨y, y1, y2, y3, y4⟩ := r7 k z
          have hy : y < h1.length := by
            obtain ⟨a, b, c, ⟨-, a2⟩, -⟩ := y4
            exact gF_lt a2
          have hel := gF_lt y1
          refine ⟨y, ?_, y2, ?_, y4.same (fun k2 _ => ?_) (fun k2 _ => ?_)⟩
          · rw [q4 k z, old el k hel (by omega) (by omega) (by omega)]
            exact y1
          · rcases q6 with q6 | q6
            · rw [q6]; exact y3
            · omega
          · rw [new _ k2 (by omega) (by omega) (by omega) (by omega), old _ k2 (by omega) (by omega) (by omega) (by omega)]
          · rw [new y k2 hy (by omega) y3 (by omega), old y k2 hy (by omega) (by omega) (by omega)]
        · have zk : k = cnt.toNatClampNeg := by omega
          subst zk
          have cl : ∀ k2, gF h5 (31 + cnt.toNatClampNeg) k2 = gF hm (31 + cnt.toNatClampNeg) k2 := fun k2 => by
            rw [new _ k2 (by omega) (by omega) (by omega) (by omega), E _ (by omega), po.2.1, if_neg (by omega)]
          refine ⟨q, q5, by omega, q7, a, b, r, ⟨?_, g3⟩, ⟨?_, g4⟩, ⟨?_, g6⟩, ?_, oa, ob, oab⟩
          · rw [cl]; exact f3
          · rw [cl]; exact f4
          · rw [cl]; exact f6
          · rw [cl]; exact f10
    · exact absurd ok no
  · rcases V2 with ⟨ok, -⟩ | ⟨-, kk, -, t1⟩
    · exact absurd ok no
    · refine qRR.same ⟨cnt, el, r1, r2, r3, r4, r5, r6, r7⟩ hl (fun q k hq n1 n2 => ?_)
      rw [t1.2.1, if_neg (fun z => n1 z.1), t0.2.1, if_neg (fun z => n1 z.1), E q (by omega), ex.fld hq]
/-- a rule's limits on both sides -/
theorem sum_limit {h1 h2 h3 h5 : List zC} {u2 u5 el : Nat} {cnt x a b k r' : Int32} (r1 : gF h1 28 2 = some (.int cnt)) (r2 : gF h1 223 2 = some (.int cnt)) (r3 : gF h1 223 1 = some (.ref el)) (r4 : el = 4 ∨ 239 ≤ el) (r5 : 0 ≤ cnt.toInt) (r6 : cnt.toInt ≤ 40) (r7 : qRL h1 cnt el) (hl : 239 ≤ h1.length) (hl2 : h1.length ≤ h2.length) (hl3 : h2.length ≤ h3.length)
    (V1 : Q_Llimit cnt x a b h1 (.inl (some (.int k))) h2 u2) (E : ∀ p, p < h2.length → ∀ k, gF h3 p k = gF h2 p k) (V2 : Q_mlimit el cnt x a b h3 (.inl (some (.int r'))) h5 u5) :
    qRR h5 ∧ gF h5 213 0 = some (.int k) ∧ (k = 0 → gF h5 238 0 = some (.long r'.toInt64)) ∧ (k = 0 ∨ k = 1 ∨ k = 2) := by
  obtain ⟨k', e1, V1⟩ := V1
  cases e1
  obtain ⟨y, h4, e2, t0, V2⟩ := V2
  cases e2
  have RR1 : qRR h1 := ⟨cnt, el, r1, r2, r3, r4, r5, r6, r7⟩
  rcases V1 with ⟨rfl, ok, s, hm, hn, s1, p1, p2, po⟩ | ⟨rfl, no, ex⟩ | ⟨rfl, yes, no, ex⟩
  · rcases V2 with ⟨-, q, i1, fa, fb, fc, sa, sb, w1, w2, g1, g2, f3, f4, f6, z1, z2, rfl⟩ | ⟨n, -⟩ | ⟨-, n, -⟩
    · have hx := ok.1
      have hxn : x.toNatClampNeg < cnt.toNatClampNeg := by
        obtain ⟨a1, a2⟩ := hx
        show x.toInt.toNat < cnt.toInt.toNat
        omega
      have x40 := toNat_lt hxn r6
      obtain ⟨q', y1, y2, y3, fa', fb', fc', ⟨c3, d3⟩, ⟨c4, d4⟩, ⟨c6, d6⟩, c10, ra, rb, rab⟩ := r7 _ hxn
      have hq := gF_lt d3
      have hel := gF_lt y1
      have old : ∀ v k, v < h1.length → ¬ (v = 31 + x.toNatClampNeg ∧ (k = 7 ∨ k = 8)) → ¬ v = 238 → gF h3 v k = gF h1 v k := fun v k v1 v2 v3 => by
        rw [E v (by omega), po.2.1, if_neg (fun z => v3 z.1), p2.2.1, if_neg (fun z => v2 ⟨z.1, by omega⟩), p1.2.1, if_neg (fun z => v2 ⟨z.1, by omega⟩)]
      have e5 : q = q' := by
        rw [old el _ hel (by omega) (by omega), y1] at w1
        cases w1
        rfl
      subst e5
      have new : ∀ v k, ¬ (v = q ∧ (k = 8 ∨ k = 9)) → ¬ (v = 213 ∧ k = 0) → gF h5 v k = gF h3 v k := fun v k v1 v2 => by
        rw [g2.2.1, if_neg (fun z => v1 ⟨z.1, by omega⟩), g1.2.1, if_neg (fun z => v1 ⟨z.1, by omega⟩), t0.2.1, if_neg v2]
      refine ⟨⟨cnt, el, ?_, ?_, ?_, r4, r5, r6, fun k hk => ?_⟩, ?_, fun _ => ?_, Or.inl rfl⟩
      · rw [new 28 2 (by omega) (by omega), old 28 2 (by omega) (by omega) (by omega)]; exact r1
      · rw [new 223 2 (by omega) (by omega), old 223 2 (by omega) (by omega) (by omega)]; exact r2
      · rw [new 223 1 (by omega) (by omega), old 223 1 (by omega) (by omega) (by omega)]; exact r3
      · obtain ⟨v, v1, v2, v3, v4⟩ := r7 k hk
        have k40 := toNat_lt hk r6
        have hv : v < h1.length := by
          obtain ⟨a, b, c, ⟨-, a2⟩, -⟩ := v4
          exact gF_lt a2
        refine ⟨v, ?_, v2, v3, v4.same (fun k2 hk2 => ?_) (fun k2 hk2 => ?_)⟩
        · rw [new el k (by omega) (by omega), old el k hel (by omega) (by omega)]; exact v1
        · rw [new _ k2 (by omega) (by omega), old _ k2 (by omega) (by omega) (by omega)]
        · rw [new _ k2 (by omega) (by omega), old _ k2 hv (by omega) (by omega)]
      · rw [g2.2.1, if_neg (by omega), g1.2.1, if_neg (by omega), t0.2.1, if_pos ⟨rfl, rfl⟩]
      · rw [new 238 0 (by omega) (by omega), E 238 (by omega), po.2.1, if_pos ⟨rfl, rfl⟩]
        rw [old q 3 hq (by omega) (by omega), d3] at f3
        rw [old q 4 hq (by omega) (by omega), d4] at f4
        rw [old q 6 hq (by omega) (by omega), d6] at f6
        cases f3
        cases f4
        cases f6
        rw [c10] at s1
        cases s1
        rw [bc_sz ra rb rab z1 z2]
    · exact absurd ok.1 n
    · exact absurd ok.2 n
  · rcases V2 with ⟨w', -⟩ | ⟨-, t1⟩ | ⟨w', -⟩
    · exact absurd w'.1 no
    · refine ⟨RR1.same hl (fun q k hq n1 n2 => ?_), ?_, fun z => (by cases z), Or.inr (Or.inl rfl)⟩
      · rw [t1.2.1, if_neg (fun z => n1 z.1), t0.2.1, if_neg (fun z => n1 z.1), E q (by omega), ex.fld hq]
      · rw [t1.2.1, if_pos ⟨rfl, rfl⟩]
    · exact absurd w' no
  · rcases V2 with ⟨w', -⟩ | ⟨n, -⟩ | ⟨-, -, t1⟩
    · exact absurd w'.2 no
    · exact absurd yes n
    · refine ⟨RR1.same hl (fun q k hq n1 n2 => ?_), ?_, fun z => (by cases z), Or.inr (Or.inr rfl)⟩
      · rw [t1.2.1, if_neg (fun z => n1 z.1), t0.2.1, if_neg (fun z => n1 z.1), E q (by omega), ex.fld hq]
      · rw [t1.2.1, if_pos ⟨rfl, rfl⟩]
