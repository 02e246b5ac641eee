/-! ===== the relation of all, on ===== -/
/-! judges and verdicts of the cases, the day in its bounds -/
def vdE (h : List zC) (P q : Nat) : Prop := ∃ j v : Int32, gF h P 7 = some (.int j) ∧ gF h q 7 = some (.int j) ∧ gF h P 8 = some (.int v) ∧ gF h q 8 = some (.int v) ∧ ((j = -1 ∧ v = -1) ∨ (0 ≤ j.toInt ∧ j.toInt ≤ 3 ∧ rT v))
def qVd (h : List zC) : Prop := ∃ (cc : Int32) (lc : Nat), gF h 16 3 = some (.int cc) ∧ gF h 224 2 = some (.int cc) ∧ gF h 224 1 = some (.ref lc) ∧ (lc = 4 ∨ 239 ≤ lc) ∧ 0 ≤ cc.toInt ∧ cc.toInt ≤ 24 ∧ (∀ k, k < cc.toNatClampNeg → ∃ q : Nat, gF h lc k = some (.ref q) ∧ 239 ≤ q ∧ ¬ q = lc ∧ vdE h (189 + k) q) ∧ (∀ (i j q : Nat), i < cc.toNatClampNeg → j < cc.toNatClampNeg → gF h lc i = some (.ref q) → gF h lc j = some (.ref q) → i = j) ∧ ∀ k, cc.toNatClampNeg ≤ k → k < 24 → gF h (189 + k) 7 = some (.int (-1)) ∧ gF h (189 + k) 8 = some (.int (-1))
theorem vdE.same {h h' : List zC} {P q : Nat} (r : vdE h P q) (e : ∀ j, j = 7 ∨ j = 8 → gF h' P j = gF h P j) (f : ∀ j, j = 7 ∨ j = 8 → gF h' q j = gF h q j) : vdE h' P q := by
  obtain ⟨j, v, r1, r2, r3, r4, r5⟩ := r
  exact ⟨j, v, (e 7 (Or.inl rfl)).trans r1, (f 7 (Or.inl rfl)).trans r2, (e 8 (Or.inr rfl)).trans r3, (f 8 (Or.inr rfl)).trans r4, r5⟩
theorem qVd.same {h h' : List zC} (hr : qVd h) (hl : 239 ≤ h.length) (e : ∀ x j, x < h.length → ((x = 16 ∧ j = 3) ∨ x = 224 ∨ x = 4 ∨ (189 ≤ x ∧ x < 213) ∨ 239 ≤ x) → gF h' x j = gF h x j) : qVd h' := by
  obtain ⟨cc, lc, r1, r2, r3, r4, r5, r6, r7, r8, r9⟩ := hr
  have ck : cc.toNatClampNeg = cc.toInt.toNat := rfl
  have row : ∀ k, k < cc.toNatClampNeg → gF h' lc k = gF h lc k := fun k hk => by
    obtain ⟨q, q1, -⟩ := r7 k hk
    exact e lc k (gF_lt q1) (by omega)
  refine ⟨cc, lc, (e 16 3 (by omega) (by omega)).trans r1, (e 224 2 (by omega) (by omega)).trans r2, (e 224 1 (by omega) (by omega)).trans r3, r4, r5, r6, fun k hk => ?_, fun i j q hi hj a b => r8 i j q hi hj ((row i hi).symm.trans a) ((row j hj).symm.trans b), fun k k1 k2 => ?_⟩
  · obtain ⟨q, q1, q2, q3, q4⟩ := r7 k hk
    have lq : q < h.length := by
      obtain ⟨j, v, -, w, -⟩ := q4
      exact gF_lt w
    exact ⟨q, (row k hk).trans q1, q2, q3, q4.same (fun j _ => e _ j (by omega) (by omega)) (fun j _ => e q j lq (by omega))⟩
  · rw [e _ 7 (by omega) (by omega), e _ 8 (by omega) (by omega)]
    exact r9 k k1 k2
def wVd (Wr : List (Nat × Nat)) : Bool := (!(wIn Wr 8 3) && !(wIn Wr 48 1)) && ((!(wIn Wr 48 2) && Wr.all (fun w => !(w.1 == 4) && !(w.1 == 49))) && ((!(wIn Wr 15 7) && !(wIn Wr 15 8)) && (!(wIn Wr 50 7) && !(wIn Wr 50 8))))
theorem qVd.fr {Wr : List (Nat × Nat)} {N : Int} {ρ : List Nat} {h h' : List zC} (hr : qVd h) (hl : 239 ≤ h.length) (ro : Ro ρ) (hH : tHeap wT N ρ h) (hF : gFr Wr ρ h h') (hw : wVd Wr = true) : qVd h' := by
  obtain ⟨w1, w⟩ := Bool.and_eq_true_iff.mp hw
  obtain ⟨w1, w2⟩ := Bool.and_eq_true_iff.mp w1
  obtain ⟨w3, w5⟩ := Bool.and_eq_true_iff.mp w
  obtain ⟨w3, w4⟩ := Bool.and_eq_true_iff.mp w3
  obtain ⟨w5, w7⟩ := Bool.and_eq_true_iff.mp w5
  obtain ⟨w5, w6⟩ := Bool.and_eq_true_iff.mp w5
  obtain ⟨w7, w8⟩ := Bool.and_eq_true_iff.mp w7
  have no : ∀ r k, r = 4 ∨ r = 49 → wIn Wr r k = false := fun r k hrk => by
    unfold wIn
    refine List.any_eq_false.mpr (fun w hm => ?_)
    have := List.all_eq_true.mp w4 w hm
    simp only [Bool.and_eq_true, Bool.not_eq_true', beq_eq_false_iff_ne] at this
    have : ¬ w.1 = r := by omega
    simp [this]
  obtain ⟨cc, lc, r1, r2, r3, r4, r5, r6, r7, r8, r9⟩ := hr
  obtain ⟨⟨l, l1, -⟩, -, -, -, -, s6, s7⟩ := cl_at hH ro r3 r2
  have ck : cc.toNatClampNeg = cc.toInt.toNat := rfl
  have r15 : ∀ k, k < 24 → rho0[189 + k]? = some 15 := by decide +kernel
  have row : ∀ k, gF h' lc k = gF h lc k := fun k => by
    rcases s6 with z | z
    · exact gFr_F hF z (no _ _ (Or.inl rfl)) (gN_lt l1)
    · exact gFr_F hF z (no _ _ (Or.inr rfl)) (gN_lt l1)
  have fc : ∀ k, k < 24 → ∀ j, j = 7 ∨ j = 8 → gF h' (189 + k) j = gF h (189 + k) j := fun k hk j hj => by
    refine gFr_F hF (ro _ _ (r15 k hk)) ?_ (by omega)
    rcases hj with rfl | rfl
    · simpa using w5
    · simpa using w6
  refine ⟨cc, lc, ?_, ?_, ?_, r4, r5, r6, fun k hk => ?_, fun i j q hi hj a b => r8 i j q hi hj ((row i).symm.trans a) ((row j).symm.trans b), fun k k1 k2 => ?_⟩
  · rw [gFr_F hF (ro 16 8 (by decide +kernel)) (by simpa using w1) (by omega)]
    exact r1
  · rw [gFr_F hF (ro 224 48 (by decide +kernel)) (by simpa using w3) (by omega)]
    exact r2
  · rw [gFr_F hF (ro 224 48 (by decide +kernel)) (by simpa using w2) (by omega)]
    exact r3
  · obtain ⟨q, q1, q2, q3, q4⟩ := r7 k hk
    obtain ⟨e, e1, e2⟩ := s7 k hk
    rw [q1] at e1
    cases e1
    have lq : q < h.length := by
      obtain ⟨j, v, -, w, -⟩ := q4
      exact gF_lt w
    refine ⟨q, (row k).trans q1, q2, q3, q4.same (fc k (by omega)) (fun j hj => gFr_F hF e2 ?_ lq)⟩
    rcases hj with rfl | rfl
    · simpa using w7
    · simpa using w8
  · rw [fc k k2 7 (Or.inl rfl), fc k k2 8 (Or.inr rfl)]
    exact r9 k k1 k2
/-- the day, in its bounds -/
def qDz (h : List zC) : Prop := ∃ d : Int32, gF h 16 0 = some (.int d) ∧ gF h 213 1 = some (.int d) ∧ 0 ≤ d.toInt ∧ d.toInt ≤ 3000
theorem qDz.fr {Wr : List (Nat × Nat)} {ρ : List Nat} {h h' : List zC} (hr : qDz h) (hl : 239 ≤ h.length) (ro : Ro ρ) (hF : gFr Wr ρ h h') (hw : wDy Wr = true) : qDz h' := by
  obtain ⟨d, d1, d2, d3⟩ := hr
  obtain ⟨w1, w2⟩ := Bool.and_eq_true_iff.mp hw
  exact ⟨d, by rw [gFr_F hF (ro 16 8 (by decide +kernel)) (by simpa using w1) (by omega)]; exact d1, by rw [gFr_F hF (ro 213 40 (by decide +kernel)) (by simpa using w2) (by omega)]; exact d2, d3⟩
theorem sumZ_pass {h1 h2 h3 h5 : List zC} {u2 u5 : Nat} {d x k r' : Int32} (d1 : gF h1 16 0 = some (.int d)) (d2 : gF h1 213 1 = some (.int d)) (d3 : 0 ≤ d.toInt ∧ d.toInt ≤ 3000) (hl : 239 ≤ h1.length) (hl2 : h1.length ≤ h2.length)
    (V1 : Q_Lpass d x h1 (.inl (some (.int k))) h2 u2) (E : ∀ p, p < h2.length → ∀ k, gF h3 p k = gF h2 p k) (V2 : Q_mpass d x h3 (.inl (some (.int r'))) h5 u5) : qDz h5 := by
  obtain ⟨k', e1, V1⟩ := V1
  cases e1
  obtain ⟨y, h4, e2, t0, V2⟩ := V2
  rcases V1 with ⟨rfl, ok, hm, p1, po⟩ | ⟨rfl, no, ex⟩ | ⟨rfl, yes, no, ex⟩
  · rcases V2 with ⟨-, -, g⟩ | ⟨n, -⟩ | ⟨-, n, -⟩
    · have b : 0 ≤ (d + x).toInt ∧ (d + x).toInt ≤ 3000 := by
        obtain ⟨⟨o1, o2⟩, o3⟩ := ok
        have z1 : (1 : Int32).toInt = 1 := rfl
        have z4 : (400 : Int32).toInt = 400 := rfl
        have z3 : (3000 : Int32).toInt = 3000 := rfl
        rw [i32_le, z3] at o3
        refine ⟨?_, o3⟩
        rw [Int32.toInt_add, Int.bmod_eq_of_le (by omega) (by omega)]
        omega
      refine ⟨d + x, ?_, by rw [g.2.1, if_pos ⟨rfl, rfl⟩], b⟩
      rw [g.2.1, if_neg (by omega), t0.2.1, if_neg (by omega), E 16 (by omega), po.2.1, if_neg (by omega), p1.2.1, if_pos ⟨rfl, rfl⟩]
    · exact absurd ok.1 n
    · exact absurd ok.2 n
  · rcases V2 with ⟨w', -⟩ | ⟨-, t1⟩ | ⟨w', -⟩
    · exact absurd w'.1 no
    · refine ⟨d, ?_, ?_, d3⟩
      · rw [t1.2.1, if_neg (by omega), t0.2.1, if_neg (by omega), E 16 (by omega), ex.fld (by omega)]; exact d1
      · rw [t1.2.1, if_neg (by omega), t0.2.1, if_neg (by omega), E 213 (by omega), ex.fld (by omega)]; exact d2
    · exact absurd w' no
  · rcases V2 with ⟨w', -⟩ | ⟨n, -⟩ | ⟨-, -, t1⟩
    · exact absurd w'.2 no
    · exact absurd yes n
    · refine ⟨d, ?_, ?_, d3⟩
      · rw [t1.2.1, if_neg (by omega), t0.2.1, if_neg (by omega), E 16 (by omega), ex.fld (by omega)]; exact d1
      · rw [t1.2.1, if_neg (by omega), t0.2.1, if_neg (by omega), E 213 (by omega), ex.fld (by omega)]; exact d2
/-- a dispute is told: its judge and verdict are none on both sides -/
theorem sumV_dispute {h1 h2 h3 h5 : List zC} {u2 u5 lc : Nat} {cc d p q r m f a g k r' : Int32} (r1 : gF h1 16 3 = some (.int cc)) (r3 : gF h1 224 1 = some (.ref lc)) (rv : qVd h1) (hl : 239 ≤ h1.length) (hl2 : h1.length ≤ h2.length) (hl3 : h2.length ≤ h3.length)
    (V1 : Q_Ldispute cc d p q r m f a g h1 (.inl (some (.int k))) h2 u2) (E : ∀ p, p < h2.length → ∀ k, gF h3 p k = gF h2 p k) (V2 : Q_mdispute lc cc d p q r m f a g h3 (.inl (some (.int r'))) h5 u5) : qVd h5 := by
  obtain ⟨k', e1, V1⟩ := V1
  cases e1
  obtain ⟨x, h4, e2, t0, V2⟩ := V2
  obtain ⟨cc', lc', s1, s2, s3, s4, s5, s6, s7, s8, s9⟩ := id rv
  rw [r1] at s1
  cases s1
  rw [r3] at s3
  cases s3
  rcases V1 with ⟨rfl, ok, hm, w, dm, po⟩ | ⟨-, no, ex⟩
  · rcases V2 with ⟨-, mm⟩ | ⟨no, -⟩
    · obtain ⟨⟨ip, -, -, -⟩, -, o24⟩ := ok
      obtain ⟨m1, m2, -, f7, f8, ml, mt⟩ := dm
      obtain ⟨y, lc2, q1, q2, q3, q4, q5, q6, q7, ⟨-, -, -, -, -, -, -, g7, g8⟩, n0, q8⟩ := mm
      obtain ⟨sn, si⟩ := n_succ24 s5 o24
      have ck : cc.toNatClampNeg = cc.toInt.toNat := rfl
      have hk24 : cc.toNatClampNeg < 24 := by omega
      have old : ∀ x k, x < h1.length → ¬ x = 189 + cc.toNatClampNeg → ¬ x = 16 → ¬ x = 238 → gF h3 x k = gF h1 x k := fun x k x1 x2 x3 x4 => by
        rw [E x (by omega), po.2.1, if_neg (fun z => x4 z.1), m1 x k x2 (fun z => x3 z.1)]
      have new : ∀ x k, x < h1.length → ¬ x = 224 → ¬ x = lc → ¬ x = 213 → gF h5 x k = gF h3 x k := fun x k x1 x2 x3 x4 => q8 x k (by omega) x2 x3 (fun z => x4 z.1)
      have cl : ∀ k2, gF h5 (189 + cc.toNatClampNeg) k2 = gF hm (189 + cc.toNatClampNeg) k2 := fun k2 => by
        rw [new _ k2 (by omega) (by omega) (by omega) (by omega), E _ (by omega), po.2.1, if_neg (by omega)]
      have row : ∀ k, k < cc.toNatClampNeg → gF h5 lc2 k = gF h1 lc k := fun k z => by
        obtain ⟨v, v1, -⟩ := s7 k z
        rw [q4 k z, old lc k (gF_lt v1) (by omega) (by omega) (by omega)]
      have lq : ∀ (k v : Nat), k < cc.toNatClampNeg → gF h1 lc k = some (.ref v) → v < h1.length ∧ 239 ≤ v ∧ ¬ v = lc := fun k v z e => by
        obtain ⟨v', v1, v2, v3, j, w, -, v4, -⟩ := s7 k z
        rw [e] at v1
        cases v1
        exact ⟨gF_lt v4, v2, v3⟩
      have zz := s9 _ (Nat.le_refl _) hk24
      refine ⟨cc + 1, lc2, ?_, q3, q2, ?_, by omega, by omega, fun k hk => ?_, fun i j v hi hj a b => ?_, fun k k1 k2 => ?_⟩
      · rw [new 16 3 (by omega) (by omega) (by omega) (by omega), E 16 (by omega), po.2.1, if_neg (by omega)]
        exact m2
      · rcases q6 with q6 | q6
        · rw [q6]; exact s4
        · exact Or.inr (by omega)
      · rw [sn] at hk
        rcases Nat.lt_or_ge k cc.toNatClampNeg with z | z
        · obtain ⟨v, v1, v2, v3, v4⟩ := s7 k z
          have hv := (lq k v z v1).1
          refine ⟨v, (row k z).trans v1, v2, ?_, v4.same (fun k2 _ => ?_) (fun k2 _ => ?_)⟩
          · rcases q6 with q6 | q6
            · rw [q6]; exact v3
            · omega
          · rw [new _ k2 (by omega) (by omega) (by omega) (by omega), old _ k2 (by omega) (by omega) (by omega) (by omega)]
          · rw [new v k2 hv (by omega) v3 (by omega), old v k2 hv (by omega) (by omega) (by omega)]
        · have zk : k = cc.toNatClampNeg := by omega
          subst zk
          exact ⟨y, q5, by omega, q7, -1, -1, by rw [cl, f7]; exact zz.1, g7, by rw [cl, f8]; exact zz.2, g8, Or.inl ⟨rfl, rfl⟩⟩
      · rw [sn] at hi hj
        by_cases zi : i = cc.toNatClampNeg
        · by_cases zj : j = cc.toNatClampNeg
          · omega
          · rw [zi, q5] at a
            cases a
            rw [row j (by omega)] at b
            have := (lq j _ (by omega) b).1
            omega
        · by_cases zj : j = cc.toNatClampNeg
          · rw [zj, q5] at b
            cases b
            rw [row i (by omega)] at a
            have := (lq i _ (by omega) a).1
            omega
          · exact s8 i j v (by omega) (by omega) ((row i (by omega)).symm.trans a) ((row j (by omega)).symm.trans b)
      · rw [sn] at k1
        rw [new _ 7 (by omega) (by omega) (by omega) (by omega), old _ 7 (by omega) (by omega) (by omega) (by omega), new _ 8 (by omega) (by omega) (by omega) (by omega), old _ 8 (by omega) (by omega) (by omega) (by omega)]
        exact s9 k (by omega) k2
    · exact absurd ok no
  · rcases V2 with ⟨ok, -⟩ | ⟨-, kk, -, t1⟩
    · exact absurd ok no
    · refine rv.same hl (fun q k hq n1 => ?_)
      rw [t1.2.1, if_neg (by omega), t0.2.1, if_neg (by omega), E q (by omega), ex.fld hq]

