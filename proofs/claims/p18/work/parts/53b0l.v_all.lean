/-! ===== the relation of all, on ===== -/
/-! cases told on both sides -/
theorem n1_k {k : Nat} (h : k < 2147483648) {b : Bool} : b = (b && !decide (Int32.ofNat k = -1)) := by
  have z1 : (-1 : Int32).toInt = -1 := rfl
  rw [decide_eq_false (fun y : Int32.ofNat k = -1 => by
    have w := congrArg Int32.toInt y
    rw [(toNat_ofNat (m := k) h).2, z1] at w
    omega)]
  cases b <;> rfl
theorem ny_k {k : Nat} {y : Int32} (h : k < 2147483648) (y0 : 0 ≤ y.toInt) {b : Bool} : (b && !decide (k = y.toNatClampNeg)) = (b && !decide (Int32.ofNat k = y)) := by
  have e : (k = y.toNatClampNeg) ↔ (Int32.ofNat k = y) := by
    constructor
    · intro z
      rw [z]
      exact (ofn_nat y0).symm
    · intro z
      rw [← z, (toNat_ofNat (m := k) h).1]
  rw [decide_eq_decide.mpr e]
def pkC (h : List zC) (cc : Int32) (lc : Nat) : Prop := gF h 16 3 = some (.int cc) ∧ gF h 224 2 = some (.int cc) ∧ gF h 224 1 = some (.ref lc) ∧ (lc = 4 ∨ 239 ≤ lc) ∧ 0 ≤ cc.toInt ∧ cc.toInt ≤ 24 ∧ ∀ k, k < cc.toNatClampNeg → ∃ q : Nat, gF h lc k = some (.ref q) ∧ 239 ≤ q ∧ ¬ q = lc ∧ qCE h (189 + k) q
theorem cas_mat {N : Int} {ρ : List Nat} {h : List zC} {i : Nat} (hH : tHeap wT N ρ h) (ro : Ro ρ) (hi : i < 24) : (iv h (189 + i) 3).toNatClampNeg < 4 := by
  have r15 : ∀ k, k < 24 → rho0[189 + k]? = some 15 := by decide +kernel
  obtain ⟨c, hc, -, -, k3, -, hf⟩ := kind_at hH (ro _ _ (r15 i hi)) (R := _) rfl
  have hlen : c.2.length = 9 := k3 9 rfl
  have e : gF h (189 + i) 3 = some (c.2[3]'(by omega)) := by
    rw [gF_of hc, List.getElem?_eq_getElem]
  obtain ⟨y, y1, y2, y3⟩ := hf 3 _ e
  have y2 : (0 : Int) ≤ y.toInt := y2
  have y3 : y.toInt ≤ (3 : Int) := y3
  rw [y1] at e
  rw [iv_of e]
  show y.toInt.toNat < 4
  omega
theorem cas_x {h m : List zC} {cc : Int32} {lc k q : Nat} (c : pkC h cc lc) (o : rfO h m) (hk : k < cc.toNatClampNeg) (hq : gF m lc k = some (.ref q)) : ∀ j, j < 7 → iv h (189 + k) j = iv m q j := fun j hj => by
  obtain ⟨c1, c2, c3, c4, c5, c6, c7⟩ := c
  obtain ⟨q', q1, q2, q3, q4⟩ := c7 k hk
  rw [o lc k (gF_lt q1) (by omega), q1] at hq
  cases hq
  obtain ⟨z, z1, z2⟩ := q4 j hj
  rw [iv_of z1, iv_of ((o _ j q4.lt.2 (by omega)).trans z2)]
theorem vd_x {h m : List zC} {cc : Int32} {lc k q : Nat} (v : qVd h) (c1 : gF h 16 3 = some (.int cc)) (c3 : gF h 224 1 = some (.ref lc)) (o : rfO h m) (hk : k < cc.toNatClampNeg) (hq : gF m lc k = some (.ref q)) : q < h.length ∧ 239 ≤ q ∧ gF h lc k = some (.ref q) ∧ iv h (189 + k) 7 = iv m q 7 ∧ iv h (189 + k) 8 = iv m q 8 ∧ vdE h (189 + k) q := by
  obtain ⟨cc', lc', v1, v2, v3, v4, v5, v6, v7, v8, v9⟩ := v
  rw [c1] at v1
  cases v1
  rw [c3] at v3
  cases v3
  obtain ⟨q', q1, q2, q3, j, w, w1, w2, w3, w4, w5⟩ := v7 k hk
  rw [o lc k (gF_lt q1) (by omega), q1] at hq
  cases hq
  have lq := gF_lt w2
  exact ⟨lq, q2, q1, by rw [iv_of w1, iv_of ((o _ 7 lq (by omega)).trans w2)], by rw [iv_of w3, iv_of ((o _ 8 lq (by omega)).trans w4)], j, w, w1, w2, w3, w4, w5⟩
theorem rfO_ask {h1 h2 h3 m0 : List zC} {v w : Value} (po : hPut h1 h2 238 0 v) (E : ∀ p, p < h2.length → ∀ k, gF h3 p k = gF h2 p k) (t0 : hPut h3 m0 213 0 w) : rfO h1 m0 := fun x j hx c => by
  rw [t0.2.1, if_neg (by omega), E x (by rw [po.1]; exact hx), po.2.1, if_neg (by omega)]
/-- what the reference's contracts want to know -/
theorem pk_ref {h m : List zC} {cnt cr cc : Int32} {el rl lc : Nat} {Fk : Nat → Nat → Int32} (p : pkF h cnt el Fk) (r : pkR h cr rl) (c : pkC h cc lc) (v : qVd h) (w : qSm 25 237 3 h) (hl : 239 ≤ h.length) (o : rfO h m) : (¬ el = 213 ∧ ¬ rl = 213) ∧ (∀ k, k < cnt.toNatClampNeg → ¬ gF m el k = some (.ref 213)) ∧ (∀ k, k < cr.toNatClampNeg → ¬ gF m rl k = some (.ref 213)) ∧ (gF m 224 2 = some (.int cc) ∧ gF m 224 1 = some (.ref lc) ∧ ¬ lc = 213) ∧ (∀ k, k < cc.toNatClampNeg → ∃ q : Nat, gF m lc k = some (.ref q) ∧ ¬ q = 213 ∧ CI m q) ∧ (∀ i, i < 4 → ∃ w : Int32, gF m 237 i = some (.int w)) ∧ ∀ k q, k < cc.toNatClampNeg → gF m lc k = some (.ref q) → ∃ z : Int32, gF m q 7 = some (.int z) := by
  obtain ⟨p1, p2, p3, p4, p5, p6, ps, pa⟩ := p
  obtain ⟨q1, q2, q3, q4, q5, q6, q7⟩ := r
  obtain ⟨c1, c2, c3, c4, c5, c6, c7⟩ := c
  refine ⟨⟨by omega, by omega⟩, fun k hk z => ?_, fun k hk z => ?_, ⟨(o 224 2 (by omega) (by omega)).trans c2, (o 224 1 (by omega) (by omega)).trans c3, by omega⟩, fun k hk => ?_, fun i hi => ?_, fun k q hk hq => ?_⟩
  · obtain ⟨C, LS, LN, A, AS, AN, st, fr, en, -, -, a1, a2, a3, -⟩ := pa k hk
    rw [o el k (gF_lt a1) (by omega), a1] at z
    have g := a3.2.2.2.2.2.2.1
    cases z
    omega
  · obtain ⟨q, w1, w2, -⟩ := q7.1 k hk
    rw [o rl k (gF_lt w1) (by omega), w1] at z
    cases z
    omega
  · obtain ⟨q, w1, w2, w3, w4⟩ := c7 k hk
    exact ⟨q, (o lc k (gF_lt w1) (by omega)).trans w1, by omega, fun j hj => by
      obtain ⟨z, -, z2⟩ := w4 j hj
      exact ⟨z, (o q j w4.lt.2 (by omega)).trans z2⟩⟩
  · obtain ⟨x, -, x2, -⟩ := w i hi
    exact ⟨x, (o 237 i (by omega) (by omega)).trans x2⟩
  · obtain ⟨lq, q2, hq1, -, -, j, w, -, w2, -⟩ := vd_x v c1 c3 o hk hq
    exact ⟨j, (o q 7 lq (by omega)).trans w2⟩
/-- what is told stands in its bounds -/
theorem kT_r {h : List zC} {cnt cr : Int32} {ex : Nat → Nat → Bool} {gen : Nat → Bool} {D : Nat} {d : Int32} (kc : kC h cnt cr ex gen) : rT (kT h cnt cr ex gen D d) := by
  obtain ⟨hS, hc, h0, h24, hCl, hE, hO, hO2, hr, r0, r40, hG, hK, hT⟩ := kc
  show rT (alT _ _ _)
  unfold alT
  rcases foldT_r (S := fun k => (foC h d k && apC h D k) && gen k) (f := fun k => tlT cnt.toNatClampNeg ex (fun k => foC h d k && apC h D k) (foC h d) (clO h) (tieC h cr D d) 25 k (fun _ => false)) (n := cnt.toNatClampNeg) (fun k hk _ => tlT_r hO2 (fun j hj a b => (hO j hj a b).1) (tie_r hT) 25 k _ hk) _ (Nat.le_refl _) with ⟨e, -⟩ | ⟨e, -⟩
  · rw [if_pos e]
    decide
  · rw [if_neg (rT_9 e).1]
    exact e
theorem half_r {a b : Int32} (ha : 0 ≤ a.toInt ∧ a.toInt ≤ 100) (hb : 0 ≤ b.toInt ∧ b.toInt ≤ 100) : rT ((a + b) / 2) := by
  have e : (a + b).toInt = a.toInt + b.toInt := by
    rw [Int32.toInt_add]
    exact Int.bmod_eq_of_le (by omega) (by omega)
  have z2 : (2 : Int32).toInt = 2 := rfl
  have d : ((a + b) / 2).toInt = (a.toInt + b.toInt) / 2 := by
    rw [Int32.toInt_div, e, z2, Int.tdiv_eq_ediv_of_nonneg (by omega)]
    exact Int.bmod_eq_of_le (by omega) (by omega)
  show -3 ≤ _ ∧ _ ≤ 100
  rw [d]
  omega
theorem str_r {x : Int32} (h : rT x) : rT (strT x) := by
  have h1 : -3 ≤ x.toInt ∧ x.toInt ≤ 100 := h
  have z0 : (0 : Int32).toInt = 0 := rfl
  have z10 : (10 : Int32).toInt = 10 := rfl
  have z100 : (100 : Int32).toInt = 100 := rfl
  unfold strT
  split
  · rename_i a
    rw [i32_lt, z50] at a
    have e : (x + 10).toInt = x.toInt + 10 := by
      rw [Int32.toInt_add, z10]
      exact Int.bmod_eq_of_le (by omega) (by omega)
    unfold mnI
    split
    · show -3 ≤ (100 : Int32).toInt ∧ (100 : Int32).toInt ≤ 100
      decide
    · rename_i b
      rw [i32_lt, e, z100] at b
      show -3 ≤ (x + 10).toInt ∧ (x + 10).toInt ≤ 100
      omega
  · split
    · rename_i a
      obtain ⟨a1, a2⟩ := a
      rw [i32_le, z0] at a1
      rw [i32_lt, z50] at a2
      have e : (x - 10).toInt = x.toInt - 10 := by
        rw [Int32.toInt_sub, z10]
        exact Int.bmod_eq_of_le (by omega) (by omega)
      unfold mxI
      split
      · show -3 ≤ (0 : Int32).toInt ∧ (0 : Int32).toInt ≤ 100
        decide
      · rename_i b
        rw [i32_lt, e, z0] at b
        show -3 ≤ (x - 10).toInt ∧ (x - 10).toInt ≤ 100
        omega
    · exact h
theorem jd_r {w t c : Int32} (ht : rT t) (hc : rT c) : rT (jdT w t c) := by
  have z0 : (0 : Int32).toInt = 0 := rfl
  have t1 : -3 ≤ t.toInt ∧ t.toInt ≤ 100 := ht
  have c1 : -3 ≤ c.toInt ∧ c.toInt ≤ 100 := hc
  unfold jdT
  split
  · exact str_r ht
  · split
    · split
      · exact ht
      · split
        · exact hc
        · split
          · exact ht
          · rename_i a _ b
            rw [i32_lt, z0] at a b
            exact half_r ⟨by omega, t1.2⟩ ⟨by omega, c1.2⟩
    · exact ht
section tolds
variable {N : Int} {ρ : List Nat} {h1 h2 h3 h5 : List zC} {u2 u5 el rl lc : Nat} {cnt cr cc rv k r' : Int32} {Fk : Nat → Nat → Int32}
theorem sum_tells {x y : Int32} (hl : 239 ≤ h1.length) (hH : tHeap wT N ρ h1) (ro : Ro ρ) (p : pkF h1 cnt el Fk) (r : pkR h1 cr rl) (t : qSm 30 222 2 h1) (c : pkC h1 cc lc) 
    (V1 : Q_Ltells (exK h1) (geK h1 cnt) cnt cr cc x y h1 (.inl (some (.int k))) h2 u2) (E : ∀ p, p < h2.length → ∀ k, gF h3 p k = gF h2 p k) (V2 : Q_mtells el rl lc Fk cnt cr cc x y h3 (.inl (some (.int r'))) h5 u5) :
    gF h5 213 0 = some (.int k) ∧ (k = 0 → gF h5 238 0 = some (.long r'.toInt64)) ∧ (k = 0 ∨ k = 1 ∨ k = 2) := by
  obtain ⟨k', z1, V1⟩ := V1
  cases z1
  obtain ⟨y2, m0, z2, t0, V2⟩ := V2
  cases z2
  rcases V1 with ⟨rfl, ok, po⟩ | ⟨rfl, no, ex⟩
  · rcases V2 with ⟨-, e5, q, hq, er⟩ | ⟨n, -⟩
    · have o := rfO_ask po E t0
      have xc := iN_cl c.2.2.2.2.1 ok.1
      have yc := iN_cl p.2.2.2.2.1 ok.2
      have c24 := c.2.2.2.2.2.1
      have p24 := p.2.2.2.2.2.1
      have ck : cc.toNatClampNeg = cc.toInt.toNat := rfl
      have pk : cnt.toNatClampNeg = cnt.toInt.toNat := rfl
      have e := cas_x c o xc hq
      have m4 := cas_mat hH ro (i := x.toNatClampNeg) (by omega)
      have key := pk_tl (cu := tieC h1 cr (189 + x.toNatClampNeg) (iv h1 (189 + x.toNatClampNeg) 6)) (d := iv h1 (189 + x.toNatClampNeg) 6) (wo := -1) (P := foC h1 (iv h1 (189 + x.toNatClampNeg) 6)) p o (fun j hj => e j (by omega)) (fun i hi => n1_k (by omega)) 25 y.toNatClampNeg (fun _ => false) yc
      rw [e5]
      refine ⟨by rw [t0.2.1, if_pos ⟨rfl, rfl⟩], fun _ => ?_, Or.inl rfl⟩
      rw [t0.2.1, if_neg (by omega), E 238 (by rw [po.1]; omega), po.2.1, if_pos ⟨rfl, rfl⟩, er, key, pk_tie r t hl o (fun j hj => e j (by omega)) (e 6 (by omega)).symm m4, e 6 (by omega)]
    · exact absurd ok n
  · rcases V2 with ⟨w, -⟩ | ⟨-, g3⟩
    · exact absurd w no
    · exact ⟨by rw [g3.2.1, if_pos ⟨rfl, rfl⟩], fun z => absurd z (by decide), Or.inr (Or.inl rfl)⟩
theorem sum_without {x y : Int32} (hl : 239 ≤ h1.length) (hH : tHeap wT N ρ h1) (ro : Ro ρ) (p : pkF h1 cnt el Fk) (r : pkR h1 cr rl) (t : qSm 30 222 2 h1) (c : pkC h1 cc lc) 
    (V1 : Q_Lwithout (exK h1) (geK h1 cnt) cnt cr cc x y h1 (.inl (some (.int k))) h2 u2) (E : ∀ p, p < h2.length → ∀ k, gF h3 p k = gF h2 p k) (V2 : Q_mwithout el rl lc Fk cnt cr cc x y h3 (.inl (some (.int r'))) h5 u5) :
    gF h5 213 0 = some (.int k) ∧ (k = 0 → gF h5 238 0 = some (.long r'.toInt64)) ∧ (k = 0 ∨ k = 1 ∨ k = 2) := by
  obtain ⟨k', z1, V1⟩ := V1
  cases z1
  obtain ⟨y2, m0, z2, t0, V2⟩ := V2
  cases z2
  rcases V1 with ⟨rfl, ok, po⟩ | ⟨rfl, no, ex⟩
  · rcases V2 with ⟨-, e5, q, hq, er⟩ | ⟨n, -⟩
    · have o := rfO_ask po E t0
      have xc := iN_cl c.2.2.2.2.1 ok.1
      have c24 := c.2.2.2.2.2.1
      have p24 := p.2.2.2.2.2.1
      have ck : cc.toNatClampNeg = cc.toInt.toNat := rfl
      have pk : cnt.toNatClampNeg = cnt.toInt.toNat := rfl
      have e := cas_x c o xc hq
      have m4 := cas_mat hH ro (i := x.toNatClampNeg) (by omega)
      have key := pk_cd (cu := tieC h1 cr (189 + x.toNatClampNeg) (iv h1 (189 + x.toNatClampNeg) 6)) (d := iv h1 (189 + x.toNatClampNeg) 6) (wo := y) (P := fun k => foC h1 (iv h1 (189 + x.toNatClampNeg) 6) k && !decide (k = y.toNatClampNeg)) p o (fun j hj => e j (by omega)) (fun i hi => ny_k (by omega) ok.2.1)
      rw [e5]
      refine ⟨by rw [t0.2.1, if_pos ⟨rfl, rfl⟩], fun _ => ?_, Or.inl rfl⟩
      rw [t0.2.1, if_neg (by omega), E 238 (by rw [po.1]; omega), po.2.1, if_pos ⟨rfl, rfl⟩, er, key, pk_tie r t hl o (fun j hj => e j (by omega)) (e 6 (by omega)).symm m4, e 6 (by omega)]
    · exact absurd ok n
  · rcases V2 with ⟨w, -⟩ | ⟨-, g3⟩
    · exact absurd w no
    · exact ⟨by rw [g3.2.1, if_pos ⟨rfl, rfl⟩], fun z => absurd z (by decide), Or.inr (Or.inl rfl)⟩
theorem sum_wJ {x y : Int32} (hl : 239 ≤ h1.length) (hH : tHeap wT N ρ h1) (ro : Ro ρ) (p : pkF h1 cnt el Fk) (r : pkR h1 cr rl) (t : qSm 30 222 2 h1) (c : pkC h1 cc lc) (wy : qSm 25 237 3 h1)
    (V1 : Q_LwJ (exK h1) (geK h1 cnt) cnt cr cc x y h1 (.inl (some (.int k))) h2 u2) (E : ∀ p, p < h2.length → ∀ k, gF h3 p k = gF h2 p k) (V2 : Q_mwJ el rl lc Fk cnt cr cc x y h3 (.inl (some (.int r'))) h5 u5) :
    gF h5 213 0 = some (.int k) ∧ (k = 0 → gF h5 238 0 = some (.long r'.toInt64)) ∧ (k = 0 ∨ k = 1 ∨ k = 2) := by
  obtain ⟨k', z1, V1⟩ := V1
  cases z1
  obtain ⟨y2, m0, z2, t0, V2⟩ := V2
  cases z2
  rcases V1 with ⟨rfl, ok, po⟩ | ⟨rfl, no, ex⟩
  · rcases V2 with ⟨-, e5, q, hq, er⟩ | ⟨n, -⟩
    · have o := rfO_ask po E t0
      have xc := iN_cl c.2.2.2.2.1 ok.1
      have c24 := c.2.2.2.2.2.1
      have ck : cc.toNatClampNeg = cc.toInt.toNat := rfl
      have e := cas_x c o xc hq
      have m4 := cas_mat hH ro (i := x.toNatClampNeg) (by omega)
      obtain ⟨w, w1, w2, -⟩ := wy _ (n4c ok.2)
      have key := pk_kT (d := iv h1 (189 + x.toNatClampNeg) 6) p r t hl o (fun j hj => e j (by omega)) (e 6 (by omega)).symm m4
      rw [e5]
      refine ⟨by rw [t0.2.1, if_pos ⟨rfl, rfl⟩], fun _ => ?_, Or.inl rfl⟩
      rw [t0.2.1, if_neg (by omega), E 238 (by rw [po.1]; omega), po.2.1, if_pos ⟨rfl, rfl⟩, er, key, pk_tie r t hl o (fun j hj => e j (by omega)) (e 6 (by omega)).symm m4, iv_of w1, iv_of ((o 237 _ (by omega) (by omega)).trans w2), e 6 (by omega)]
    · exact absurd ok n
  · rcases V2 with ⟨w, -⟩ | ⟨-, g3⟩
    · exact absurd w no
    · exact ⟨by rw [g3.2.1, if_pos ⟨rfl, rfl⟩], fun z => absurd z (by decide), Or.inr (Or.inl rfl)⟩
theorem rf_tells {ex : Nat → Nat → Bool} {gen : Nat → Bool} {x y : Int32} (V1 : Q_Ltells ex gen cnt cr cc x y h1 (.inl (some (.int k))) h2 u2) : ∀ q j, q < h1.length → (q = 4 ∨ (222 ≤ q ∧ q < 238) ∨ 239 ≤ q) → gF h2 q j = gF h1 q j := fun q j hq z => by
  obtain ⟨k', z1, ⟨-, -, po⟩ | ⟨-, -, ex⟩⟩ := V1
  · rw [po.2.1, if_neg (by omega)]
  · exact ex.fld hq j
theorem rf_without {ex : Nat → Nat → Bool} {gen : Nat → Bool} {x y : Int32} (V1 : Q_Lwithout ex gen cnt cr cc x y h1 (.inl (some (.int k))) h2 u2) : ∀ q j, q < h1.length → (q = 4 ∨ (222 ≤ q ∧ q < 238) ∨ 239 ≤ q) → gF h2 q j = gF h1 q j := fun q j hq z => by
  obtain ⟨k', z1, ⟨-, -, po⟩ | ⟨-, -, ex⟩⟩ := V1
  · rw [po.2.1, if_neg (by omega)]
  · exact ex.fld hq j
theorem rf_wJ {ex : Nat → Nat → Bool} {gen : Nat → Bool} {x y : Int32} (V1 : Q_LwJ ex gen cnt cr cc x y h1 (.inl (some (.int k))) h2 u2) : ∀ q j, q < h1.length → (q = 4 ∨ (222 ≤ q ∧ q < 238) ∨ 239 ≤ q) → gF h2 q j = gF h1 q j := fun q j hq z => by
  obtain ⟨k', z1, ⟨-, -, po⟩ | ⟨-, -, ex⟩⟩ := V1
  · rw [po.2.1, if_neg (by omega)]
  · exact ex.fld hq j
theorem rf_judge {ex : Nat → Nat → Bool} {gen : Nat → Bool} {x y : Int32} (c24 : cc.toInt ≤ 24) (V1 : Q_Ljudge ex gen cnt cr cc x y h1 (.inl (some (.int k))) h2 u2) : ∀ q j, q < h1.length → (q = 4 ∨ (222 ≤ q ∧ q < 238) ∨ 239 ≤ q) → gF h2 q j = gF h1 q j := fun q j hq z => by
  obtain ⟨k', z1, V1⟩ := V1
  rcases V1 with ⟨-, ok, g1, g2, p1, p2, po⟩ | ⟨-, -, ex⟩ | ⟨-, -, -, ex⟩
  · have n24 := n24c ok.1.1 c24
    rw [po.2.1, if_neg (by omega), p2.2.1, if_neg (by omega), p1.2.1, if_neg (by omega)]
  · exact ex.fld hq j
  · exact ex.fld hq j
theorem rf_appeal {ex : Nat → Nat → Bool} {gen : Nat → Bool} {x : Int32} (c24 : cc.toInt ≤ 24) (V1 : Q_Lappeal ex gen cnt cr cc rv x h1 (.inl (some (.int k))) h2 u2) : ∀ q j, q < h1.length → (q = 4 ∨ (222 ≤ q ∧ q < 238) ∨ 239 ≤ q) → gF h2 q j = gF h1 q j := fun q j hq z => by
  obtain ⟨k', z1, V1⟩ := V1
  rcases V1 with ⟨-, ok, g3, ⟨-, e3⟩ | ⟨-, g1, p1, p2⟩, po⟩ | ⟨-, -, ex⟩ | ⟨-, -, -, ex⟩
  · rw [po.2.1, if_neg (by omega), e3]
  · have n24 := n24c ok.1 c24
    rw [po.2.1, if_neg (by omega), p2.2.1, if_neg (by omega), p1.2.1, if_neg (by omega)]
  · exact ex.fld hq j
  · exact ex.fld hq j
theorem sumV_judge {x y : Int32} (hl : 239 ≤ h1.length) (hH : tHeap wT N ρ h1) (ro : Ro ρ) (hS : Stc h1) (p : pkF h1 cnt el Fk) (r : pkR h1 cr rl) (t : qSm 30 222 2 h1) (c : pkC h1 cc lc) (wy : qSm 25 237 3 h1) (vd : qVd h1) (hl2 : h1.length ≤ h2.length)
    (V1 : Q_Ljudge (exK h1) (geK h1 cnt) cnt cr cc x y h1 (.inl (some (.int k))) h2 u2) (E : ∀ p, p < h2.length → ∀ k, gF h3 p k = gF h2 p k) (V2 : Q_mjudge el rl lc Fk cnt cr cc x y h3 (.inl (some (.int r'))) h5 u5) :
    qVd h5 ∧ gF h5 213 0 = some (.int k) ∧ (k = 0 → gF h5 238 0 = some (.long r'.toInt64)) ∧ (k = 0 ∨ k = 1 ∨ k = 2) := by
  have rf := rf_judge c.2.2.2.2.2.1 V1
  obtain ⟨k', z1, V1⟩ := V1
  cases z1
  obtain ⟨y2, m0, z2, t0, V2⟩ := V2
  cases z2
  have o : rfO h1 m0 := fun q j hq z => by rw [t0.2.1, if_neg (by omega), E q (by omega), rf q j hq z]
  have c24 := c.2.2.2.2.2.1
  have ck : cc.toNatClampNeg = cc.toInt.toNat := rfl
  have no : ∀ (v : Int32), hExt h1 h2 → hPut m0 h5 213 0 (.int v) → qVd h5 := fun v ex g => vd.same hl (fun q j hq n => by
    rw [g.2.1, if_neg (by omega), t0.2.1, if_neg (by omega), E q (by omega), ex.fld hq])
  rcases V1 with ⟨rfl, ok, g1, g2, p1, p2, po⟩ | ⟨rfl, n, ex⟩ | ⟨rfl, ok, n, ex⟩
  · have xc := iN_cl c.2.2.2.2.1 ok.1.1
    rcases V2 with ⟨-, q, hq, ⟨-, er, w1, s1, s2⟩ | ⟨n, -⟩⟩ | ⟨n, -⟩
    · have e := cas_x c o xc hq
      have m4 := cas_mat hH ro (i := x.toNatClampNeg) (by omega)
      obtain ⟨lq, q239, hq1, e7, e8, -⟩ := vd_x vd c.1 c.2.2.1 o xc hq
      obtain ⟨w, wy1, wy2, -⟩ := wy _ (n4c ok.1.2)
      have kc := pk_kC p r hS
      have key := pk_kT (d := iv h1 (189 + x.toNatClampNeg) 6) p r t hl o (fun j hj => e j (by omega)) (e 6 (by omega)).symm m4
      have jr := jd_r (w := iv h1 25 y.toNatClampNeg) (kT_r (D := 189 + x.toNatClampNeg) (d := iv h1 (189 + x.toNatClampNeg) 6) kc) (tie_r (q := 189 + x.toNatClampNeg) (d := iv h1 (189 + x.toNatClampNeg) 6) kc.2.2.2.2.2.2.2.2.2.2.2.2.2)
      have ej : jdT (iv h1 25 y.toNatClampNeg) (kT h1 cnt cr (exK h1) (geK h1 cnt) (189 + x.toNatClampNeg) (iv h1 (189 + x.toNatClampNeg) 6)) (tieC h1 cr (189 + x.toNatClampNeg) (iv h1 (189 + x.toNatClampNeg) 6)) = jdT (iv m0 237 y.toNatClampNeg) (mT m0 el cnt Fk cr rl q (iv m0 q 6) (-1)) (tieM m0 rl cr q) := by
        rw [key, pk_tie r t hl o (fun j hj => e j (by omega)) (e 6 (by omega)).symm m4, iv_of wy1, iv_of ((o 237 _ (by omega) (by omega)).trans wy2), e 6 (by omega)]
      rw [← ej] at er s1
      have lc4 := c.2.2.2.1
      have old : ∀ v j, v < h1.length → ¬ (v = 189 + x.toNatClampNeg ∧ (j = 7 ∨ j = 8)) → ¬ v = 213 → ¬ v = 238 → ¬ (v = q ∧ (j = 7 ∨ j = 8)) → gF h5 v j = gF h1 v j := fun v j hv n1 n2 n3 n4 => by
        rw [s2.2.1, if_neg (by omega), s1.2.1, if_neg (by omega), t0.2.1, if_neg (by omega), E v (by omega), po.2.1, if_neg (by omega), p2.2.1, if_neg (by omega), p1.2.1, if_neg (by omega)]
      refine ⟨?_, ?_, fun _ => ?_, Or.inl rfl⟩
      · obtain ⟨cc', lc', v1, v2, v3, v4, v5, v6, v7, v8, v9⟩ := vd
        rw [c.1] at v1
        cases v1
        rw [c.2.2.1] at v3
        cases v3
        have row : ∀ i, i < cc.toNatClampNeg → gF h5 lc i = gF h1 lc i := fun i hi => by
          obtain ⟨q', a1, a2, a3, -⟩ := v7 i hi
          refine old lc i (gF_lt a1) (by omega) (by omega) (by omega) (fun z => ?_)
          obtain ⟨qx, b1, -, b3, -⟩ := v7 _ xc
          rw [hq1] at b1
          cases b1
          exact b3 z.1.symm
        refine ⟨cc, lc, (old 16 3 (by omega) (by omega) (by omega) (by omega) (by omega)).trans c.1, (old 224 2 (by omega) (by omega) (by omega) (by omega) (by omega)).trans v2, (old 224 1 (by omega) (by omega) (by omega) (by omega) (by omega)).trans c.2.2.1, v4, v5, v6, fun i hi => ?_, fun i j v hi hj a b => v8 i j v hi hj ((row i hi).symm.trans a) ((row j hj).symm.trans b), fun i i1 i2 => ?_⟩
        · obtain ⟨q', a1, a2, a3, a4⟩ := v7 i hi
          by_cases z : i = x.toNatClampNeg
          · subst z
            rw [hq1] at a1
            cases a1
            refine ⟨q, (row _ hi).trans hq1, a2, a3, y, jdT (iv h1 25 y.toNatClampNeg) (kT h1 cnt cr (exK h1) (geK h1 cnt) (189 + x.toNatClampNeg) (iv h1 (189 + x.toNatClampNeg) 6)) (tieC h1 cr (189 + x.toNatClampNeg) (iv h1 (189 + x.toNatClampNeg) 6)), ?_, by rw [s2.2.1, if_pos ⟨rfl, rfl⟩], ?_, by rw [s2.2.1, if_neg (by omega), s1.2.1, if_pos ⟨rfl, rfl⟩], Or.inr ⟨ok.1.2.1, by have := ok.1.2.2; omega, jr⟩⟩
            · rw [s2.2.1, if_neg (by omega), s1.2.1, if_neg (by omega), t0.2.1, if_neg (by omega), E _ (by omega), po.2.1, if_neg (by omega), p2.2.1, if_pos ⟨rfl, rfl⟩]
            · rw [s2.2.1, if_neg (by omega), s1.2.1, if_neg (by omega), t0.2.1, if_neg (by omega), E _ (by omega), po.2.1, if_neg (by omega), p2.2.1, if_neg (by omega), p1.2.1, if_pos ⟨rfl, rfl⟩]
          · have nq : ¬ q' = q := fun w => z (v8 i _ q' hi xc a1 (by rw [hq1, w]))
            have lq' : q' < h1.length := by
              obtain ⟨jj, ww, -, w, -⟩ := a4
              exact gF_lt w
            exact ⟨q', (row i hi).trans a1, a2, a3, a4.same (fun j hj => old _ j (by omega) (by omega) (by omega) (by omega) (by omega)) (fun j hj => old q' j lq' (by omega) (by omega) (by omega) (by omega))⟩
        · rw [old _ 7 (by omega) (by omega) (by omega) (by omega) (by omega), old _ 8 (by omega) (by omega) (by omega) (by omega) (by omega)]
          exact v9 i i1 i2
      · rw [s2.2.1, if_neg (by omega), s1.2.1, if_neg (by omega), t0.2.1, if_pos ⟨rfl, rfl⟩]
      · rw [s2.2.1, if_neg (by omega), s1.2.1, if_neg (by omega), t0.2.1, if_neg (by omega), E 238 (by omega), po.2.1, if_pos ⟨rfl, rfl⟩, er]
    · obtain ⟨lq, q239, hq1, e7, e8, -⟩ := vd_x vd c.1 c.2.2.1 o xc hq
      exact absurd (e7.symm.trans ok.2) n
    · exact absurd ok.1 n
  · rcases V2 with ⟨w, -⟩ | ⟨-, g3⟩
    · exact absurd w n
    · exact ⟨no _ ex g3, by rw [g3.2.1, if_pos ⟨rfl, rfl⟩], fun z => absurd z (by decide), Or.inr (Or.inl rfl)⟩
  · have xc := iN_cl c.2.2.2.2.1 ok.1
    rcases V2 with ⟨-, q, hq, ⟨n2, -⟩ | ⟨-, g3⟩⟩ | ⟨n2, -⟩
    · obtain ⟨lq, q239, hq1, e7, e8, -⟩ := vd_x vd c.1 c.2.2.1 o xc hq
      exact absurd (e7.trans n2) n
    · exact ⟨no _ ex g3, by rw [g3.2.1, if_pos ⟨rfl, rfl⟩], fun z => absurd z (by decide), Or.inr (Or.inr rfl)⟩
    · exact absurd ok n2
def qRv (h : List zC) : Prop := ∃ rv : Int32, gF h 16 2 = some (.int rv) ∧ gF h 213 2 = some (.int rv)
theorem sumV_appeal {x : Int32} (hl : 239 ≤ h1.length) (hH : tHeap wT N ρ h1) (ro : Ro ρ) (hS : Stc h1) (p : pkF h1 cnt el Fk) (r : pkR h1 cr rl) (t : qSm 30 222 2 h1) (c : pkC h1 cc lc) (vd : qVd h1) (rv1 : gF h1 16 2 = some (.int rv)) (rv2 : gF h1 213 2 = some (.int rv)) (hl2 : h1.length ≤ h2.length)
    (V1 : Q_Lappeal (exK h1) (geK h1 cnt) cnt cr cc rv x h1 (.inl (some (.int k))) h2 u2) (E : ∀ p, p < h2.length → ∀ k, gF h3 p k = gF h2 p k) (V2 : Q_mappeal el rl lc Fk cnt cr cc rv x h3 (.inl (some (.int r'))) h5 u5) :
    (qVd h5 ∧ qRv h5) ∧ gF h5 213 0 = some (.int k) ∧ (k = 0 → gF h5 238 0 = some (.long r'.toInt64)) ∧ (k = 0 ∨ k = 1 ∨ k = 2) := by
  have rf := rf_appeal c.2.2.2.2.2.1 V1
  obtain ⟨k', z1, V1⟩ := V1
  cases z1
  obtain ⟨y2, m0, z2, t0, V2⟩ := V2
  cases z2
  have o : rfO h1 m0 := fun q j hq z => by rw [t0.2.1, if_neg (by omega), E q (by omega), rf q j hq z]
  have c24 := c.2.2.2.2.2.1
  have ck : cc.toNatClampNeg = cc.toInt.toNat := rfl
  have no : ∀ (v : Int32), hExt h1 h2 → hPut m0 h5 213 0 (.int v) → qVd h5 ∧ qRv h5 := fun v ex g => ⟨vd.same hl (fun q j hq n => by
    rw [g.2.1, if_neg (by omega), t0.2.1, if_neg (by omega), E q (by omega), ex.fld hq]), rv, by
    rw [g.2.1, if_neg (by omega), t0.2.1, if_neg (by omega), E 16 (by omega), ex.fld (by omega)]
    exact rv1, by
    rw [g.2.1, if_neg (by omega), t0.2.1, if_neg (by omega), E 213 (by omega), ex.fld (by omega)]
    exact rv2⟩
  rcases V1 with ⟨rfl, ok, g3, pu, po⟩ | ⟨rfl, n, ex⟩ | ⟨rfl, ok, n, ex⟩
  · have xc := iN_cl c.2.2.2.2.1 ok.1
    rcases V2 with ⟨-, q, hq, ⟨-, w1, s1, er, s2⟩ | ⟨n, -⟩⟩ | ⟨n, -⟩
    · have e := cas_x c o xc hq
      have m4 := cas_mat hH ro (i := x.toNatClampNeg) (by omega)
      obtain ⟨lq, q239, hq1, e7, e8, vx⟩ := vd_x vd c.1 c.2.2.1 o xc hq
      have kc := pk_kC p r hS
      have key := pk_kT (d := iv h1 (189 + x.toNatClampNeg) 6) p r t hl o (fun j hj => e j (by omega)) (e 6 (by omega)).symm m4
      have o2 : rfO h1 w1 := fun v j hv z => by rw [s1.2.1, if_neg (by omega), o v j hv z]
      have hq2 : gF w1 lc x.toNatClampNeg = some (.ref q) := by
        rw [s1.2.1, if_neg (by have := c.2.2.2.1; omega)]
        exact hq
      have ee := cas_x c o2 xc hq2
      have key2 := pk_kT (d := iv h1 (189 + x.toNatClampNeg) 6) p r t hl o2 (fun j hj => ee j (by omega)) (ee 6 (by omega)).symm m4
      have kr := kT_r (D := 189 + x.toNatClampNeg) (d := iv h1 (189 + x.toNatClampNeg) 6) kc
      rw [← e 6 (by omega), ← key2] at er
      rw [← e 6 (by omega), ← key, ← e8] at s1
      have lc4 := c.2.2.2.1
      have og : ∀ v j, ¬ (v = 189 + x.toNatClampNeg ∧ j = 8) → ¬ (v = 16 ∧ j = 2) → gF g3 v j = gF h1 v j := fun v j n1 n2 => by
        rcases pu with ⟨-, e3⟩ | ⟨-, g1, p1, p2⟩
        · rw [e3]
        · rw [p2.2.1, if_neg n2, p1.2.1, if_neg n1]
      have lg : g3.length = h1.length := by
        rcases pu with ⟨-, e3⟩ | ⟨-, g1, p1, p2⟩
        · rw [e3]
        · rw [p2.1, p1.1]
      have l2 : h2.length = h1.length := by rw [po.1, lg]
      have old : ∀ v j, v < h1.length → ¬ (v = 189 + x.toNatClampNeg ∧ j = 8) → ¬ (v = 16 ∧ j = 2) → ¬ v = 213 → ¬ v = 238 → ¬ (v = q ∧ j = 8) → gF h5 v j = gF h1 v j := fun v j hv n1 n2 n3 n4 n5 => by
        rw [s2.2.1, if_neg (by omega), s1.2.1, if_neg (by omega), t0.2.1, if_neg (by omega), E v (by omega), po.2.1, if_neg (by omega), og v j n1 n2]
      refine ⟨⟨?_, ?_⟩, ?_, fun _ => ?_, Or.inl rfl⟩
      · obtain ⟨cc', lc', v1, v2, v3, v4, v5, v6, v7, v8, v9⟩ := vd
        rw [c.1] at v1
        cases v1
        rw [c.2.2.1] at v3
        cases v3
        have row : ∀ i, i < cc.toNatClampNeg → gF h5 lc i = gF h1 lc i := fun i hi => by
          obtain ⟨q', a1, a2, a3, -⟩ := v7 i hi
          refine old lc i (gF_lt a1) (by omega) (by omega) (by omega) (by omega) (fun z => ?_)
          obtain ⟨qx, b1, -, b3, -⟩ := v7 _ xc
          rw [hq1] at b1
          cases b1
          exact b3 z.1.symm
        refine ⟨cc, lc, (old 16 3 (by omega) (by omega) (by omega) (by omega) (by omega) (by omega)).trans c.1, (old 224 2 (by omega) (by omega) (by omega) (by omega) (by omega) (by omega)).trans v2, (old 224 1 (by omega) (by omega) (by omega) (by omega) (by omega) (by omega)).trans c.2.2.1, v4, v5, v6, fun i hi => ?_, fun i j v hi hj a b => v8 i j v hi hj ((row i hi).symm.trans a) ((row j hj).symm.trans b), fun i i1 i2 => ?_⟩
        · obtain ⟨q', a1, a2, a3, a4⟩ := v7 i hi
          by_cases z : i = x.toNatClampNeg
          · subst z
            rw [hq1] at a1
            cases a1
            obtain ⟨jj, vv, b1, b2, b3, b4, b5⟩ := vx
            refine ⟨q, (row _ hi).trans hq1, a2, a3, jj, r', ?_, ?_, ?_, by rw [s2.2.1, if_pos ⟨rfl, rfl⟩], ?_⟩
            · exact (old _ 7 (by omega) (by omega) (by omega) (by omega) (by omega) (by omega)).trans b1
            · exact (old _ 7 lq (by omega) (by omega) (by omega) (by omega) (by omega)).trans b2
            · rw [s2.2.1, if_neg (by omega), s1.2.1, if_neg (by omega), t0.2.1, if_neg (by omega), E _ (by omega), po.2.1, if_neg (by omega)]
              rcases pu with ⟨pe, e3⟩ | ⟨-, g1, p1, p2⟩
              · rw [e3, b3, er, ← pe, iv_of b3]
              · rw [p2.2.1, if_neg (by omega), p1.2.1, if_pos ⟨rfl, rfl⟩, er]
            · rcases b5 with ⟨b5, -⟩ | ⟨b5, b6, -⟩
              · rw [iv_of b1] at ok
                exact absurd b5 ok.2
              · exact Or.inr ⟨b5, b6, by rw [er]; exact kr⟩
          · have nq : ¬ q' = q := fun w => z (v8 i _ q' hi xc a1 (by rw [hq1, w]))
            have lq' : q' < h1.length := by
              obtain ⟨jj, ww, -, w, -⟩ := a4
              exact gF_lt w
            exact ⟨q', (row i hi).trans a1, a2, a3, a4.same (fun j hj => old _ j (by omega) (by omega) (by omega) (by omega) (by omega) (by omega)) (fun j hj => old q' j lq' (by omega) (by omega) (by omega) (by omega) (by omega))⟩
        · rw [old _ 7 (by omega) (by omega) (by omega) (by omega) (by omega) (by omega), old _ 8 (by omega) (by omega) (by omega) (by omega) (by omega) (by omega)]
          exact v9 i i1 i2
      · rcases pu with ⟨pe, e3⟩ | ⟨pe, g1, p1, p2⟩
        · refine ⟨rv, ?_, ?_⟩
          · rw [s2.2.1, if_neg (by omega), s1.2.1, if_neg (by omega), t0.2.1, if_neg (by omega), E 16 (by omega), po.2.1, if_neg (by omega), e3]
            exact rv1
          · rw [s2.2.1, if_neg (by omega), s1.2.1, if_pos ⟨rfl, rfl⟩, if_pos pe, Int32.add_zero]
        · refine ⟨rv + 1, ?_, ?_⟩
          · rw [s2.2.1, if_neg (by omega), s1.2.1, if_neg (by omega), t0.2.1, if_neg (by omega), E 16 (by omega), po.2.1, if_neg (by omega), p2.2.1, if_pos ⟨rfl, rfl⟩]
          · rw [s2.2.1, if_neg (by omega), s1.2.1, if_pos ⟨rfl, rfl⟩, if_neg pe]
      · rw [s2.2.1, if_neg (by omega), s1.2.1, if_neg (by omega), t0.2.1, if_pos ⟨rfl, rfl⟩]
      · rw [s2.2.1, if_neg (by omega), s1.2.1, if_neg (by omega), t0.2.1, if_neg (by omega), E 238 (by omega), po.2.1, if_pos ⟨rfl, rfl⟩, er]
    · obtain ⟨lq, q239, hq1, e7, e8, -⟩ := vd_x vd c.1 c.2.2.1 o xc hq
      exact absurd (e7.trans n) ok.2
    · exact absurd ok.1 n
  · rcases V2 with ⟨w, -⟩ | ⟨-, g3⟩
    · exact absurd w n
    · exact ⟨no _ ex g3, by rw [g3.2.1, if_pos ⟨rfl, rfl⟩], fun z => absurd z (by decide), Or.inr (Or.inl rfl)⟩
  · have xc := iN_cl c.2.2.2.2.1 ok
    rcases V2 with ⟨-, q, hq, ⟨n2, -⟩ | ⟨-, g3⟩⟩ | ⟨n2, -⟩
    · obtain ⟨lq, q239, hq1, e7, e8, -⟩ := vd_x vd c.1 c.2.2.1 o xc hq
      exact absurd (fun z => n2 (e7.symm.trans z)) n
    · exact ⟨no _ ex g3, by rw [g3.2.1, if_pos ⟨rfl, rfl⟩], fun z => absurd z (by decide), Or.inr (Or.inr rfl)⟩
    · exact absurd ok n2
end tolds

