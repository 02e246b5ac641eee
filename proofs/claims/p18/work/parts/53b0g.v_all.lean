/-! ===== the relation of all, on ===== -/
theorem sum_repeal {N : Int} {ρ : List Nat} {h1 h2 h3 h5 : List zC} {u2 u5 el : Nat} {cnt dd b k r' : Int32} (hl : 239 ≤ h1.length) (hH : tHeap wT N ρ h1) (ro : Ro ρ) (r : qHO h1) (ra : qAR h1) (d1 : gF h1 16 0 = some (.int dd)) (d2 : gF h1 213 1 = some (.int dd)) (c0 : gF h1 71 2 = some (.int cnt)) (c1 : gF h1 225 1 = some (.ref el)) (h0c : 0 ≤ cnt.toInt) (h24 : cnt.toInt ≤ 24) (hl2 : h1.length ≤ h2.length)
    (V1 : Q_Lrepeal cnt b h1 (.inl (some (.int k))) h2 u2) (E : ∀ p, p < h2.length → ∀ k, gF h3 p k = gF h2 p k) (V2 : Q_mrepeal el cnt b h3 (.inl (some (.int r'))) h5 u5) :
    qAR h5 ∧ gF h5 213 0 = some (.int k) ∧ (k = 0 → gF h5 238 0 = some (.long r'.toInt64)) ∧ (k = 0 ∨ k = 1 ∨ k = 2) := by
  obtain ⟨k', z1, V1⟩ := V1
  cases z1
  obtain ⟨y2, m0, z2, t0, V2⟩ := V2
  cases z2
  have nk : b.toNatClampNeg = b.toInt.toNat := rfl
  rcases V1 with ⟨rfl, ok, y, C, e1, hC, ey, pu, po⟩ | ⟨rfl, no, ex⟩ | ⟨rfl, yes, no, ex⟩
  · obtain ⟨A, C', f0, o6, a1, a2, a3, a4, a5, a6, a7, a8, a9, a10, a11, a12, a13, a14, a15, a16⟩ := art_at ra hH ro c0 c1 (iN_cl h0c ok.1)
    rw [hC] at a7
    cases a7
    have b24 : b.toNatClampNeg < 24 := by
      have := ok.1
      obtain ⟨q1, q2⟩ := this
      omega
    have ra2 := ra
    obtain ⟨cnt', el', q1, q2, q3, -⟩ := ra2
    rw [c1] at q3
    cases q3
    obtain ⟨⟨l, l1, -⟩, -, -, -, s5, -, -⟩ := al_at hH ro c1 q2
    have hel := gN_lt l1
    have oc1 : ∀ x j, ¬ (x = 73 + 4 * b.toNatClampNeg ∧ (j = 2 ∨ j = 4)) → gF e1 x j = gF h1 x j := fun x j n => by
      rcases pu with ⟨-, c0', g1, g2⟩ | ⟨-, g1⟩
      · rw [g2.2.1, if_neg (by omega), g1.2.1, if_neg (by omega)]
      · rw [g1]
    have le : e1.length = h1.length := by
      rcases pu with ⟨-, c0', g1, g2⟩ | ⟨-, g1⟩
      · rw [g2.1, g1.1]
      · rw [g1]
    have l2 : h2.length = h1.length := by rw [po.1, le]
    have num : iv h1 (73 + 4 * b.toNatClampNeg) 0 = b := num_at ra ok.1 h24
    have o1 : ∀ x j, x < h1.length → ¬ x = 238 → ¬ (x = 73 + 4 * b.toNatClampNeg ∧ (j = 2 ∨ j = 4)) → gF h3 x j = gF h1 x j := fun x j hx n1 n3 => by
      rw [E x (by omega), po.2.1, if_neg (by omega), oc1 x j n3]
    have om : ∀ x j, ¬ (x = 213 ∧ j = 0) → gF m0 x j = gF h3 x j := fun x j n => by rw [t0.2.1, if_neg n]
    have hA3 : gF h3 el b.toNatClampNeg = some (.ref A) := by
      rw [o1 _ _ hel (by omega) (by omega)]
      exact a1
    have st0 : iv h3 A 9 = 1 := (st_eq ra hl hH ro c0 c1 (iN_cl h0c ok.1) hA3 E hl2 (fun x j hx q1 q2 q3 q4 q5 q6 => by
      rw [po.2.1, if_neg (by omega), oc1 x j (by omega)])).trans ok.2
    rcases V2 with ⟨-, A', hA', ⟨-, er, pv⟩ | ⟨n, -⟩⟩ | ⟨n, -⟩
    · rw [hA3] at hA'
      cases hA'
      have m00 : iv m0 A 0 = f0 := by
        rw [iv_eq (om A 0 (by omega)), iv_eq (o1 A 0 a4 (by omega) (by omega))]
        exact iv_of a12
      have m07 : iv m0 A 7 = o6 := by
        rw [iv_eq (om A 7 (by omega)), iv_eq (o1 A 7 a4 (by omega) (by omega))]
        exact iv_of a15
      have ye : y = r' := by
        rw [ey, er]
        exact hcF_same (n := 3) (bal_same r (iv_of a11) m00 a13 (iv_of a14) m07 a16 num (fun x j q1 q2 => by
          rw [om x j (by omega), o1 x j (by omega) (by omega) (by omega)])) 3 (Nat.le_refl _)
      have o5 : ∀ x j, ¬ (x = A ∧ (j = 9 ∨ j = 11)) → gF h5 x j = gF m0 x j := fun x j n => by
        rcases pv with ⟨-, w1, g1, g2⟩ | ⟨-, g1⟩
        · rw [g2.2.1, if_neg (by omega), g1.2.1, if_neg (by omega)]
        · rw [g1]
      have o9 : ∀ x j, ¬ (x = 213 ∧ j = 0) → ¬ (x = A ∧ (j = 9 ∨ j = 11)) → gF h5 x j = gF h3 x j := fun x j n2 n3 => by
        rw [o5 x j n3, om x j n2]
      have dr : iv h1 16 0 = dd := iv_of d1
      have d3 : iv h3 213 1 = dd := (iv_eq (o1 213 1 (by omega) (by omega) (by omega))).trans (iv_of d2)
      obtain ⟨C2, LS, LN, AS, AN, F, st, fr, en, x1, x2, x3, ⟨y0, y1⟩, ⟨y2, y3⟩, ⟨y4, y5⟩, y6⟩ := a5
      have s1 : st = 1 := (iv_of y0).symm.trans ok.2
      rw [s1] at y0 y1
      have ua : ∀ j, gF h5 (73 + 4 * b.toNatClampNeg) j = gF e1 (73 + 4 * b.toNatClampNeg) j := fun j => by
        rw [o9 _ _ (by omega) (by omega), E _ (by omega), po.2.1, if_neg (by omega)]
      have uA : ∀ j, ¬ j = 9 → ¬ j = 11 → gF h5 A j = gF h1 A j := fun j q1 q2 => by
        rw [o9 _ _ (by omega) (by omega), o1 _ _ a4 (by omega) (by omega)]
      have hr : qAR h5 := by
        refine ra.mark (n := b.toNatClampNeg) (A := A) (st := if 2 ≤ y then 2 else 1) (fr := fr) (en := if 2 ≤ y then dd + 30 else en) hl hH ro c0 c1 (iN_cl h0c ok.1) a1 ⟨?_, ?_⟩ ⟨?_, ?_⟩ ⟨?_, ?_⟩ ?_ (fun x j hx q1 q2 q3 q4 q5 q6 => ?_)
        · rw [ua]
          rcases pu with ⟨p2, c0', p3, p4⟩ | ⟨p2, p3⟩
          · rw [p4.2.1, if_neg (by omega), p3.2.1, if_pos ⟨rfl, rfl⟩, if_pos p2]
          · rw [p3, if_neg p2]
            exact y0
        · rcases pv with ⟨p2, w1, p3, p4⟩ | ⟨p2, p3⟩
          · rw [p4.2.1, if_neg (by omega), p3.2.1, if_pos ⟨rfl, rfl⟩, ye, if_pos p2]
          · rw [p3, om A 9 (by omega), o1 _ _ a4 (by omega) (by omega), ye, if_neg p2]
            exact y1
        · rw [ua, oc1 _ _ (by omega)]
          exact y2
        · rw [uA 10 (by omega) (by omega)]
          exact y3
        · rw [ua]
          rcases pu with ⟨p2, c0', p3, p4⟩ | ⟨p2, p3⟩
          · rw [p4.2.1, if_pos ⟨rfl, rfl⟩, if_pos p2, dr]
          · rw [p3, if_neg p2]
            exact y4
        · rcases pv with ⟨p2, w1, p3, p4⟩ | ⟨p2, p3⟩
          · rw [p4.2.1, if_pos ⟨rfl, rfl⟩, d3, ye, if_pos p2]
          · rw [p3, om A 11 (by omega), o1 _ _ a4 (by omega) (by omega), ye, if_neg p2]
            exact y5
        · intro z
          by_cases p2 : 2 ≤ y
          · rw [if_pos p2] at z
            exact absurd z (by decide)
          · rw [if_neg p2] at z
            exact absurd z (by decide)
        · rw [o9 x j (by omega) (by omega), o1 x j hx q2 (by omega)]
      refine ⟨hr, ?_, fun _ => ?_, Or.inl rfl⟩
      · rw [o5 213 0 (by omega), t0.2.1, if_pos ⟨rfl, rfl⟩]
      · rw [o9 238 0 (by omega) (by omega), E 238 (by omega), po.2.1, if_pos ⟨rfl, rfl⟩, ye]
    · rw [hA3] at hA'
      cases hA'
      exact absurd st0 n
    · exact absurd ok.1 n
  · rcases V2 with ⟨w, -⟩ | ⟨-, g3⟩
    · exact absurd w no
    · exact ⟨art_no ra hl hH ro hl2 ex E t0 g3, by rw [g3.2.1, if_pos ⟨rfl, rfl⟩], fun z => absurd z (by decide), Or.inr (Or.inl rfl)⟩
  · rcases V2 with ⟨-, A, hA, ⟨w, -⟩ | ⟨-, g3⟩⟩ | ⟨w, -⟩
    · exact absurd ((st_eq ra hl hH ro c0 c1 (iN_cl h0c yes) hA E hl2 (fun x j hx _ _ _ _ _ _ => ex.fld hx j)).symm.trans w) no
    · exact ⟨art_no ra hl hH ro hl2 ex E t0 g3, by rw [g3.2.1, if_pos ⟨rfl, rfl⟩], fun z => absurd z (by decide), Or.inr (Or.inr rfl)⟩
    · exact absurd yes w
theorem art_ints {N : Int} {ρ : List Nat} {h : List zC} {A : Nat} (hH : tHeap wT N ρ h) (hA : ρ[A]? = some 53) : ∃ m : Int32, gF h A 0 = some (.int m) := by
  obtain ⟨c, hc, -, -, k3, -, hf⟩ := kind_at hH hA (R := _) rfl
  have hlen : c.2.length = 12 := k3 12 rfl
  have g0 : gF h A 0 = some (c.2[0]'(by omega)) := by
    rw [gF_of hc, List.getElem?_eq_getElem]
  obtain ⟨x, x1, -⟩ := hf 0 _ g0
  exact ⟨x, by rw [g0, x1]⟩
theorem len_236 {N : Int} {ρ : List Nat} {h : List zC} (hH : tHeap wT N ρ h) (ro : Ro ρ) : gN h 236 = some 4 := by
  obtain ⟨c, hc, -, k2, k3, -, -⟩ := kind_at hH (ro 236 63 (by decide +kernel)) (R := _) rfl
  rw [k2, k3 4 rfl]
/-- of the reference's object all but thrown and the text is kept -/
theorem clause_at {h : List zC} {cnt : Int32} (r : qAR h) (c0 : gF h 71 2 = some (.int cnt)) : ∀ k, k < cnt.toNatClampNeg → ∃ C : Nat, gF h (73 + 4 * k) 1 = some (.ref C) ∧ 239 ≤ C := fun k hk => by
  obtain ⟨cnt', el', r1, r2, r3, r4, r5, r6, r7, -⟩ := r
  rw [c0] at r1
  cases r1
  obtain ⟨A, A1, A2, C, LS, LN, AS, AN, F, st, fr, en, x1, x2, -⟩ := r7 k hk
  exact ⟨C, x1, x2.2.2.2.2.2.1⟩

