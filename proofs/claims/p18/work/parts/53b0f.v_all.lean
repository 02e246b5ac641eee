/-! ===== the relation of all, on ===== -/
theorem sum_vote {N : Int} {ρ : List Nat} {h1 h2 h3 h5 : List zC} {u2 u5 el : Nat} {cnt dd b k r' : Int32} (hl : 239 ≤ h1.length) (hH : tHeap wT N ρ h1) (ro : Ro ρ) (r : qHO h1) (ra : qAR h1) (d1 : gF h1 16 0 = some (.int dd)) (d2 : gF h1 213 1 = some (.int dd)) (c0 : gF h1 71 2 = some (.int cnt)) (c1 : gF h1 225 1 = some (.ref el)) (h0c : 0 ≤ cnt.toInt) (h24 : cnt.toInt ≤ 24) (hl2 : h1.length ≤ h2.length)
    (V1 : Q_Lvote cnt b h1 (.inl (some (.int k))) h2 u2) (E : ∀ p, p < h2.length → ∀ k, gF h3 p k = gF h2 p k) (V2 : Q_mvote el cnt b h3 (.inl (some (.int r'))) h5 u5) :
    (qHO h5 ∧ qAR h5) ∧ gF h5 213 0 = some (.int k) ∧ (k = 0 → gF h5 238 0 = some (.long r'.toInt64)) ∧ (k = 0 ∨ k = 1 ∨ k = 2) := by
  obtain ⟨k', z1, V1⟩ := V1
  cases z1
  obtain ⟨y2, m0, z2, t0, V2⟩ := V2
  cases z2
  have nk : b.toNatClampNeg = b.toInt.toNat := rfl
  rcases V1 with ⟨rfl, ok, y, C, e1, e3, hC, ey, pu, rl, po⟩ | ⟨rfl, no, ex⟩ | ⟨rfl, yes, no, ex⟩
  · obtain ⟨A, C', f0, o6, a1, a2, a3, a4, a5, a6, a7, a8, a9, a10, a11, a12, a13, a14, a15, a16⟩ := art_at ra hH ro c0 c1 (iN_cl h0c ok.1)
    rw [hC] at a7
    cases a7
    have b24 : b.toNatClampNeg < 24 := by
      have := ok.1
      obtain ⟨q1, q2⟩ := this
      omega
    have ra2 := ra
    obtain ⟨cnt', el', q1, q2, q3, -⟩ := ra2
    rw [c1] at q3
    cases q3
    obtain ⟨⟨l, l1, -⟩, -, -, -, s5, -, -⟩ := al_at hH ro c1 q2
    have hel := gN_lt l1
    have oc1 : ∀ x j, ¬ (x = 73 + 4 * b.toNatClampNeg ∧ (j = 2 ∨ j = 3)) → gF e1 x j = gF h1 x j := fun x j n => by
      rcases pu with ⟨-, c0', g1, g2⟩ | ⟨-, g1⟩
      · rw [g2.2.1, if_neg (by omega), g1.2.1, if_neg (by omega)]
      · rw [g1.2.1, if_neg (by omega)]
    have le : e1.length = h1.length := by
      rcases pu with ⟨-, c0', g1, g2⟩ | ⟨-, g1⟩
      · rw [g2.1, g1.1]
      · rw [g1.1]
    have l2 : h2.length = h1.length := by rw [po.1, rl.1, le]
    have num : iv h1 (73 + 4 * b.toNatClampNeg) 0 = b := num_at ra ok.1 h24
    have num1 : iv e1 (73 + 4 * b.toNatClampNeg) 0 = b := (iv_eq (oc1 _ _ (by omega))).trans num
    have mt1 : iv e1 C 0 = f0 := (iv_eq (oc1 C 0 (by omega))).trans (iv_of a11)
    rw [num1, mt1] at rl
    have o2 : ∀ x j, x < h1.length → ¬ x = 238 → gF h3 x j = gF e3 x j := fun x j hx n => by
      rw [E x (by omega), po.2.1, if_neg (by omega)]
    have o1 : ∀ x j, x < h1.length → ¬ x = 238 → ¬ (171 ≤ x ∧ x < 183) → ¬ (x = 73 + 4 * b.toNatClampNeg ∧ (j = 2 ∨ j = 3)) → gF h3 x j = gF h1 x j := fun x j hx n1 n2 n3 => by
      rw [o2 x j hx n1, rl.2.2.1 x j (fun f hf _ => ⟨by dsimp only; omega, by dsimp only; omega⟩), oc1 x j n3]
    have om : ∀ x j, ¬ (x = 213 ∧ j = 0) → gF m0 x j = gF h3 x j := fun x j n => by rw [t0.2.1, if_neg n]
    have hA3 : gF h3 el b.toNatClampNeg = some (.ref A) := by
      rw [o1 _ _ hel (by omega) (by omega) (by omega)]
      exact a1
    have st0 : iv h3 A 9 = 0 := (st_eq ra hl hH ro c0 c1 (iN_cl h0c ok.1) hA3 E hl2 (fun x j hx q1 q2 q3 q4 q5 q6 => by
      rw [po.2.1, if_neg (by omega), rl.2.2.1 x j (fun f hf _ => ⟨by dsimp only; omega, by dsimp only; omega⟩), oc1 x j (by omega)])).trans ok.2
    rcases V2 with ⟨-, A', hA', ⟨-, er, w1, w3, m, g1, g2, hm, rm⟩ | ⟨n, -⟩⟩ | ⟨n, -⟩
    · rw [hA3] at hA'
      cases hA'
      have m00 : iv m0 A 0 = f0 := by
        rw [iv_eq (om A 0 (by omega)), iv_eq (o1 A 0 a4 (by omega) (by omega) (by omega))]
        exact iv_of a12
      have m07 : iv m0 A 7 = o6 := by
        rw [iv_eq (om A 7 (by omega)), iv_eq (o1 A 7 a4 (by omega) (by omega) (by omega))]
        exact iv_of a15
      have ye : y = r' := by
        rw [ey, er]
        exact hcF_same (n := 3) (bal_same r (iv_of a11) m00 a13 (iv_of a14) m07 a16 num (fun x j q1 q2 => by
          rw [om x j (by omega), o1 x j (by omega) (by omega) (by omega) (by omega)])) 3 (Nat.le_refl _)
      have mf : m = f0 := by
        have e : gF w3 A 0 = gF h1 A 0 := by
          rw [g2.2.1, if_neg (by omega), g1.2.1, if_neg (by omega), om A 0 (by omega), o1 A 0 a4 (by omega) (by omega) (by omega)]
        rw [e, a12] at hm
        cases hm
        rfl
      rw [mf] at rm
      have ow : ∀ x j, ¬ (x = A ∧ (j = 9 ∨ j = 10)) → gF w3 x j = gF m0 x j := fun x j n => by
        rw [g2.2.1, if_neg (by omega), g1.2.1, if_neg (by omega)]
      have o5 : ∀ x j, ¬ (231 ≤ x ∧ x < 237) → gF h5 x j = gF w3 x j := fun x j n => rm.2.2.1 x j (fun f hf _ => ⟨by dsimp only; omega, by dsimp only; omega⟩)
      have o9 : ∀ x j, ¬ (231 ≤ x ∧ x < 237) → ¬ (x = 213 ∧ j = 0) → ¬ (x = A ∧ (j = 9 ∨ j = 10)) → gF h5 x j = gF h3 x j := fun x j n1 n2 n3 => by
        rw [o5 x j n1, ow x j n3, om x j n2]
      have aw : ∀ x j, 227 ≤ x → x < 237 → gF w3 x j = gF h1 x j := fun x j q1 q2 => by
        rw [ow x j (by omega), om x j (by omega), o1 x j (by omega) (by omega) (by omega) (by omega)]
      have hq : qHO h5 := by
        refine r.rel (mt := f0.toNatClampNeg) (num := b) a13 (fun f hf e => ?_) (fun x j q1 q2 q3 q4 => ?_)
        · obtain ⟨v1, v2⟩ := rl.2.1 f hf ((iv_eq (oc1 (171 + 3 * f) 3 (by omega))).trans e)
          obtain ⟨x, x1, x2, -⟩ := r (172 + 3 * f) f0.toNatClampNeg (231 + f) f0.toNatClampNeg (-5) 5 (Or.inr (Or.inl ⟨f, _, hf, a13, rfl, rfl, rfl, rfl, rfl, rfl⟩))
          obtain ⟨z, z1, z2, -⟩ := r (171 + 3 * f) 3 236 f (-1) 23 (Or.inr (Or.inr (Or.inr ⟨f, hf, rfl, rfl, rfl, rfl, rfl, rfl⟩)))
          obtain ⟨v3, v4⟩ := rm.2.1 f hf ((iv_eq (aw 236 f (by omega) (by omega))).trans ((iv_of z2).trans ((iv_of z1).symm.trans e)))
          rw [iv_eq (oc1 (172 + 3 * f) _ (by omega))] at v2
          rw [iv_eq (aw (231 + f) _ (by omega) (by omega)), iv_of x2, ← iv_of x1] at v4
          refine ⟨?_, ?_, v3, v4⟩
          · rw [o9 _ _ (by omega) (by omega) (by omega), o2 _ _ (by omega) (by omega)]
            exact v1
          · rw [o9 _ _ (by omega) (by omega) (by omega), o2 _ _ (by omega) (by omega)]
            exact v2
        · have u3 : gF h3 x j = gF h1 x j := by
            rw [o2 x j (by omega) (by omega), rl.2.2.1 x j (fun f hf e => ?_), oc1 x j (by omega)]
            obtain ⟨w1, w2, -, -⟩ := q4 f hf ((iv_eq (oc1 _ _ (by omega))).symm.trans e)
            exact ⟨w1, w2⟩
          rw [rm.2.2.1 x j (fun f hf e => ?_), ow x j (by omega), om x j (by omega), u3]
          obtain ⟨z, z1, z2, -⟩ := r (171 + 3 * f) 3 236 f (-1) 23 (Or.inr (Or.inr (Or.inr ⟨f, hf, rfl, rfl, rfl, rfl, rfl, rfl⟩)))
          have e0 : iv h1 (171 + 3 * f) 3 = b := by
            rw [iv_eq (aw 236 f (by omega) (by omega)), iv_of z2] at e
            rw [iv_of z1]
            exact e
          obtain ⟨-, -, w3, w4⟩ := q4 f hf e0
          exact ⟨w3, w4⟩
      have dr : iv h1 16 0 = dd := iv_of d1
      have d3 : iv h3 213 1 = dd := (iv_eq (o1 213 1 (by omega) (by omega) (by omega) (by omega))).trans (iv_of d2)
      obtain ⟨C2, LS, LN, AS, AN, F, st, fr, en, x1, x2, x3, ⟨y0, y1⟩, ⟨y2, y3⟩, ⟨y4, y5⟩, y6⟩ := a5
      obtain ⟨f1, n1⟩ := y6 ((iv_of y0).symm.trans ok.2)
      rw [f1] at y2 y3
      rw [n1] at y4 y5
      have ua : ∀ j, gF h5 (73 + 4 * b.toNatClampNeg) j = gF e1 (73 + 4 * b.toNatClampNeg) j := fun j => by
        rw [o9 _ _ (by omega) (by omega) (by omega), o2 _ _ (by omega) (by omega), rl.2.2.1 _ j (fun f hf _ => ⟨by dsimp only; omega, by dsimp only; omega⟩)]
      have hr : qAR h5 := by
        refine ra.mark (n := b.toNatClampNeg) (A := A) (st := if 2 ≤ y then 1 else 3) (fr := if 2 ≤ y then dd + 30 else -1) (en := -1) hl hH ro c0 c1 (iN_cl h0c ok.1) a1 ⟨?_, ?_⟩ ⟨?_, ?_⟩ ⟨?_, ?_⟩ ?_ (fun x j hx q1 q2 q3 q4 q5 q6 => ?_)
        · rw [ua]
          rcases pu with ⟨p2, c0', p3, p4⟩ | ⟨p2, p3⟩
          · rw [p4.2.1, if_neg (by omega), p3.2.1, if_pos ⟨rfl, rfl⟩, if_pos p2]
          · rw [p3.2.1, if_pos ⟨rfl, rfl⟩, if_neg p2]
        · rw [o5 _ _ (by omega), g2.2.1, if_neg (by omega), g1.2.1, if_pos ⟨rfl, rfl⟩, ye]
        · rw [ua]
          rcases pu with ⟨p2, c0', p3, p4⟩ | ⟨p2, p3⟩
          · rw [p4.2.1, if_pos ⟨rfl, rfl⟩, if_pos p2, dr]
          · rw [p3.2.1, if_neg (by omega), if_neg p2]
            exact y2
        · rw [o5 _ _ (by omega), g2.2.1, if_pos ⟨rfl, rfl⟩, d3, ye]
        · rw [ua, oc1 _ _ (by omega)]
          exact y4
        · rw [o9 _ _ (by omega) (by omega) (by omega), o1 _ _ a4 (by omega) (by omega) (by omega)]
          exact y5
        · intro z
          by_cases p2 : 2 ≤ y
          · rw [if_pos p2] at z
            exact absurd z (by decide)
          · rw [if_neg p2] at z
            exact absurd z (by decide)
        · rw [o9 x j q4 (by omega) (by omega), o1 x j hx q2 (by omega) (by omega)]
      refine ⟨⟨hq, hr⟩, ?_, fun _ => ?_, Or.inl rfl⟩
      · rw [o5 213 0 (by omega), ow 213 0 (by omega), t0.2.1, if_pos ⟨rfl, rfl⟩]
      · rw [o9 238 0 (by omega) (by omega) (by omega), E 238 (by omega), po.2.1, if_pos ⟨rfl, rfl⟩, ye]
    · rw [hA3] at hA'
      cases hA'
      exact absurd st0 n
    · exact absurd ok.1 n
  · rcases V2 with ⟨w, -⟩ | ⟨-, g3⟩
    · exact absurd w no
    · exact ⟨⟨sumH_no r hl ex hl2 E t0 g3, art_no ra hl hH ro hl2 ex E t0 g3⟩, by rw [g3.2.1, if_pos ⟨rfl, rfl⟩], fun z => absurd z (by decide), Or.inr (Or.inl rfl)⟩
  · rcases V2 with ⟨-, A, hA, ⟨w, -⟩ | ⟨-, g3⟩⟩ | ⟨w, -⟩
    · exact absurd ((st_eq ra hl hH ro c0 c1 (iN_cl h0c yes) hA E hl2 (fun x j hx _ _ _ _ _ _ => ex.fld hx j)).symm.trans w) no
    · exact ⟨⟨sumH_no r hl ex hl2 E t0 g3, art_no ra hl hH ro hl2 ex E t0 g3⟩, by rw [g3.2.1, if_pos ⟨rfl, rfl⟩], fun z => absurd z (by decide), Or.inr (Or.inr rfl)⟩
    · exact absurd yes w

