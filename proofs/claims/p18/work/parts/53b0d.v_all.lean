/-! ===== the relation of all, on ===== -/
/-! frames over an arm -/
section frk
variable {W2 W4 : List (Nat × Nat)} {N1 N2 N3 : Int} {ρ1 ρ2 ρ3 : List Nat} {h1 h2 h3 h4 : List zC}
theorem qFed.fr3 (hr : qFed h1) (S1 : Stc h1) (ro1 : Ro ρ1) (H1 : tHeap wT N1 ρ1 h1) (F2 : gFr W2 ρ1 h1 h2) (w2 : wFd W2 = true) (S2 : Stc h2) (ro2 : Ro ρ2) (H2 : tHeap wT N2 ρ2 h2) (F3 : gFr [] ρ2 h2 h3) (S3 : Stc h3) (ro3 : Ro ρ3) (H3 : tHeap wT N3 ρ3 h3) (F4 : gFr W4 ρ3 h3 h4) (w4 : wFd W4 = true) : qFed h4 := ((hr.fr S1.1 ro1 H1 F2 w2).fr S2.1 ro2 H2 F3 (by decide)).fr S3.1 ro3 H3 F4 w4
theorem qAR.fr3 (hr : qAR h1) (S1 : Stc h1) (ro1 : Ro ρ1) (H1 : tHeap wT N1 ρ1 h1) (F2 : gFr W2 ρ1 h1 h2) (w2 : wAr W2 = true) (S2 : Stc h2) (ro2 : Ro ρ2) (H2 : tHeap wT N2 ρ2 h2) (F3 : gFr [] ρ2 h2 h3) (S3 : Stc h3) (ro3 : Ro ρ3) (H3 : tHeap wT N3 ρ3 h3) (F4 : gFr W4 ρ3 h3 h4) (w4 : wAr W4 = true) : qAR h4 := ((hr.fr S1.1 ro1 H1 F2 w2).fr S2.1 ro2 H2 F3 (by decide)).fr S3.1 ro3 H3 F4 w4
theorem qHO.fr3 (hr : qHO h1) (S1 : Stc h1) (ro1 : Ro ρ1) (H1 : tHeap wT N1 ρ1 h1) (F2 : gFr W2 ρ1 h1 h2) (w2 : wHo W2 = true) (S2 : Stc h2) (ro2 : Ro ρ2) (H2 : tHeap wT N2 ρ2 h2) (F3 : gFr [] ρ2 h2 h3) (S3 : Stc h3) (ro3 : Ro ρ3) (H3 : tHeap wT N3 ρ3 h3) (F4 : gFr W4 ρ3 h3 h4) (w4 : wHo W4 = true) : qHO h4 := ((hr.fr S1.1 ro1 F2 w2).fr S2.1 ro2 F3 (by decide)).fr S3.1 ro3 F4 w4
end frk
/-! write, amend -/
theorem empty_at {N : Int} {ρ : List Nat} {h : List zC} (hH : tHeap wT N ρ h) (ro : Ro ρ) : ∃ i : Nat, gF h 1 0 = some (.ref i) ∧ gF h 1 1 = some (.int 0) ∧ gN h i = some 0 ∧ ¬ i = 213 ∧ ¬ i = 225 ∧ ∀ el, (ρ[el]? = some 4 ∨ ρ[el]? = some 52) → ¬ i = el := by
  obtain ⟨c, hc, -, -, k3, -, hf⟩ := kind_at hH (ro 1 1 (by decide +kernel)) (R := _) rfl
  have hlen : c.2.length = 4 := k3 4 rfl
  have g0 : gF h 1 0 = some (c.2[0]'(by omega)) := by
    rw [gF_of hc, List.getElem?_eq_getElem]
  have g1 : gF h 1 1 = some (c.2[1]'(by omega)) := by
    rw [gF_of hc, List.getElem?_eq_getElem]
  obtain ⟨i, i1, i2⟩ := hf 0 _ g0
  have i2 : ρ[i]? = some 2 := i2
  obtain ⟨x, x1, x2, x3⟩ := hf 1 _ g1
  have x0 : x = 0 := Int32.toInt_inj.mp (by
    have z0 : (0 : Int32).toInt = 0 := rfl
    have x2 : (0 : Int) ≤ x.toInt := x2
    have x3 : x.toInt ≤ (0 : Int) := x3
    omega)
  obtain ⟨d, hd, -, m2, m3, -, -⟩ := kind_at hH i2 (R := _) rfl
  have m4 : d.2.length = 0 := m3 0 rfl
  refine ⟨i, by rw [g0, i1], by rw [g1, x1, x0], by rw [m2, m4], fun z => ?_, fun z => ?_, fun el e z => ?_⟩
  · rw [z, ro 213 40 (by decide +kernel)] at i2
    exact absurd i2 (by decide)
  · rw [z, ro 225 51 (by decide +kernel)] at i2
    exact absurd i2 (by decide)
  · rw [z] at i2
    rcases e with e | e
    · rw [e] at i2
      exact absurd i2 (by decide)
    · rw [e] at i2
      exact absurd i2 (by decide)
theorem qFm.sb {N : Int} {ρ : List Nat} {h : List zC} {T : Nat → Int32} {L s : Nat} {a bd : Int32} (r : qFm T L s a bd h) (hH : tHeap wT N ρ h) (ro : Ro ρ) : ∃ b : Nat, SB T L s b h := by
  rcases r.1 with ⟨z1, z2⟩ | z
  · obtain ⟨i, e1, e2, e3, n1, -⟩ := empty_at hH ro
    subst z1
    subst z2
    exact ⟨i, e1, e2, e3, by omega, fun j hj => absurd hj (Nat.not_lt_zero j), by omega, n1⟩
  · exact z
theorem A_new {ρ : List Nat} {A : Nat} (ro : Ro ρ) (h : ρ[A]? = some 53) : 239 ≤ A := by
  rcases Nat.lt_or_ge A 239 with z | z
  · have e := ro A _ (List.getElem?_eq_getElem (rho_lt z))
    rw [h] at e
    have key : ∀ A, A < 239 → ¬ rho0.getD A 0 = 53 := by decide +kernel
    have e3 : rho0.getD A 0 = 53 := by
      rw [List.getD_eq_getElem?_getD, List.getElem?_eq_getElem (rho_lt z)]
      exact (Option.some.inj e).symm
    exact absurd e3 (key A z)
  · exact z
theorem f8z : f8 Fz := Or.inl rfl
theorem mx_w {c : Int32} (h0 : 0 ≤ c.toInt) (h : c.toInt < 24) : mxI c (c + 1) = c + 1 ∧ (c + 1).toInt = c.toInt + 1 ∧ (c + 1).toNatClampNeg = c.toNatClampNeg + 1 := by
  have e : (c + 1).toInt = c.toInt + 1 := by
    rw [Int32.toInt_add]
    have z1 : (1 : Int32).toInt = 1 := rfl
    rw [z1]
    exact Int.bmod_eq_of_le (by omega) (by omega)
  refine ⟨?_, e, ?_⟩
  · unfold mxI
    rw [if_pos (by rw [i32_lt]; omega)]
  · show (c + 1).toInt.toNat = c.toInt.toNat + 1
    omega
theorem mx_a {c b : Int32} (h0 : 0 ≤ b.toInt) (hb : b.toInt < c.toInt) (hc : c.toInt ≤ 24) : mxI c (b + 1) = c := by
  have e : (b + 1).toInt = b.toInt + 1 := by
    rw [Int32.toInt_add]
    have z1 : (1 : Int32).toInt = 1 := rfl
    rw [z1]
    exact Int.bmod_eq_of_le (by omega) (by omega)
  unfold mxI
  rw [if_neg (by rw [i32_lt]; omega)]
/-- the text is empty -/
theorem fed_empty {h5 : List zC} {a bd : Int32} (c1 : gF h5 183 1 = some (.int 0)) (g1 : gF h5 213 10 = some (.ref 1)) (g2 : gF h5 213 16 = some (.int a)) (g3 : gF h5 213 17 = some (.int bd)) (g4 : bd = 0 ∨ bd = 1) : qFed h5 :=
  ⟨fun _ => 0, 0, 1, a, bd, c1, fun j hj => absurd hj (Nat.not_lt_zero j), Or.inl ⟨rfl, rfl⟩, g1, g2, g3, g4⟩
/-- nothing of the articles is written -/
theorem qAR.same {N : Int} {ρ : List Nat} {h h' : List zC} (r : qAR h) (hl : 239 ≤ h.length) (hH : tHeap wT N ρ h) (ro : Ro ρ) (e : ∀ x j, x < h.length → ¬ x = 213 → ¬ x = 238 → ¬ (x = 183) → ¬ (x = 71 ∧ (j = 3 ∨ j = 4)) → ¬ (73 ≤ x ∧ x < 169 ∧ j = 5) → gF h' x j = gF h x j) : qAR h' := by
  obtain ⟨cnt, el, r1, r2, r3, r4, r5, r6, r7, r8, r9, r10⟩ := r
  obtain ⟨⟨l, l1, -⟩, -, -, -, -, s6, s7⟩ := al_at hH ro r3 r2
  have hel := gN_lt l1
  have fe : ∀ k, gF h' el k = gF h el k := fun k => e el k hel (by omega) (by omega) (by omega) (by omega) (by omega)
  have fa : ∀ k, k < 24 → ∀ j, j < 5 → gF h' (73 + 4 * k) j = gF h (73 + 4 * k) j := fun k hk j hj => e _ _ (by omega) (by omega) (by omega) (by omega) (by omega) (by omega)
  refine ⟨cnt, el, ?_, ?_, ?_, r4, r5, r6, fun k hk => ?_, fun i j A hi hj e f => r8 i j A hi hj ((fe i).symm.trans e) ((fe j).symm.trans f), fun k k1 k2 => ?_, fun k hk => ?_⟩
  · rw [e _ _ (by omega) (by omega) (by omega) (by omega) (by omega) (by omega)]
    exact r1
  · rw [e _ _ (by omega) (by omega) (by omega) (by omega) (by omega) (by omega)]
    exact r2
  · rw [e _ _ (by omega) (by omega) (by omega) (by omega) (by omega) (by omega)]
    exact r3
  · obtain ⟨A, A1, A2, A3⟩ := r7 k hk
    obtain ⟨e0, e1, e2⟩ := s7 k hk
    rw [A1] at e1
    cases e1
    have k24 : k < 24 := by
      have : cnt.toNatClampNeg = cnt.toInt.toNat := rfl
      omega
    have hA := A3.A
    exact ⟨A, (fe k).trans A1, A2, A3.same k24 hH ro e2 (fa k k24) (fun j => e _ _ hA.2 (by omega) (by omega) (by omega) (by omega) (by omega)) (fun x j x1 x2 _ => e _ _ x2 (by omega) (by omega) (by omega) (by omega) (by omega))⟩
  · rw [fa k k2 2 (by omega), fa k k2 3 (by omega), fa k k2 4 (by omega)]
    exact r9 k k1 k2
  · rw [fa k hk 0 (by omega)]
    exact r10 k hk
theorem CZ.cells {C LS LN : Nat} {h h2 : List zC} {F : Nat → Int32} (z : CZ C LS LN h F) (e1 : ∀ j, gF h2 C j = gF h C j) (e2 : ∀ j, gF h2 LS j = gF h LS j) (e3 : ∀ j, gF h2 LN j = gF h LN j) : CZ C LS LN h2 F := by
  obtain ⟨z1, z2, z3, z4, z5, z6⟩ := z
  exact ⟨fun k hk => (e1 k).trans (z1 k hk), (e1 9).trans z2, (e1 10).trans z3, fun k hk => (e2 k).trans (z4 k hk), fun k hk => (e3 k).trans (z5 k hk), z6⟩
theorem AZ.cells {A AS AN : Nat} {h h2 : List zC} {F : Nat → Int32} (z : AZ A AS AN h F) (e1 : ∀ j, gF h2 A j = gF h A j) (e2 : ∀ j, gF h2 AS j = gF h AS j) (e3 : ∀ j, gF h2 AN j = gF h AN j) : AZ A AS AN h2 F := by
  obtain ⟨z1, z2, z3, z4, z5, z6⟩ := z
  exact ⟨fun e he => (e1 _).trans (z1 e he), (e1 4).trans z2, (e1 5).trans z3, fun k hk => (e2 k).trans (z4 k hk), fun k hk => (e3 k).trans (z5 k hk), z6⟩
/-- an article is put at the number n on both sides -/
theorem qAR.put {N : Int} {ρ : List Nat} {h1 h5 : List zC} {cnt c2 : Int32} {el el2 n A : Nat} (r : qAR h1) (hl : 239 ≤ h1.length) (hH : tHeap wT N ρ h1) (ro : Ro ρ) (e0 : gF h1 71 2 = some (.int cnt)) (e1 : gF h1 225 1 = some (.ref el)) (p1 : gF h5 71 2 = some (.int c2)) (p2 : gF h5 225 2 = some (.int c2)) (p3 : gF h5 225 1 = some (.ref el2)) (p4 : ∀ k, k < c2.toNatClampNeg → ¬ k = n → k < cnt.toNatClampNeg ∧ gF h5 el2 k = gF h1 el k) (p5 : gF h5 el2 n = some (.ref A)) (p6 : h1.length ≤ A) (p7 : ¬ A = el2) (p8 : qAE h5 n A) (p9 : n < 24)
    (p10 : ∀ x j, x < h1.length → ¬ x = el → ¬ x = 213 → ¬ x = 238 → ¬ x = 183 → ¬ x = 225 → ¬ x = 71 → ¬ (73 ≤ x ∧ x < 169 ∧ j = 5) → ¬ (x = 73 + 4 * n ∧ j = 1) → gF h5 x j = gF h1 x j) (p11 : el2 = el ∨ h1.length ≤ el2) (p12 : 0 ≤ c2.toInt ∧ c2.toInt ≤ 24) (p13 : ∀ k, c2.toNatClampNeg ≤ k → cnt.toNatClampNeg ≤ k) : qAR h5 := by
  obtain ⟨cnt', el', r1, r2, r3, r4, r5, r6, r7, r8, r9, r10⟩ := r
  rw [e0] at r1
  cases r1
  rw [e1] at r3
  cases r3
  obtain ⟨⟨l, l1, -⟩, -, -, -, -, s6, s7⟩ := al_at hH ro e1 r2
  have hel := gN_lt l1
  have ck : cnt.toNatClampNeg = cnt.toInt.toNat := rfl
  have ck2 : c2.toNatClampNeg = c2.toInt.toNat := rfl
  refine ⟨c2, el2, p1, p2, p3, ?_, p12.1, p12.2, fun k hk => ?_, fun i j B hi hj e f => ?_, fun k k1 k2 => ?_, fun k hk => ?_⟩
  · rcases p11 with z | z
    · rw [z]
      exact r4
    · exact Or.inr (by omega)
  · by_cases z : k = n
    · subst z
      exact ⟨A, p5, p7, p8⟩
    · obtain ⟨k1, k2⟩ := p4 k hk z
      obtain ⟨B, B1, B2, B3⟩ := r7 k k1
      obtain ⟨e, e2, e3⟩ := s7 k k1
      rw [B1] at e2
      cases e2
      have hB := B3.A
      refine ⟨B, k2.trans B1, ?_, B3.same (by omega) hH ro e3 (fun j hj => p10 _ _ (by omega) (by omega) (by omega) (by omega) (by omega) (by omega) (by omega) (by omega) (by omega)) (fun j => p10 _ _ hB.2 B2 (by omega) (by omega) (by omega) (by omega) (by omega) (by omega) (by omega)) (fun x j x1 x2 x3 => p10 _ _ x2 (fun w => ?_) (by omega) (by omega) (by omega) (by omega) (by omega) (by omega) (by omega))⟩
      · rcases p11 with w | w
        · rw [w]
          exact B2
        · omega
      · subst w
        rcases s6 with y | y
        · rw [y] at x3
          simp at x3
        · rw [y] at x3
          simp at x3
  · by_cases zi : i = n
    · by_cases zj : j = n
      · omega
      · obtain ⟨k1, k2⟩ := p4 j hj zj
        obtain ⟨B', B1, B2, B3⟩ := r7 j k1
        rw [zi, p5] at e
        cases e
        rw [k2, B1] at f
        cases f
        have := B3.A.2
        omega
    · obtain ⟨i1, i2⟩ := p4 i hi zi
      by_cases zj : j = n
      · obtain ⟨B', B1, B2, B3⟩ := r7 i i1
        rw [zj, p5] at f
        cases f
        rw [i2, B1] at e
        cases e
        have := B3.A.2
        omega
      · obtain ⟨k1, k2⟩ := p4 j hj zj
        exact r8 i j B i1 k1 (i2.symm.trans e) (k2.symm.trans f)
  · have w := p13 k k1
    rw [p10 _ _ (by omega) (by omega) (by omega) (by omega) (by omega) (by omega) (by omega) (by omega) (by omega), p10 _ _ (by omega) (by omega) (by omega) (by omega) (by omega) (by omega) (by omega) (by omega) (by omega), p10 _ _ (by omega) (by omega) (by omega) (by omega) (by omega) (by omega) (by omega) (by omega) (by omega)]
    exact r9 k w k2
  · rw [p10 _ _ (by omega) (by omega) (by omega) (by omega) (by omega) (by omega) (by omega) (by omega) (by omega)]
    exact r10 k hk
/-- the new entry -/
theorem art_new {T : Nat → Int32} {L s b n : Nat} {nb : Int32} {h1 c w1 w3 h5 m0 : List zC} {p : Nat} {F : Nat → Int32} (hl : 239 ≤ h1.length) (hm : h1.length + 3 ≤ m0.length) (n24 : n < 24) (cz : CZ h1.length (h1.length + 1) (h1.length + 2) c F) (az : AZ m0.length (m0.length + 1) (m0.length + 2) w3 F) (qw : QWr T L s b nb m0 w1 w3) (a1 : gF h5 (73 + 4 * n) 1 = some (.ref h1.length)) (s0 : gF h5 (73 + 4 * n) 2 = some (.int 0)) (s1 : gF h5 (73 + 4 * n) 3 = some (.int (-1))) (s2 : gF h5 (73 + 4 * n) 4 = some (.int (-1))) (oc : ∀ x j, h1.length ≤ x → x < h1.length + 3 → gF h5 x j = gF c x j) (ow : ∀ x j, m0.length ≤ x → x < m0.length + 3 → gF h5 x j = gF w3 x j) : qAE h5 n m0.length := by
  obtain ⟨⟨-, -, -, ⟨g9, g10, g11⟩, -, -⟩, g⟩ := qw
  have u : ∀ j, gF h5 m0.length j = gF w1 m0.length j := fun j => by
    rw [ow _ _ (Nat.le_refl _) (by omega), g.2.1, if_neg (by omega)]
  exact ⟨_, _, _, _, _, F, 0, -1, -1, a1, cz.cells (fun j => oc _ _ (by omega) (by omega)) (fun j => oc _ _ (by omega) (by omega)) (fun j => oc _ _ (by omega) (by omega)), az.cells (fun j => ow _ _ (by omega) (by omega)) (fun j => ow _ _ (by omega) (by omega)) (fun j => ow _ _ (by omega) (by omega)), ⟨s0, (u 9).trans g9⟩, ⟨s1, (u 10).trans g10⟩, ⟨s2, (u 11).trans g11⟩, fun _ => ⟨rfl, rfl⟩⟩
theorem fed_no {h1 h2 h3 h5 m0 : List zC} {L s : Nat} {T : Nat → Int32} {a bd v : Int32} (t1 : gF h1 183 1 = some (.int (Int32.ofNat L))) (t3 : ∀ i, i < L → gF h1 184 i = some (.int (T i))) (fm : qFm T L s a bd h3) (hl : 239 ≤ h1.length) (hl2 : h1.length ≤ h2.length) (ex : hExt h1 h2) (E : ∀ p, p < h2.length → ∀ k, gF h3 p k = gF h2 p k) (t0 : hPut h3 m0 213 0 (.int 0)) (g3 : hPut m0 h5 213 0 (.int v)) : qFed h5 := by
  obtain ⟨sb, f1, f2, f3, f4⟩ := fm
  have o : ∀ x j, ¬ (x = 213 ∧ j = 0) → gF h5 x j = gF h3 x j := fun x j n => by rw [g3.2.1, if_neg n, t0.2.1, if_neg n]
  refine ⟨T, L, s, a, bd, ?_, fun i hi => ?_, sb.same (fun x k n => o x k (fun z => n z.1)) (fun x => by rw [g3.2.2.2, t0.2.2.2]), ?_, ?_, ?_, f4⟩
  · rw [o _ _ (by omega), E _ (by omega), ex.fld (by omega)]
    exact t1
  · rw [o _ _ (by omega), E _ (by omega), ex.fld (by omega)]
    exact t3 i hi
  · rw [o _ _ (by omega)]
    exact f1
  · rw [o _ _ (by omega)]
    exact f2
  · rw [o _ _ (by omega)]
    exact f3
theorem art_no {N : Int} {ρ : List Nat} {h1 h2 h3 h5 m0 : List zC} {v : Int32} (r : qAR h1) (hl : 239 ≤ h1.length) (hH : tHeap wT N ρ h1) (ro : Ro ρ) (hl2 : h1.length ≤ h2.length) (ex : hExt h1 h2) (E : ∀ p, p < h2.length → ∀ k, gF h3 p k = gF h2 p k) (t0 : hPut h3 m0 213 0 (.int 0)) (g3 : hPut m0 h5 213 0 (.int v)) : qAR h5 := r.same hl hH ro (fun x j hx n1 n2 n3 n4 n5 => by
  rw [g3.2.1, if_neg (by omega), t0.2.1, if_neg (by omega), E _ (by omega), ex.fld hx])

