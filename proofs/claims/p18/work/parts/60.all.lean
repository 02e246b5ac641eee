/-! ===== the law's run from its first instruction ===== -/
def zEmp (x z : Int32) : zC := (0, [.ref 2, .int 0, .int x, .int z])
theorem zEmp_ok {x z : Int32} (hz : z = 0 ∨ z = 1) : ∀ R, wR wT 1 = some R → tCell 0 rhoS R (zEmp x z) := fun R hR => by
  cases (show some ((0, some 4, [((3, 2, 0), (3, 2, 0), 0, 0), ((0, 0, 0), (0, 0, 0), 0, 0), ((0, -2147483648, 2147483647), (0, -2147483648, 2147483647), 0, 0), ((0, 0, 1), (0, 0, 1), 0, 0)], ((9, 0, 0), (9, 0, 0), 0, 0)) : tR) = some R from hR)
  refine ⟨rfl, by
    unfold tLenOk
    exact ⟨(fun m hm => by cases hm; rfl), (fun h _ _ => by cases h)⟩, fun k v hv => ?_⟩
  match k, hv with
  | 0, hv =>
    cases hv
    exact ⟨⟨2, rfl, rfl⟩, trivial⟩
  | 1, hv =>
    cases hv
    exact ⟨⟨0, rfl, by decide, by decide⟩, trivial⟩
  | 2, hv =>
    cases hv
    have := x.toInt_lt
    have := x.le_toInt
    have q : ∃ y : Int32, Value.int x = .int y ∧ (-2147483648 : Int) ≤ y.toInt ∧ y.toInt ≤ 2147483647 := ⟨x, rfl, by omega, by omega⟩
    exact ⟨q, trivial⟩
  | 3, hv =>
    cases hv
    refine ⟨⟨z, rfl, ?_, ?_⟩, trivial⟩
    · rcases hz with rfl | rfl <;> decide
    · rcases hz with rfl | rfl <;> decide
  | n + 4, hv => cases hv
theorem hF_gF {c0 c1 : zC} {h : List zC} {p k : Nat} (hp : 1 < p) : gF (hF c0 c1 h) p k = gF h p k := by
  unfold gF
  rw [hF_get hp]
theorem st0 : stL.all (fun e => decide (1 < e.1) && decide (gF hSl e.1 e.2.1 = some (.ref e.2.2))) = true := by decide +kernel
theorem Stc0 {c0 c1 : zC} : Stc (hF c0 c1 hSl) := ⟨by rw [hF_len]; exact (by decide +kernel : 239 ≤ hSl.length), fun e he => by
  obtain ⟨a, b⟩ := Bool.and_eq_true_iff.mp (List.all_eq_true.mp st0 e he)
  rw [hF_gF (of_decide_eq_true a)]
  exact of_decide_eq_true b⟩
theorem relCl {c0 c1 : zC} : qFed (hF c0 c1 hSl) ∧ qAR (hF c0 c1 hSl) ∧ qHO (hF c0 c1 hSl) ∧ qRDy (hF c0 c1 hSl) := by
  have e : ∀ p k, 1 < p → gF (hF c0 c1 hSl) p k = gF hSl p k := fun p k hp => hF_gF hp
  refine ⟨⟨fun _ => 0, 0, 1, 0, 0, ?_, fun i hi => absurd hi (Nat.not_lt_zero i), Or.inl ⟨rfl, rfl⟩, ?_, ?_, ?_, Or.inl rfl⟩, ⟨0, 4, ?_, ?_, ?_, Or.inl rfl, by decide, by decide, fun k hk => absurd hk (Nat.not_lt_zero _), fun i j A hi => absurd hi (Nat.not_lt_zero _), fun k _ hk => ?_, fun k hk => ?_⟩, fun a k b l lo hi p => ?_, ⟨0, ?_, ?_⟩⟩
  · rw [e _ _ (by omega)]; decide +kernel
  · rw [e _ _ (by omega)]; decide +kernel
  · rw [e _ _ (by omega)]; decide +kernel
  · rw [e _ _ (by omega)]; decide +kernel
  · rw [e _ _ (by omega)]; decide +kernel
  · rw [e _ _ (by omega)]; decide +kernel
  · rw [e _ _ (by omega)]; decide +kernel
  · rw [e _ _ (by omega), e _ _ (by omega), e _ _ (by omega)]
    have : ∀ k, k < 24 → gF hSl (73 + 4 * k) 2 = some (.int 0) ∧ gF hSl (73 + 4 * k) 3 = some (.int (-1)) ∧ gF hSl (73 + 4 * k) 4 = some (.int (-1)) := by decide +kernel
    exact this k hk
  · rw [e _ _ (by omega)]
    have : ∀ k, k < 24 → gF hSl (73 + 4 * k) 0 = some (.int (Int32.ofNat k)) := by decide +kernel
    exact this k hk
  · have q := p.at
    rw [e _ _ (by omega), e _ _ (by omega)]
    rcases p with ⟨f, s, h1, h2, rfl, rfl, rfl, rfl, rfl, rfl⟩ | ⟨f, m, h1, h2, rfl, rfl, rfl, rfl, rfl, rfl⟩ | ⟨f, h1, rfl, rfl, rfl, rfl, rfl, rfl⟩ | ⟨f, h1, rfl, rfl, rfl, rfl, rfl, rfl⟩
    · have : ∀ f, f < 4 → ∀ s, s < 3 → gF hSl (173 + 3 * f) s = some (.int 5) ∧ gF hSl (227 + s) f = some (.int 5) := by decide +kernel
      exact ⟨5, (this _ h1 _ h2).1, (this _ h1 _ h2).2, by decide, by decide⟩
    · have : ∀ f, f < 4 → ∀ s, s < 4 → gF hSl (172 + 3 * f) s = some (.int 0) ∧ gF hSl (231 + f) s = some (.int 0) := by decide +kernel
      exact ⟨0, (this _ h1 _ h2).1, (this _ h1 _ h2).2, by decide, by decide⟩
    · have : ∀ f, f < 4 → gF hSl (171 + 3 * f) 2 = some (.int 0) ∧ gF hSl 235 f = some (.int 0) := by decide +kernel
      exact ⟨0, (this _ h1).1, (this _ h1).2, by decide, by decide⟩
    · have : ∀ f, f < 4 → gF hSl (171 + 3 * f) 3 = some (.int (-1)) ∧ gF hSl 236 f = some (.int (-1)) := by decide +kernel
      exact ⟨-1, (this _ h1).1, (this _ h1).2, by decide, by decide⟩
  · rw [e _ _ (by omega)]; decide +kernel
  · rw [e _ _ (by omega)]; decide +kernel
theorem relCu {c0 c1 : zC} : qRFu (hF c0 c1 hSl) ∧ qRCs (hF c0 c1 hSl) ∧ Rw (hF c0 c1 hSl) ∧ qRDy (hF c0 c1 hSl) := by
  have e : ∀ p k, 1 < p → gF (hF c0 c1 hSl) p k = gF hSl p k := fun p k hp => hF_gF hp
  refine ⟨⟨0, 4, ?_, ?_, ?_, Or.inl rfl, by decide, by decide, fun k hk => absurd hk (Nat.not_lt_zero _), fun i j hi => absurd hi (Nat.not_lt_zero _), fun k _ hk => ?_⟩, ⟨0, 4, ?_, ?_, ?_, Or.inl rfl, by decide, by decide, fun k hk => absurd hk (Nat.not_lt_zero _)⟩, fun i hi j hj => ?_, ⟨0, ?_, ?_⟩⟩
  · rw [e _ _ (by omega)]; decide +kernel
  · rw [e _ _ (by omega)]; decide +kernel
  · rw [e _ _ (by omega)]; decide +kernel
  · rw [e _ _ (by omega), e _ _ (by omega)]
    have : ∀ k, k < 40 → gF hSl (31 + k) 7 = some (.int 0) ∧ gF hSl (31 + k) 8 = some (.int 999) := by decide +kernel
    exact this k hk
  · rw [e _ _ (by omega)]; decide +kernel
  · rw [e _ _ (by omega)]; decide +kernel
  · rw [e _ _ (by omega)]; decide +kernel
  · rw [e _ _ (by omega), e _ _ (by omega)]
    have : ∀ i, i < 6 → ∀ j, j < 6 → gF hSl (19 + i) j = gF hSl (216 + i) j := by decide +kernel
    exact this i hi j hj
  · rw [e _ _ (by omega)]; decide +kernel
  · rw [e _ _ (by omega)]; decide +kernel
theorem rel0 {c0 c1 : zC} : lRr (hF c0 c1 hSl) := by
  have e : ∀ p k, 1 < p → gF (hF c0 c1 hSl) p k = gF hSl p k := fun p k hp => hF_gF hp
  refine ⟨⟨relCl.1, relCl.2.1, relCl.2.2.1, 0, (by rw [e _ _ (by omega)]; decide +kernel), by decide, by decide, ⟨fun a ha => absurd ha (Nat.not_lt_zero _), (show gF (hF c0 c1 hSl) 71 3 = some (.int 0) by rw [e _ _ (by omega)]; decide +kernel), (show gF (hF c0 c1 hSl) 71 4 = some (.int 0) by rw [e _ _ (by omega)]; decide +kernel)⟩, fun k hk => absurd hk (Nat.not_lt_zero _)⟩, ⟨relCu.1, relCu.2.1, 0, 4, (by rw [e _ _ (by omega)]; decide +kernel), (by rw [e _ _ (by omega)]; decide +kernel), (by rw [e _ _ (by omega)]; decide +kernel), Or.inl rfl, by decide, by decide, fun k hk => absurd hk (Nat.not_lt_zero _), fun i j q hi => absurd hi (Nat.not_lt_zero _), fun k _ hk => ?_⟩, ⟨relCu.2.2.1, fun i hi => ⟨0, ?_, ?_, by decide, by decide⟩, fun i hi => ⟨0, ?_, ?_, by decide, by decide⟩⟩, ⟨0, (by rw [e _ _ (by omega)]; decide +kernel), (by rw [e _ _ (by omega)]; decide +kernel), by decide, by decide⟩, 0, (by rw [e _ _ (by omega)]; decide +kernel), (by rw [e _ _ (by omega)]; decide +kernel)⟩
  · rw [e _ _ (by omega), e _ _ (by omega)]
    have : ∀ k, k < 24 → gF hSl (189 + k) 7 = some (.int (-1)) ∧ gF hSl (189 + k) 8 = some (.int (-1)) := by decide +kernel
    exact this k hk
  · rw [e _ _ (by omega)]
    have : ∀ i, i < 4 → gF hSl 30 i = some (.int 0) := by decide +kernel
    exact this i hi
  · rw [e _ _ (by omega)]
    have : ∀ i, i < 4 → gF hSl 222 i = some (.int 0) := by decide +kernel
    exact this i hi
  · rw [e _ _ (by omega)]
    have : ∀ i, i < 4 → gF hSl 25 i = some (.int 0) := by decide +kernel
    exact this i hi
  · rw [e _ _ (by omega)]
    have : ∀ i, i < 4 → gF hSl 237 i = some (.int 0) := by decide +kernel
    exact this i hi
theorem lR0 {c0 c1 : zC} {v : Value} : lR rhoS (nu0.set 5 v) (hF c0 c1 hSl) := ⟨fun _ _ e => e, rfl, rfl, rfl, Stc0, rel0⟩
theorem l_all {row : List Value} {x z : Int32} (hz : z = 0 ∨ z = 1) (hi : ∀ (k : Nat) (v : Value), row[k]? = some v → ∃ x : Int32, v = .int x) (hl : row.length ≤ 4096) : zE zrx zi 57 243 0 [(0, .ref 0)] [] (hF (96, row) (zEmp x z) h00) 0 lKK := by
  obtain ⟨-, g⟩ := zSt_ok (c0 := (96, row)) (c1 := zEmp x z) _ _ _ _ _ _ _ _ _ _ rS_ok ⟨rfl, rfl⟩
  refine g lKK ?_
  have hH : tHeap wT 0 rhoS (hF (96, row) (zEmp x z) hSl) := bHeap_ok hSl_ok (fun R hR => by
    cases (show some ((96, none, [], ((0, -2147483648, 2147483647), (0, -2147483648, 2147483647), 0, 0)) : tR) = some R from hR)
    refine ⟨rfl, by
      unfold tLenOk
      exact ⟨(fun m hm => by cases hm), (fun _ _ h => absurd h (by decide))⟩, fun k v hv => ?_⟩
    unfold tVal
    refine ⟨?_, trivial⟩
    obtain ⟨x, rfl⟩ := hi k v hv
    have := x.toInt_lt
    have := x.le_toInt
    show ∃ y : Int32, Value.int x = .int y ∧ (-2147483648 : Int) ≤ y.toInt ∧ y.toInt ≤ 2147483647
    exact ⟨x, rfl, by omega, by omega⟩) (zEmp_ok hz) (by
    show (row.length : Int) ≤ 2147483647
    omega) (by
    show ((4 : Nat) : Int) ≤ 2147483647
    omega)
  have hlen : (hF (96, row) (zEmp x z) hSl).length = 239 := by
    rw [hF_len]
    rfl
  exact l_turns 4104 false 0 rhoS _ lv0 _ 1642 0 0 0 0 0 (l_start rfl hl) hH rfl rfl rfl rfl ⟨0, by decide, by decide, by decide, by decide, by rw [hlen]; decide⟩ (by decide) lR0
