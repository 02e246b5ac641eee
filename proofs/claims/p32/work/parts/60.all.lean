/-! ===== the law's run from its first instruction ===== -/
def zEmp (x z : Int32) : zC := (0, [.ref 2, .int 0, .int x, .int z])
theorem zEmp_ok {x z : Int32} (hz : z = 0 ∨ z = 1) : ∀ R, wR wT 1 = some R → tCell 0 rhoS R (zEmp x z) := fun R hR => by
  cases (show some ((0, some 4, [((3, 2, 0), (3, 2, 0), 0, 0), ((0, 0, 0), (0, 0, 0), 0, 0), ((0, -2147483648, 2147483647), (0, -2147483648, 2147483647), 0, 0), ((0, 0, 1), (0, 0, 1), 0, 0)], ((9, 0, 0), (9, 0, 0), 0, 0)) : tR) = some R from hR)
  refine ⟨rfl, by
    unfold tLenOk
    exact ⟨(fun m hm => by cases hm; rfl), (fun h _ _ => by cases h)⟩, fun k v hv => ?_⟩
  match k, hv with
  | 0, hv =>
    cases hv
    exact ⟨⟨2, rfl, rfl⟩, trivial⟩
  | 1, hv =>
    cases hv
    exact ⟨⟨0, rfl, by decide, by decide⟩, trivial⟩
  | 2, hv =>
    cases hv
    have := x.toInt_lt
    have := x.le_toInt
    have q : ∃ y : Int32, Value.int x = .int y ∧ (-2147483648 : Int) ≤ y.toInt ∧ y.toInt ≤ 2147483647 := ⟨x, rfl, by omega, by omega⟩
    exact ⟨q, trivial⟩
  | 3, hv =>
    cases hv
    refine ⟨⟨z, rfl, ?_, ?_⟩, trivial⟩
    · rcases hz with rfl | rfl <;> decide
    · rcases hz with rfl | rfl <;> decide
  | n + 4, hv => cases hv
theorem hF_gF {c0 c1 : zC} {h : List zC} {p k : Nat} (hp : 1 < p) : gF (hF c0 c1 h) p k = gF h p k := by
  unfold gF
  rw [hF_get hp]
theorem st0 : stL.all (fun e => decide (1 < e.1) && decide (gF hSl e.1 e.2.1 = some (.ref e.2.2))) = true := by decide +kernel
theorem Stc0 {c0 c1 : zC} : Stc (hF c0 c1 hSl) := ⟨by rw [hF_len]; exact (by decide +kernel : 239 ≤ hSl.length), fun e he => by
  obtain ⟨a, b⟩ := Bool.and_eq_true_iff.mp (List.all_eq_true.mp st0 e he)
  rw [hF_gF (of_decide_eq_true a)]
  exact of_decide_eq_true b⟩
theorem rel0 {c0 c1 : zC} : lRr (hF c0 c1 hSl) := by
  have e : ∀ p k, 1 < p → gF (hF c0 c1 hSl) p k = gF hSl p k := fun p k hp => hF_gF hp
  refine ⟨⟨0, 4, ?_, ?_, ?_, Or.inl rfl, by decide, by decide, fun k hk => absurd hk (Nat.not_lt_zero _), fun i j hi => absurd hi (Nat.not_lt_zero _), fun k _ hk => ?_⟩, ⟨0, ?_, ?_⟩, fun i hi => ⟨10, ?_, ?_, by decide, by decide⟩⟩
  · rw [e _ _ (by omega)]; decide +kernel
  · rw [e _ _ (by omega)]; decide +kernel
  · rw [e _ _ (by omega)]; decide +kernel
  · rw [e _ _ (by omega), e _ _ (by omega)]
    have : ∀ k, k < 40 → gF hSl (31 + k) 7 = some (.int 0) ∧ gF hSl (31 + k) 8 = some (.int 999) := by decide +kernel
    exact this k hk
  · rw [e _ _ (by omega)]; decide +kernel
  · rw [e _ _ (by omega)]; decide +kernel
  · rw [e _ _ (by omega)]
    have : ∀ i, i < 6 → gF hSl 17 i = some (.int 10) := by decide +kernel
    exact this i hi
  · rw [e _ _ (by omega)]
    have : ∀ i, i < 6 → gF hSl 214 i = some (.int 10) := by decide +kernel
    exact this i hi
theorem lR0 {c0 c1 : zC} {v : Value} : lR rhoS (nu0.set 5 v) (hF c0 c1 hSl) := ⟨fun _ _ e => e, rfl, rfl, rfl, Stc0, rel0⟩
theorem l_all {row : List Value} {x z : Int32} (hz : z = 0 ∨ z = 1) (hi : ∀ (k : Nat) (v : Value), row[k]? = some v → ∃ x : Int32, v = .int x) (hl : row.length ≤ 4096) : zE zrx zi 57 243 0 [(0, .ref 0)] [] (hF (96, row) (zEmp x z) h00) 0 lKK := by
  obtain ⟨-, g⟩ := zSt_ok (c0 := (96, row)) (c1 := zEmp x z) _ _ _ _ _ _ _ _ _ _ rS_ok ⟨rfl, rfl⟩
  refine g lKK ?_
  have hH : tHeap wT 0 rhoS (hF (96, row) (zEmp x z) hSl) := bHeap_ok hSl_ok (fun R hR => by
    cases (show some ((96, none, [], ((0, -2147483648, 2147483647), (0, -2147483648, 2147483647), 0, 0)) : tR) = some R from hR)
    refine ⟨rfl, by
      unfold tLenOk
      exact ⟨(fun m hm => by cases hm), (fun _ _ h => absurd h (by decide))⟩, fun k v hv => ?_⟩
    unfold tVal
    refine ⟨?_, trivial⟩
    obtain ⟨x, rfl⟩ := hi k v hv
    have := x.toInt_lt
    have := x.le_toInt
    show ∃ y : Int32, Value.int x = .int y ∧ (-2147483648 : Int) ≤ y.toInt ∧ y.toInt ≤ 2147483647
    exact ⟨x, rfl, by omega, by omega⟩) (zEmp_ok hz) (by
    show (row.length : Int) ≤ 2147483647
    omega) (by
    show ((4 : Nat) : Int) ≤ 2147483647
    omega)
  have hlen : (hF (96, row) (zEmp x z) hSl).length = 239 := by
    rw [hF_len]
    rfl
  exact l_turns 4104 false 0 rhoS _ lv0 _ 1642 0 0 0 0 0 (l_start rfl hl) hH rfl rfl rfl rfl ⟨0, by decide, by decide, by decide, by decide, by rw [hlen]; decide⟩ (by decide) lR0
