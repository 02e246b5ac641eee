/-! ===== the law's run from its first instruction ===== -/
def zEmp (x z : Int32) : zC := (0, [.ref 2, .int 0, .int x, .int z])
theorem zEmp_ok {x z : Int32} (hz : z = 0 ∨ z = 1) : ∀ R, wR wT 1 = some R → tCell 0 rhoS R (zEmp x z) := fun R hR => by
  cases (show some ((0, some 4, [((3, 2, 0), (3, 2, 0), 0, 0), ((0, 0, 0), (0, 0, 0), 0, 0), ((0, -2147483648, 2147483647), (0, -2147483648, 2147483647), 0, 0), ((0, 0, 1), (0, 0, 1), 0, 0)], ((9, 0, 0), (9, 0, 0), 0, 0)) : tR) = some R from hR)
  refine ⟨rfl, by
    unfold tLenOk
    exact ⟨(fun m hm => by cases hm; rfl), (fun h _ _ => by cases h)⟩, fun k v hv => ?_⟩
  match k, hv with
  | 0, hv =>
    cases hv
    exact ⟨⟨2, rfl, rfl⟩, trivial⟩
  | 1, hv =>
    cases hv
    exact ⟨⟨0, rfl, by decide, by decide⟩, trivial⟩
  | 2, hv =>
    cases hv
    have := x.toInt_lt
    have := x.le_toInt
    have q : ∃ y : Int32, Value.int x = .int y ∧ (-2147483648 : Int) ≤ y.toInt ∧ y.toInt ≤ 2147483647 := ⟨x, rfl, by omega, by omega⟩
    exact ⟨q, trivial⟩
  | 3, hv =>
    cases hv
    refine ⟨⟨z, rfl, ?_, ?_⟩, trivial⟩
    · rcases hz with rfl | rfl <;> decide
    · rcases hz with rfl | rfl <;> decide
  | n + 4, hv => cases hv
theorem l_all {row : List Value} {x z : Int32} (hz : z = 0 ∨ z = 1) (hi : ∀ (k : Nat) (v : Value), row[k]? = some v → ∃ x : Int32, v = .int x) (hl : row.length ≤ 4096) : zE zrx zi 57 243 0 [(0, .ref 0)] [] (hF (96, row) (zEmp x z) h00) 0 lKK := by
  obtain ⟨-, g⟩ := zSt_ok (c0 := (96, row)) (c1 := zEmp x z) _ _ _ _ _ _ _ _ _ _ rS_ok ⟨rfl, rfl⟩
  refine g lKK ?_
  have hH : tHeap wT 0 rhoS (hF (96, row) (zEmp x z) hSl) := bHeap_ok hSl_ok (fun R hR => by
    cases (show some ((96, none, [], ((0, -2147483648, 2147483647), (0, -2147483648, 2147483647), 0, 0)) : tR) = some R from hR)
    refine ⟨rfl, by
      unfold tLenOk
      exact ⟨(fun m hm => by cases hm), (fun _ _ h => absurd h (by decide))⟩, fun k v hv => ?_⟩
    unfold tVal
    refine ⟨?_, trivial⟩
    obtain ⟨x, rfl⟩ := hi k v hv
    have := x.toInt_lt
    have := x.le_toInt
    show ∃ y : Int32, Value.int x = .int y ∧ (-2147483648 : Int) ≤ y.toInt ∧ y.toInt ≤ 2147483647
    exact ⟨x, rfl, by omega, by omega⟩) (zEmp_ok hz) (by
    show (row.length : Int) ≤ 2147483647
    omega) (by
    show ((4 : Nat) : Int) ≤ 2147483647
    omega)
  have hlen : (hF (96, row) (zEmp x z) hSl).length = 239 := by
    rw [hF_len]
    rfl
  exact l_turns 4104 false 0 rhoS _ lv0 _ 1642 0 0 0 0 0 (l_start rfl hl) hH rfl rfl rfl rfl ⟨0, by decide, by decide, by decide, by decide, by rw [hlen]; decide⟩ (by decide)
