/-! ===== the law's run from its first instruction ===== -/
theorem l_all {row : List Value} (hi : ∀ (k : Nat) (v : Value), row[k]? = some v → ∃ x : Int32, v = .int x) (hl : row.length ≤ 4096) : zE zrx zi 57 242 0 [(0, .ref 0)] [] (h00.set 0 (96, row)) 0 lKK := by
  obtain ⟨-, g⟩ := zSt_ok (c0 := (96, row)) _ _ _ _ _ _ _ _ _ _ rS_ok rfl
  refine g lKK ?_
  have hH : tHeap wT 0 rhoS (hSl.set 0 (96, row)) := bHeap_ok hSl_ok (fun R hR => by
    cases (show some ((96, none, [], ((0, -2147483648, 2147483647), (0, -2147483648, 2147483647), 0, 0)) : tR) = some R from hR)
    refine ⟨rfl, by
      unfold tLenOk
      exact ⟨(fun m hm => by cases hm), (fun _ _ h => absurd h (by decide))⟩, fun k v hv => ?_⟩
    unfold tVal
    refine ⟨?_, trivial⟩
    obtain ⟨x, rfl⟩ := hi k v hv
    have := x.toInt_lt
    have := x.le_toInt
    show ∃ y : Int32, Value.int x = .int y ∧ (-2147483648 : Int) ≤ y.toInt ∧ y.toInt ≤ 2147483647
    exact ⟨x, rfl, by omega, by omega⟩) (by
    show (row.length : Int) ≤ 2147483647
    omega)
  have hlen : (hSl.set 0 (96, row)).length = 239 := by
    rw [List.length_set]
    rfl
  exact l_turns 4104 false 0 rhoS _ lv0 _ 1642 0 0 0 0 0 (l_start rfl hl) hH rfl rfl rfl rfl ⟨0, by decide, by decide, by decide, by decide, by rw [hlen]; decide⟩ (by decide)
