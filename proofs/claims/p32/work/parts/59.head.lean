/-! ===== the loop's head at the start ===== -/
def nu0 : List Value := [.ref 0, .ref 16, .ref 213, .ref 238, .int 0, .int 0, .ref 223, .int 0, .ref 224, .int 0, .ref 225, .int 0, .int 0, .int 0, .ref 1]
def lv0 : List (Nat × Value) := [(4, .int 0), (3, .ref 238), (2, .ref 213), (1, .ref 16), (0, .ref 0)]
theorem en0 : (List.range 15).all (fun s => match nu0[s]? with
  | some v => bHas rhoS (sGet lS_e.1 s) v
  | none => false) = true := by decide +kernel
theorem lo0 : lS_e.2.1.all (fun e => e.2 != 5 && (zld lv0 e.1).isSome && decide (zld lv0 e.1 = nu0[e.2]?)) = true := by decide +kernel
/-- facts of the kinds 0 and 2, without the symbol 5 -/
def bF (f : sF) : Bool := (f == (3, 0, 5, 0, 0)) || match f.1 with
  | 0 => f.2.1 != 5 && f.2.2.1 != 5 && (match nu0[f.2.1]?, nu0[f.2.2.1]? with
    | some (.int x), some (.int y) => decide (x.toInt ≤ y.toInt + f.2.2.2.2)
    | _, _ => false)
  | 2 => f.2.1 != 5 && f.2.2.2.1 != 5 && (match nu0[f.2.1]?, nu0[f.2.2.2.1]? with
    | some (.ref a), some v => decide (1 < a) && (match hSl[a]? with
      | some c => decide (c.2[f.2.2.1]? = some v)
      | none => false)
    | _, _ => false)
  | 18 => decide (f.2.2.2.2 = 0) && (f.2.1 != 5 && f.2.2.1 != 5 && (match nu0[f.2.1]?, nu0[f.2.2.1]? with
    | some (.ref a), some (.ref b) => decide (1 < a) && (decide (1 < b) && (match hSl[a]?, hSl[b]? with
      | some c, some d => decide (c.2 = d.2)
      | _, _ => false))
    | _, _ => false))
  | 19 => f.2.1 != 5 && f.2.2.1 != 5 && (match nu0[f.2.1]?, nu0[f.2.2.1]? with
    | some (.ref a), some (.ref b) => decide (a ≠ b)
    | _, _ => false)
  | _ => false
theorem bF0 : lS_e.2.2.2.1.all bF = true := by decide +kernel
theorem l_start {row : List Value} {c0 c1 : zC} (hc : c0.2 = row) (hl : row.length ≤ 4096) : gA (hF c0 c1 hSl).length 1642 rhoS (nu0.set 5 (.int (Int32.ofNat row.length))) lS_e lv0 [] (hF c0 c1 hSl) 1642 := by
  have hx : (Int32.ofNat row.length).toInt = row.length := by
    rw [Int32.toInt_ofNat_of_lt (by omega)]
  have n5 : ∀ {s : Nat}, s ≠ 5 → (nu0.set 5 (.int (Int32.ofNat row.length)))[s]? = nu0[s]? := fun h => List.getElem?_set_ne (Ne.symm h)
  have n55 : (nu0.set 5 (.int (Int32.ofNat row.length)))[5]? = some (.int (Int32.ofNat row.length)) := rfl
  refine ⟨⟨rfl, fun s v hv => ?_⟩, fun e he => ?_, rfl, fun f hf => ?_, ?_, ?_⟩
  · by_cases z : s = 5
    · subst z
      rw [n55] at hv
      cases hv
      show ∃ x : Int32, _ = Value.int x ∧ (0 : Int) ≤ x.toInt ∧ x.toInt ≤ 4096
      exact ⟨_, rfl, by omega, by omega⟩
    · rw [n5 z] at hv
      have q := List.all_eq_true.mp en0 s (List.mem_range.mpr (List.getElem?_eq_some_iff.mp hv).1)
      rw [hv] at q
      exact bHas_ok _ _ q
  · have q := List.all_eq_true.mp lo0 e he
    obtain ⟨q1, q3⟩ := Bool.and_eq_true_iff.mp q
    obtain ⟨q1, q2⟩ := Bool.and_eq_true_iff.mp q1
    have q3 := of_decide_eq_true q3
    have q1 : e.2 ≠ 5 := by simpa using q1
    obtain ⟨v, hv⟩ := Option.isSome_iff_exists.mp q2
    refine ⟨v, hv, ?_⟩
    rw [n5 q1, ← q3, hv]
  · have q := List.all_eq_true.mp bF0 f hf
    unfold bF at q
    rcases Bool.or_eq_true_iff.mp q with e | q
    · have e : f = (3, 0, 5, 0, 0) := by simpa using e
      subst e
      show ∃ (a : Nat) (c : zC) (x : Int32), _ = some (Value.ref a) ∧ _ ∧ _ = some (Value.int x) ∧ x.toInt = c.2.length
      exact ⟨0, c0, _, rfl, rfl, n55, by rw [hx, hc]⟩
    · unfold fHold
      split at q
      · rename_i e0
        rw [e0]
        obtain ⟨q1, q3⟩ := Bool.and_eq_true_iff.mp q
        obtain ⟨q1, q2⟩ := Bool.and_eq_true_iff.mp q1
        have q1 : f.2.1 ≠ 5 := by simpa using q1
        have q2 : f.2.2.1 ≠ 5 := by simpa using q2
        split at q3
        · rename_i x y e1 e2
          exact ⟨x, y, by rw [n5 q1, e1], by rw [n5 q2, e2], of_decide_eq_true q3⟩
        · cases q3
      · rename_i e0
        rw [e0]
        obtain ⟨q1, q3⟩ := Bool.and_eq_true_iff.mp q
        obtain ⟨q1, q2⟩ := Bool.and_eq_true_iff.mp q1
        have q1 : f.2.1 ≠ 5 := by simpa using q1
        have q2 : f.2.2.2.1 ≠ 5 := by simpa using q2
        split at q3
        · rename_i a v e1 e2
          obtain ⟨q4, q5⟩ := Bool.and_eq_true_iff.mp q3
          have q4 : 1 < a := of_decide_eq_true q4
          split at q5
          · rename_i c e3
            exact ⟨a, c, v, by rw [n5 q1, e1], by rw [hF_get q4, e3], of_decide_eq_true q5, by rw [n5 q2, e2]⟩
          · cases q5
        · cases q3
      · rename_i e0
        rw [e0]
        obtain ⟨-, q⟩ := Bool.and_eq_true_iff.mp q
        obtain ⟨q1, q3⟩ := Bool.and_eq_true_iff.mp q
        obtain ⟨q1, q2⟩ := Bool.and_eq_true_iff.mp q1
        have q1 : f.2.1 ≠ 5 := by simpa using q1
        have q2 : f.2.2.1 ≠ 5 := by simpa using q2
        split at q3
        · rename_i a b e1 e2
          obtain ⟨q4, q5⟩ := Bool.and_eq_true_iff.mp q3
          obtain ⟨q5, q6⟩ := Bool.and_eq_true_iff.mp q5
          have q4 : 1 < a := of_decide_eq_true q4
          have q5 : 1 < b := of_decide_eq_true q5
          split at q6
          · rename_i c d e3 e4
            have q7 := of_decide_eq_true q6
            exact ⟨a, b, c, d, by rw [n5 q1, e1], by rw [hF_get q4, e3], by rw [n5 q2, e2], by rw [hF_get q5, e4], fun k _ => by rw [q7]⟩
          · cases q6
        · cases q3
      · rename_i e0
        rw [e0]
        obtain ⟨q1, q3⟩ := Bool.and_eq_true_iff.mp q
        obtain ⟨q1, q2⟩ := Bool.and_eq_true_iff.mp q1
        have q1 : f.2.1 ≠ 5 := by simpa using q1
        have q2 : f.2.2.1 ≠ 5 := by simpa using q2
        split at q3
        · rename_i a b e1 e2
          exact ⟨a, b, by rw [n5 q1, e1], by rw [n5 q2, e2], of_decide_eq_true q3⟩
        · cases q3
      · cases q
  · show ((hF c0 c1 hSl).length : Int) - (hF c0 c1 hSl).length ≤ 0
    omega
  · show ((1642 : Nat) : Int) - (1642 : Nat) ≤ 0
    omega
