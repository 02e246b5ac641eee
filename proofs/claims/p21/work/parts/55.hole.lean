/-! ===== a run that never touches the start's place 0: the script's row may be anything ===== -/
section hol
variable {h h' : List zC} {c0 : zC} {pc pc' a b : Nat} {st st' : List Value}
theorem hole_get {q : Nat} {c : zC} (h0 : h[0]? = some (98, [])) (hq : h[q]? = some c) (hc : c.1 ≠ 98) : q ≠ 0 ∧ (h.set 0 c0)[q]? = some c := by
  have ne : q ≠ 0 := fun e => by
    rw [e, h0] at hq
    cases hq
    exact hc rfl
  exact ⟨ne, by rw [List.getElem?_set_ne (Ne.symm ne)]; exact hq⟩
theorem hole_set {q : Nat} {d : zC} (ne : q ≠ 0) (h0 : h[0]? = some (98, [])) : (h.set 0 c0).set q d = (h.set q d).set 0 c0 ∧ (h.set q d)[0]? = some (98, []) :=
  ⟨List.set_comm _ _ (Ne.symm ne), by rw [List.getElem?_set_ne ne]; exact h0⟩
def zHol (c0 : zC) (z z' : zOh) : Prop := ∀ (pc' : Nat) (st' : List Value) (h' : List zC), z = some (pc', st', h') → z' = some (pc', st', h'.set 0 c0) ∧ h'[0]? = some (98, [])
theorem zGet_h (h0 : h[0]? = some (98, [])) : zHol c0 (zGet a b pc st h) (zGet a b pc st (h.set 0 c0)) := by
  intro pc' st' h' hz
  unfold zGet at hz ⊢
  split at hz
  · split at hz
    · rename_i c hq
      split at hz
      · rename_i hc
        split at hz
        · rename_i v hv
          cases hz
          obtain ⟨-, e⟩ := hole_get (c0 := c0) h0 hq (by omega)
          try dsimp only
          rw [e]
          try dsimp only
          rw [if_pos hc, hv]
          exact ⟨rfl, h0⟩
        · cases hz
      · cases hz
    · cases hz
  · cases hz
theorem zPut_h (h0 : h[0]? = some (98, [])) : zHol c0 (zPut a b pc st h) (zPut a b pc st (h.set 0 c0)) := by
  intro pc' st' h' hz
  unfold zPut at hz ⊢
  split at hz
  · split at hz
    · rename_i c hq
      split at hz
      · rename_i hc
        cases hz
        obtain ⟨ne, e⟩ := hole_get (c0 := c0) h0 hq (by omega)
        obtain ⟨s1, s2⟩ := hole_set (c0 := c0) ne h0
        try dsimp only
        rw [e]
        try dsimp only
        rw [if_pos hc, s1]
        exact ⟨rfl, s2⟩
      · cases hz
    · cases hz
  · cases hz
theorem zLenA_h (h0 : h[0]? = some (98, [])) : zHol c0 (zLenA pc st h) (zLenA pc st (h.set 0 c0)) := by
  intro pc' st' h' hz
  unfold zLenA at hz ⊢
  split at hz
  · split at hz
    · rename_i c hq
      split at hz
      · rename_i hc
        cases hz
        obtain ⟨-, e⟩ := hole_get (c0 := c0) h0 hq (by omega)
        try dsimp only
        rw [e]
        try dsimp only
        rw [if_pos hc]
        exact ⟨rfl, h0⟩
      · cases hz
    · cases hz
  · cases hz
theorem zLdA_h {ok : Nat → Bool} (hok : ok 98 = false) (h0 : h[0]? = some (98, [])) : zHol c0 (zLdA ok pc st h) (zLdA ok pc st (h.set 0 c0)) := by
  intro pc' st' h' hz
  unfold zLdA at hz ⊢
  split at hz
  · split at hz
    · rename_i c hq
      split at hz
      · rename_i hc
        split at hz
        · rename_i v hv
          cases hz
          obtain ⟨-, e⟩ := hole_get (c0 := c0) h0 hq (fun z => by rw [z, hok] at hc; cases hc.1)
          try dsimp only
          rw [e]
          try dsimp only
          rw [if_pos hc, hv]
          exact ⟨rfl, h0⟩
        · cases hz
      · cases hz
    · cases hz
  · cases hz
theorem zStA_h {ok : Nat → Bool} {f : Nat → Int32 → Value} (hok : ok 98 = false) (h0 : h[0]? = some (98, [])) : zHol c0 (zStA ok f pc st h) (zStA ok f pc st (h.set 0 c0)) := by
  intro pc' st' h' hz
  unfold zStA at hz ⊢
  split at hz
  · split at hz
    · rename_i c hq
      split at hz
      · rename_i hc
        cases hz
        obtain ⟨ne, e⟩ := hole_get (c0 := c0) h0 hq (fun z => by rw [z, hok] at hc; cases hc.1)
        obtain ⟨s1, s2⟩ := hole_set (c0 := c0) ne h0
        try dsimp only
        rw [e]
        try dsimp only
        rw [if_pos hc, s1]
        exact ⟨rfl, s2⟩
      · cases hz
    · cases hz
  · cases hz
theorem zStR_h (h0 : h[0]? = some (98, [])) : zHol c0 (zStR pc st h) (zStR pc st (h.set 0 c0)) := by
  intro pc' st' h' hz
  unfold zStR at hz ⊢
  split at hz
  · split at hz
    · rename_i c cv hq hv
      split at hz
      · rename_i hc
        cases hz
        obtain ⟨ne, e⟩ := hole_get (c0 := c0) h0 hq (by omega)
        obtain ⟨-, e2⟩ := hole_get (c0 := c0) h0 hv (by omega)
        obtain ⟨s1, s2⟩ := hole_set (c0 := c0) ne h0
        try dsimp only
        rw [e, e2]
        try dsimp only
        rw [if_pos hc, s1]
        exact ⟨rfl, s2⟩
      · cases hz
    · cases hz
  · cases hz
theorem zCk_h (h0 : h[0]? = some (98, [])) : zHol c0 (zCk a pc st h) (zCk a pc st (h.set 0 c0)) := by
  intro pc' st' h' hz
  unfold zCk at hz ⊢
  split at hz
  · split at hz
    · rename_i c hq
      split at hz
      · rename_i hc
        cases hz
        obtain ⟨-, e⟩ := hole_get (c0 := c0) h0 hq (by omega)
        try dsimp only
        rw [e]
        try dsimp only
        rw [if_pos hc]
        exact ⟨rfl, h0⟩
      · cases hz
    · cases hz
  · cases hz
theorem zG_h {i : Instr} (h0 : h[0]? = some (98, [])) : zHol c0 (zG i a b pc st h) (zG i a b pc st (h.set 0 c0)) := by
  unfold zG
  split
  · exact zGet_h h0
  · exact zPut_h h0
  · exact zLenA_h h0
  · exact zLdA_h rfl h0
  · exact zLdA_h rfl h0
  · exact zLdA_h (by decide) h0
  · exact zStA_h rfl h0
  · exact zStA_h rfl h0
  · exact zStR_h h0
  · exact zCk_h h0
  · intro pc' st' h' hz
    cases hz
theorem app_h {x : List zC} (h0 : h[0]? = some (98, [])) : (h ++ x).set 0 c0 = h.set 0 c0 ++ x ∧ (h ++ x)[0]? = some (98, []) := by
  cases h with
  | nil => cases h0
  | cons y t => exact ⟨rfl, h0⟩
theorem zMk_h {i : Instr} {u u' : Nat} (h0 : h[0]? = some (98, [])) (hz : zMk i a pc st h u = some (pc', st', h', u')) : zMk i a pc st (h.set 0 c0) u = some (pc', st', h'.set 0 c0, u') ∧ h'[0]? = some (98, []) := by
  unfold zMk at hz ⊢
  split at hz
  · split at hz
    · rename_i hc
      cases hz
      obtain ⟨e1, e2⟩ := app_h (c0 := c0) (x := [(a, zDef a)]) h0
      try dsimp only
      rw [List.length_set, if_pos hc, e1]
      exact ⟨rfl, e2⟩
    · cases hz
  · split at hz
    · split at hz
      · rename_i hc
        cases hz
        try dsimp only
        rw [List.length_set, if_pos hc, (app_h (c0 := c0) h0).1]
        exact ⟨rfl, (app_h (c0 := c0) h0).2⟩
      · cases hz
    · cases hz
  · split at hz
    · split at hz
      · rename_i hc
        cases hz
        try dsimp only
        rw [List.length_set, if_pos hc, (app_h (c0 := c0) h0).1]
        exact ⟨rfl, (app_h (c0 := c0) h0).2⟩
      · cases hz
    · cases hz
  · split at hz
    · split at hz
      · rename_i hc
        cases hz
        try dsimp only
        rw [List.length_set, if_pos hc, (app_h (c0 := c0) h0).1]
        exact ⟨rfl, (app_h (c0 := c0) h0).2⟩
      · cases hz
    · cases hz
  · cases hz
def zRcb (b : Nat) (As : List Value) (h : List zC) : Bool := b / 10 == 0 || match As with
  | .ref q :: _ => match h[q]? with
    | some c => c.1 + 1 == b / 10 && decide (c.1 < 90)
    | none => false
  | _ => false
theorem zRc_h {As : List Value} (h0 : h[0]? = some (98, [])) (hb : zRcb b As h = true) : zRc b As (h.set 0 c0) := by
  unfold zRcb at hb
  rcases Bool.or_eq_true_iff.mp hb with e | e
  · exact Or.inl (by simpa using e)
  · refine Or.inr ?_
    split at e
    · split at e
      · rename_i c hq
        obtain ⟨e1, e2⟩ := Bool.and_eq_true_iff.mp e
        have e1 : c.1 + 1 = b / 10 := by simpa using e1
        have e2 := of_decide_eq_true e2
        obtain ⟨-, e3⟩ := hole_get (c0 := c0) h0 hq (by omega)
        dsimp only
        rw [e3]
        exact ⟨e1, e2⟩
      · cases e
    · cases e
end hol
/-- the run as a function: no throw, no check of kind 5; h's place 0 is the hole -/
def zEv : Nat → Nat → Nat → Nat → List (Nat × Value) → List Value → List zC → Nat → Option (Option Value × List zC × Nat)
  | 0, _, _, _, _, _, _, _ => none
  | f + 1, d, j, pc, lv, st, h, u => match zrx j pc with
    | none => none
    | some (i, a, b) => match zKe i a b with
      | 0 => match zP (zMl (zi j)) i pc lv st with
        | some (pc', lv', st') => zEv f d j pc' lv' st' h u
        | none => none
      | 1 => match zG i a b pc st h with
        | some (pc', st', h') => zEv f d j pc' lv st' h' u
        | none => none
      | 2 => match zMk i a pc st h u with
        | some (pc', st', h', u') => zEv f d j pc' lv st' h' u'
        | none => none
      | 3 => if zNp (zi a) ≤ st.length ∧ ((st.drop (zNp (zi a))).map (fun v => v.category)).sum ≤ 8 ∧ (lg_sl (st.take (zNp (zi a))).reverse).length ≤ zMl (zi a) ∧ zMl (zi a) ≤ 40 ∧ zRcb b (st.take (zNp (zi a))).reverse h = true then (match d with
        | 0 => none
        | d' + 1 => match zEv f d' a 0 (lv_args 0 (st.take (zNp (zi a))).reverse) [] h u with
          | some (v, h', u') => zEv f (d' + 1) j (pc + zLen i) lv (v.toList ++ st.drop (zNp (zi a))) h' u'
          | none => none) else none
      | 4 => match zRt (zRe (zi j)) i st with
        | some v => some (v, h, u)
        | none => none
      | 6 => match st with
        | .ref _ :: r => if (r.map (fun v => v.category)).sum ≤ 8 then zEv f d j (pc + 3) lv r h u else none
        | _ => none
      | 7 => zEv f d j (pc + zLen i) lv (zCo i a b :: st) h u
      | 8 => match i with
        | .putfield _ => match zPut 2 0 pc st h with
          | some (pc', st', h') => zEv f d j pc' lv st' h' u
          | none => none
        | .getfield _ => match zGet 2 0 pc st h with
          | some (pc', st', h') => zEv f d j pc' lv st' h' u
          | none => none
        | _ => none
      | _ => none
theorem zEv_ok {c0 : zC} : ∀ (f d j pc : Nat) (lv : List (Nat × Value)) (st : List Value) (h : List zC) (u : Nat) (v : Option Value) (h' : List zC) (u' : Nat), zEv f d j pc lv st h u = some (v, h', u') → h[0]? = some (98, []) →
    h'[0]? = some (98, []) ∧ ∀ K : zK, K (.inl v) (h'.set 0 c0) u' → zE zrx zi d j pc lv st (h.set 0 c0) u K
  | 0, _, _, _, _, _, _, _, _, _, _, hz, _ => by cases hz
  | f + 1, d, j, pc, lv, st, h, u, v, h', u', hz, h0 => by
    have ih := @zEv_ok c0 f
    unfold zEv at hz
    split at hz
    · cases hz
    · rename_i i a b hrow
      split at hz
      · rename_i hk
        split at hz
        · rename_i hp
          obtain ⟨e, g⟩ := ih _ _ _ _ _ _ _ _ _ _ hz h0
          exact ⟨e, fun K k => zE_0 hrow hk hp (g K k)⟩
        · cases hz
      · rename_i hk
        split at hz
        · rename_i hp
          obtain ⟨q, h1⟩ := zG_h (c0 := c0) h0 _ _ _ hp
          obtain ⟨e, g⟩ := ih _ _ _ _ _ _ _ _ _ _ hz h1
          exact ⟨e, fun K k => zE_1 hrow hk q (g K k)⟩
        · cases hz
      · rename_i hk
        split at hz
        · rename_i hp
          obtain ⟨q, h1⟩ := zMk_h (c0 := c0) h0 hp
          obtain ⟨e, g⟩ := ih _ _ _ _ _ _ _ _ _ _ hz h1
          exact ⟨e, fun K k => zE_2 hrow hk q (g K k)⟩
        · cases hz
      · rename_i hk
        split at hz
        · rename_i hc
          obtain ⟨a1, a2, a3, a4, a5⟩ := hc
          cases d with
          | zero => cases hz
          | succ d' =>
            dsimp only at hz
            split at hz
            · rename_i v1 h1 u1 hin
              obtain ⟨e1, g1⟩ := ih _ _ _ _ _ _ _ _ _ _ hin h0
              obtain ⟨e2, g2⟩ := ih _ _ _ _ _ _ _ _ _ _ hz e1
              exact ⟨e2, fun K k => zE_3 hrow hk a1 a2 a3 a4 (zRc_h h0 a5) (g1 _ (g2 K k))⟩
            · cases hz
        · cases hz
      · rename_i hk
        split at hz
        · rename_i hp
          cases hz
          exact ⟨h0, fun K k => zE_4 hrow hk hp k⟩
        · cases hz
      · rename_i hk
        split at hz
        · split at hz
          · rename_i hr
            obtain ⟨e, g⟩ := ih _ _ _ _ _ _ _ _ _ _ hz h0
            exact ⟨e, fun K k => zE_6 hrow hk rfl hr (g K k)⟩
          · cases hz
        · cases hz
      · rename_i hk
        obtain ⟨e, g⟩ := ih _ _ _ _ _ _ _ _ _ _ hz h0
        exact ⟨e, fun K k => zE_7 hrow hk (g K k)⟩
      · rename_i hk
        split at hz
        · split at hz
          · rename_i hp
            obtain ⟨q, h1⟩ := zPut_h (c0 := c0) h0 _ _ _ hp
            obtain ⟨e, g⟩ := ih _ _ _ _ _ _ _ _ _ _ hz h1
            exact ⟨e, fun K k => zE_8 (os := [(_, _, _, u)]) hrow hk (by unfold zX; dsimp only; rw [q]; rfl) (fun o ho => by cases List.mem_singleton.mp ho; exact g K k)⟩
          · cases hz
        · split at hz
          · rename_i hp
            obtain ⟨q, h1⟩ := zGet_h (c0 := c0) h0 _ _ _ hp
            obtain ⟨e, g⟩ := ih _ _ _ _ _ _ _ _ _ _ hz h1
            exact ⟨e, fun K k => zE_8 (os := [(_, _, _, u)]) hrow hk (by unfold zX; dsimp only; rw [q]; rfl) (fun o ho => by cases List.mem_singleton.mp ho; exact g K k)⟩
          · cases hz
        · cases hz
      · cases hz
