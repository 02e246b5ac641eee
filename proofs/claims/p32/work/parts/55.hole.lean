/-! ===== a run that never touches the start's places 0 and 1: the script's row and the empty text may be anything ===== -/
def hO (h : List zC) : Prop := h[0]? = some (98, []) ∧ h[1]? = some (98, [])
def hF (c0 c1 : zC) (h : List zC) : List zC := (h.set 0 c0).set 1 c1
theorem hF_len {c0 c1 : zC} {h : List zC} : (hF c0 c1 h).length = h.length := by
  unfold hF
  rw [List.length_set, List.length_set]
theorem hF_get {c0 c1 : zC} {h : List zC} {q : Nat} (hq : 1 < q) : (hF c0 c1 h)[q]? = h[q]? := by
  unfold hF
  rw [List.getElem?_set_ne (by omega), List.getElem?_set_ne (by omega)]
section hol
variable {h h' : List zC} {c0 c1 : zC} {pc pc' a b : Nat} {st st' : List Value}
theorem hole_get {q : Nat} {c : zC} (h0 : hO h) (hq : h[q]? = some c) (hc : c.1 ≠ 98) : 1 < q ∧ (hF c0 c1 h)[q]? = some c := by
  obtain ⟨k0, k1⟩ := h0
  have n0 : q ≠ 0 := fun e => by
    rw [e, k0] at hq
    cases hq
    exact hc rfl
  have n1 : q ≠ 1 := fun e => by
    rw [e, k1] at hq
    cases hq
    exact hc rfl
  have ne : 1 < q := by omega
  exact ⟨ne, by rw [hF_get ne]; exact hq⟩
theorem hole_set {q : Nat} {d : zC} (ne : 1 < q) (h0 : hO h) : (hF c0 c1 h).set q d = hF c0 c1 (h.set q d) ∧ hO (h.set q d) := by
  obtain ⟨k0, k1⟩ := h0
  refine ⟨?_, ?_, ?_⟩
  · unfold hF
    rw [List.set_comm _ _ (show 1 ≠ q by omega), List.set_comm _ _ (show 0 ≠ q by omega)]
  · rw [List.getElem?_set_ne (by omega)]; exact k0
  · rw [List.getElem?_set_ne (by omega)]; exact k1
def zHol (c0 c1 : zC) (z z' : zOh) : Prop := ∀ (pc' : Nat) (st' : List Value) (h' : List zC), z = some (pc', st', h') → z' = some (pc', st', hF c0 c1 h') ∧ hO h'
theorem zGet_h (h0 : hO h) : zHol c0 c1 (zGet a b pc st h) (zGet a b pc st (hF c0 c1 h)) := by
  intro pc' st' h' hz
  unfold zGet at hz ⊢
  split at hz
  · split at hz
    · rename_i c hq
      split at hz
      · rename_i hc
        split at hz
        · rename_i v hv
          cases hz
          obtain ⟨-, e⟩ := hole_get (c0 := c0) (c1 := c1) h0 hq (by omega)
          try dsimp only
          rw [e]
          try dsimp only
          rw [if_pos hc, hv]
          exact ⟨rfl, h0⟩
        · cases hz
      · cases hz
    · cases hz
  · cases hz
theorem zPut_h (h0 : hO h) : zHol c0 c1 (zPut a b pc st h) (zPut a b pc st (hF c0 c1 h)) := by
  intro pc' st' h' hz
  unfold zPut at hz ⊢
  split at hz
  · split at hz
    · rename_i c hq
      split at hz
      · rename_i hc
        cases hz
        obtain ⟨ne, e⟩ := hole_get (c0 := c0) (c1 := c1) h0 hq (by omega)
        obtain ⟨s1, s2⟩ := hole_set (c0 := c0) (c1 := c1) ne h0
        try dsimp only
        rw [e]
        try dsimp only
        rw [if_pos hc, s1]
        exact ⟨rfl, s2⟩
      · cases hz
    · cases hz
  · cases hz
theorem zLenA_h (h0 : hO h) : zHol c0 c1 (zLenA pc st h) (zLenA pc st (hF c0 c1 h)) := by
  intro pc' st' h' hz
  unfold zLenA at hz ⊢
  split at hz
  · split at hz
    · rename_i c hq
      split at hz
      · rename_i hc
        cases hz
        obtain ⟨-, e⟩ := hole_get (c0 := c0) (c1 := c1) h0 hq (by omega)
        try dsimp only
        rw [e]
        try dsimp only
        rw [if_pos hc]
        exact ⟨rfl, h0⟩
      · cases hz
    · cases hz
  · cases hz
theorem zLdA_h {ok : Nat → Bool} (hok : ok 98 = false) (h0 : hO h) : zHol c0 c1 (zLdA ok pc st h) (zLdA ok pc st (hF c0 c1 h)) := by
  intro pc' st' h' hz
  unfold zLdA at hz ⊢
  split at hz
  · split at hz
    · rename_i c hq
      split at hz
      · rename_i hc
        split at hz
        · rename_i v hv
          cases hz
          obtain ⟨-, e⟩ := hole_get (c0 := c0) (c1 := c1) h0 hq (fun z => by rw [z, hok] at hc; cases hc.1)
          try dsimp only
          rw [e]
          try dsimp only
          rw [if_pos hc, hv]
          exact ⟨rfl, h0⟩
        · cases hz
      · cases hz
    · cases hz
  · cases hz
theorem zStA_h {ok : Nat → Bool} {f : Nat → Int32 → Value} (hok : ok 98 = false) (h0 : hO h) : zHol c0 c1 (zStA ok f pc st h) (zStA ok f pc st (hF c0 c1 h)) := by
  intro pc' st' h' hz
  unfold zStA at hz ⊢
  split at hz
  · split at hz
    · rename_i c hq
      split at hz
      · rename_i hc
        cases hz
        obtain ⟨ne, e⟩ := hole_get (c0 := c0) (c1 := c1) h0 hq (fun z => by rw [z, hok] at hc; cases hc.1)
        obtain ⟨s1, s2⟩ := hole_set (c0 := c0) (c1 := c1) ne h0
        try dsimp only
        rw [e]
        try dsimp only
        rw [if_pos hc, s1]
        exact ⟨rfl, s2⟩
      · cases hz
    · cases hz
  · cases hz
theorem zStR_h (h0 : hO h) : zHol c0 c1 (zStR pc st h) (zStR pc st (hF c0 c1 h)) := by
  intro pc' st' h' hz
  unfold zStR at hz ⊢
  split at hz
  · split at hz
    · rename_i c cv hq hv
      split at hz
      · rename_i hc
        cases hz
        obtain ⟨ne, e⟩ := hole_get (c0 := c0) (c1 := c1) h0 hq (by omega)
        obtain ⟨-, e2⟩ := hole_get (c0 := c0) (c1 := c1) h0 hv (by omega)
        obtain ⟨s1, s2⟩ := hole_set (c0 := c0) (c1 := c1) ne h0
        try dsimp only
        rw [e, e2]
        try dsimp only
        rw [if_pos hc, s1]
        exact ⟨rfl, s2⟩
      · cases hz
    · cases hz
  · cases hz
theorem zCk_h (h0 : hO h) : zHol c0 c1 (zCk a pc st h) (zCk a pc st (hF c0 c1 h)) := by
  intro pc' st' h' hz
  unfold zCk at hz ⊢
  split at hz
  · split at hz
    · rename_i c hq
      split at hz
      · rename_i hc
        cases hz
        obtain ⟨-, e⟩ := hole_get (c0 := c0) (c1 := c1) h0 hq (by omega)
        try dsimp only
        rw [e]
        try dsimp only
        rw [if_pos hc]
        exact ⟨rfl, h0⟩
      · cases hz
    · cases hz
  · cases hz
theorem zG_h {i : Instr} (h0 : hO h) : zHol c0 c1 (zG i a b pc st h) (zG i a b pc st (hF c0 c1 h)) := by
  unfold zG
  split
  · exact zGet_h h0
  · exact zPut_h h0
  · exact zLenA_h h0
  · exact zLdA_h rfl h0
  · exact zLdA_h rfl h0
  · exact zLdA_h (by decide) h0
  · exact zStA_h rfl h0
  · exact zStA_h rfl h0
  · exact zStR_h h0
  · exact zCk_h h0
  · intro pc' st' h' hz
    cases hz
theorem app_h {x : List zC} (h0 : hO h) : hF c0 c1 (h ++ x) = hF c0 c1 h ++ x ∧ hO (h ++ x) := by
  obtain ⟨k0, k1⟩ := h0
  cases h with
  | nil => cases k0
  | cons y t =>
    cases t with
    | nil => cases k1
    | cons z r => exact ⟨rfl, k0, k1⟩
theorem zMk_h {i : Instr} {u u' : Nat} (h0 : hO h) (hz : zMk i a pc st h u = some (pc', st', h', u')) : zMk i a pc st (hF c0 c1 h) u = some (pc', st', hF c0 c1 h', u') ∧ hO h' := by
  unfold zMk at hz ⊢
  split at hz
  · split at hz
    · rename_i hc
      cases hz
      obtain ⟨e1, e2⟩ := app_h (c0 := c0) (c1 := c1) (x := [(a, zDef a)]) h0
      try dsimp only
      rw [hF_len, if_pos hc, e1]
      exact ⟨rfl, e2⟩
    · cases hz
  · split at hz
    · split at hz
      · rename_i hc
        cases hz
        try dsimp only
        rw [hF_len, if_pos hc, (app_h (c0 := c0) (c1 := c1) h0).1]
        exact ⟨rfl, (app_h (c0 := c0) (c1 := c1) h0).2⟩
      · cases hz
    · cases hz
  · split at hz
    · split at hz
      · rename_i hc
        cases hz
        try dsimp only
        rw [hF_len, if_pos hc, (app_h (c0 := c0) (c1 := c1) h0).1]
        exact ⟨rfl, (app_h (c0 := c0) (c1 := c1) h0).2⟩
      · cases hz
    · cases hz
  · split at hz
    · split at hz
      · rename_i hc
        cases hz
        try dsimp only
        rw [hF_len, if_pos hc, (app_h (c0 := c0) (c1 := c1) h0).1]
        exact ⟨rfl, (app_h (c0 := c0) (c1 := c1) h0).2⟩
      · cases hz
    · cases hz
  · cases hz
def zRcb (b : Nat) (As : List Value) (h : List zC) : Bool := b / 10 == 0 || match As with
  | .ref q :: _ => match h[q]? with
    | some c => c.1 + 1 == b / 10 && decide (c.1 < 90)
    | none => false
  | _ => false
theorem zRc_h {As : List Value} (h0 : hO h) (hb : zRcb b As h = true) : zRc b As (hF c0 c1 h) := by
  unfold zRcb at hb
  rcases Bool.or_eq_true_iff.mp hb with e | e
  · exact Or.inl (by simpa using e)
  · refine Or.inr ?_
    split at e
    · split at e
      · rename_i c hq
        obtain ⟨e1, e2⟩ := Bool.and_eq_true_iff.mp e
        have e1 : c.1 + 1 = b / 10 := by simpa using e1
        have e2 := of_decide_eq_true e2
        obtain ⟨-, e3⟩ := hole_get (c0 := c0) (c1 := c1) h0 hq (by omega)
        dsimp only
        rw [e3]
        exact ⟨e1, e2⟩
      · cases e
    · cases e
end hol
/-- the run as a function: no throw, no check of kind 5; h's place 0 is the hole -/
def zEv : Nat → Nat → Nat → Nat → List (Nat × Value) → List Value → List zC → Nat → Option (Option Value × List zC × Nat)
  | 0, _, _, _, _, _, _, _ => none
  | f + 1, d, j, pc, lv, st, h, u => match zrx j pc with
    | none => none
    | some (i, a, b) => match zKe i a b with
      | 0 => match zP (zMl (zi j)) i pc lv st with
        | some (pc', lv', st') => zEv f d j pc' lv' st' h u
        | none => none
      | 1 => match zG i a b pc st h with
        | some (pc', st', h') => zEv f d j pc' lv st' h' u
        | none => none
      | 2 => match zMk i a pc st h u with
        | some (pc', st', h', u') => zEv f d j pc' lv st' h' u'
        | none => none
      | 3 => if zNp (zi a) ≤ st.length ∧ ((st.drop (zNp (zi a))).map (fun v => v.category)).sum ≤ 8 ∧ (lg_sl (st.take (zNp (zi a))).reverse).length ≤ zMl (zi a) ∧ zMl (zi a) ≤ 40 ∧ zRcb b (st.take (zNp (zi a))).reverse h = true then (match d with
        | 0 => none
        | d' + 1 => match zEv f d' a 0 (lv_args 0 (st.take (zNp (zi a))).reverse) [] h u with
          | some (v, h', u') => zEv f (d' + 1) j (pc + zLen i) lv (v.toList ++ st.drop (zNp (zi a))) h' u'
          | none => none) else none
      | 4 => match zRt (zRe (zi j)) i st with
        | some v => some (v, h, u)
        | none => none
      | 6 => match st with
        | .ref _ :: r => if (r.map (fun v => v.category)).sum ≤ 8 then zEv f d j (pc + 3) lv r h u else none
        | _ => none
      | 7 => zEv f d j (pc + zLen i) lv (zCo i a b :: st) h u
      | 8 => match i with
        | .putfield _ => match zPut 2 0 pc st h with
          | some (pc', st', h') => zEv f d j pc' lv st' h' u
          | none => none
        | .getfield _ => match zGet 2 0 pc st h with
          | some (pc', st', h') => zEv f d j pc' lv st' h' u
          | none => none
        | _ => none
      | _ => none
theorem zEv_ok {c0 c1 : zC} : ∀ (f d j pc : Nat) (lv : List (Nat × Value)) (st : List Value) (h : List zC) (u : Nat) (v : Option Value) (h' : List zC) (u' : Nat), zEv f d j pc lv st h u = some (v, h', u') → hO h →
    hO h' ∧ ∀ K : zK, K (.inl v) (hF c0 c1 h') u' → zE zrx zi d j pc lv st (hF c0 c1 h) u K
  | 0, _, _, _, _, _, _, _, _, _, _, hz, _ => by cases hz
  | f + 1, d, j, pc, lv, st, h, u, v, h', u', hz, h0 => by
    have ih := @zEv_ok c0 c1 f
    unfold zEv at hz
    split at hz
    · cases hz
    · rename_i i a b hrow
      split at hz
      · rename_i hk
        split at hz
        · rename_i hp
          obtain ⟨e, g⟩ := ih _ _ _ _ _ _ _ _ _ _ hz h0
          exact ⟨e, fun K k => zE_0 hrow hk hp (g K k)⟩
        · cases hz
      · rename_i hk
        split at hz
        · rename_i hp
          obtain ⟨q, h1⟩ := zG_h (c0 := c0) (c1 := c1) h0 _ _ _ hp
          obtain ⟨e, g⟩ := ih _ _ _ _ _ _ _ _ _ _ hz h1
          exact ⟨e, fun K k => zE_1 hrow hk q (g K k)⟩
        · cases hz
      · rename_i hk
        split at hz
        · rename_i hp
          obtain ⟨q, h1⟩ := zMk_h (c0 := c0) (c1 := c1) h0 hp
          obtain ⟨e, g⟩ := ih _ _ _ _ _ _ _ _ _ _ hz h1
          exact ⟨e, fun K k => zE_2 hrow hk q (g K k)⟩
        · cases hz
      · rename_i hk
        split at hz
        · rename_i hc
          obtain ⟨a1, a2, a3, a4, a5⟩ := hc
          cases d with
          | zero => cases hz
          | succ d' =>
            dsimp only at hz
            split at hz
            · rename_i v1 h1 u1 hin
              obtain ⟨e1, g1⟩ := ih _ _ _ _ _ _ _ _ _ _ hin h0
              obtain ⟨e2, g2⟩ := ih _ _ _ _ _ _ _ _ _ _ hz e1
              exact ⟨e2, fun K k => zE_3 hrow hk a1 a2 a3 a4 (zRc_h h0 a5) (g1 _ (g2 K k))⟩
            · cases hz
        · cases hz
      · rename_i hk
        split at hz
        · rename_i hp
          cases hz
          exact ⟨h0, fun K k => zE_4 hrow hk hp k⟩
        · cases hz
      · rename_i hk
        split at hz
        · split at hz
          · rename_i hr
            obtain ⟨e, g⟩ := ih _ _ _ _ _ _ _ _ _ _ hz h0
            exact ⟨e, fun K k => zE_6 hrow hk rfl hr (g K k)⟩
          · cases hz
        · cases hz
      · rename_i hk
        obtain ⟨e, g⟩ := ih _ _ _ _ _ _ _ _ _ _ hz h0
        exact ⟨e, fun K k => zE_7 hrow hk (g K k)⟩
      · rename_i hk
        split at hz
        · split at hz
          · rename_i hp
            obtain ⟨q, h1⟩ := zPut_h (c0 := c0) (c1 := c1) h0 _ _ _ hp
            obtain ⟨e, g⟩ := ih _ _ _ _ _ _ _ _ _ _ hz h1
            exact ⟨e, fun K k => zE_8 (os := [(_, _, _, u)]) hrow hk (by unfold zX; dsimp only; rw [q]; rfl) (fun o ho => by cases List.mem_singleton.mp ho; exact g K k)⟩
          · cases hz
        · split at hz
          · rename_i hp
            obtain ⟨q, h1⟩ := zGet_h (c0 := c0) (c1 := c1) h0 _ _ _ hp
            obtain ⟨e, g⟩ := ih _ _ _ _ _ _ _ _ _ _ hz h1
            exact ⟨e, fun K k => zE_8 (os := [(_, _, _, u)]) hrow hk (by unfold zX; dsimp only; rw [q]; rfl) (fun o ho => by cases List.mem_singleton.mp ho; exact g K k)⟩
          · cases hz
        · cases hz
      · cases hz
