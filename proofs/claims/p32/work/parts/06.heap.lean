/-! ===== the small machine: its heap, and what the machine's heap has of it ===== -/
def zfitv (ty : FieldType) (v : Value) : Bool := decide (narrow ty v = v) && fits ty v
theorem zfitv_t {τ : Nat → Nat} {ty : FieldType} {v : Value} (h : zfitv ty v = true) : narrow ty (zt τ v) = zt τ v ∧ fits ty (zt τ v) = true := by
  unfold zfitv at h
  obtain ⟨h1, h2⟩ := Bool.and_eq_true_iff.mp h
  cases v with
  | ref i =>
    refine ⟨?_, ?_⟩
    · cases ty <;> rfl
    · cases ty <;> first | rfl | exact absurd h2 (by decide) | (exact absurd h2 (fun q => by cases q))
  | _ => exact ⟨of_decide_eq_true h1, h2⟩
def zSN : Nat := 7290000
/-- the kinds of arrays of the start, which are read alone: 96 ints, 95 bytes, 94 and 93 references -/
def zSty (k : Nat) : FieldType := if k = 96 then .int else if k = 95 then .byte else .object "java/lang/Object"
def zTyR (k : Nat) : FieldType := if k < 97 then zSty k else zTy k
def zRdA (U : State) (τ : Nat → Nat) (a : Nat) (ty : FieldType) (l : List Value) (H : Heap) : Prop := ∃ cell : Cell, H[a]? = some cell ∧ U.isArrayOf cell ty ∧ cell.vm ≠ .unknown ∧ (l.length ≤ cell.slots.size ∧ cell.slots.size.toInt32 = Int32.ofNat l.length) ∧ ∀ j : Nat, j < l.length → cell.slots[j]? = some (zt τ (l.getD j .null))
/-- an object of which all fields are known; one that the run has made (behind the place zro) has nothing of the machine's own about it -/
def zOj (D : va_G) (τ : Nat → Nat) (a : Nat) (c : zC) (H : Heap) : Prop := ∃ (r : vw_C) (cell : Cell), vwCl[c.1]? = some r ∧ H[a]? = some cell ∧ cell.cls = D.1 c.1 ∧ (cell.vm ≠ .unknown ∧ cell.vm.isStatics = false ∧ (τ zro ≤ a → cell.vm = .none)) ∧ ∀ j : Nat, j < r.2.2 → cell.slots[D.2 c.1 j]? = some (vp_V (c.2.map (zt τ)) j)
def zAt (D : va_G) (U : State) (τ : Nat → Nat) (a : Nat) (c : zC) (H : Heap) : Prop :=
  if c.1 < 90 then zOj D τ a c H ∧ ∀ r : vw_C, vwCl[c.1]? = some r → c.2.length = r.2.2
  else if c.1 < 97 then (93 ≤ c.1 → zRdA U τ a (zSty c.1) c.2 H)
  else if c.1 < 100 then True
  else ∃ cA : ClassId, H[a]? = some (arrV cA c.2.length (fun k => zt τ (c.2.getD k .null))) ∧ ArrOfT U cA (zTy c.1) ∧ va_RA U cA (zTy c.1)
theorem zAt.kept {D : va_G} {U : State} {τ : Nat → Nat} {a : Nat} {c : zC} {H H1 : Heap} (h : zAt D U τ a c H) (hq : H1[a]? = H[a]?) : zAt D U τ a c H1 := by
  unfold zAt at h ⊢
  by_cases h1 : c.1 < 90
  · rw [if_pos h1] at h ⊢
    obtain ⟨⟨r, cell, q1, q2, q3⟩, q4⟩ := h
    exact ⟨⟨r, cell, q1, by rw [hq]; exact q2, q3⟩, q4⟩
  · rw [if_neg h1] at h ⊢
    by_cases h2 : c.1 < 97
    · rw [if_pos h2] at h ⊢
      intro h3
      obtain ⟨cell, q1, q2⟩ := h h3
      exact ⟨cell, by rw [hq]; exact q1, q2⟩
    · rw [if_neg h2] at h ⊢
      by_cases h3 : c.1 < 100
      · rw [if_pos h3]; trivial
      · rw [if_neg h3] at h ⊢
        obtain ⟨cA, q1, q2, q3⟩ := h
        exact ⟨cA, by rw [hq]; exact q1, q2, q3⟩
theorem zAt.moved {D : va_G} {u U : State} {τ : Nat → Nat} {a : Nat} {c : zC} {H : Heap} (hvm : u.vm.Alike U.vm) (h : zAt D u τ a c H) : zAt D U τ a c H := by
  unfold zAt at h ⊢
  by_cases h1 : c.1 < 90
  · rw [if_pos h1] at h ⊢
    exact h
  · rw [if_neg h1] at h ⊢
    by_cases h2 : c.1 < 97
    · rw [if_pos h2] at h ⊢
      intro h3
      obtain ⟨cell, q1, q2, q3⟩ := h h3
      exact ⟨cell, q1, State.isArrayOf_alike hvm q2, q3⟩
    · rw [if_neg h2] at h ⊢
      by_cases h3 : c.1 < 100
      · rw [if_pos h3]; trivial
      · rw [if_neg h3] at h ⊢
        obtain ⟨cA, q1, q2, q3⟩ := h
        exact ⟨cA, q1, arrOfT_moved hvm q2, q3.moved hvm⟩
theorem zAt.obj {D : va_G} {U : State} {τ : Nat → Nat} {a : Nat} {c : zC} {H : Heap} (h : zAt D U τ a c H) (hc : c.1 < 90) : zOj D τ a c H ∧ ∀ r : vw_C, vwCl[c.1]? = some r → c.2.length = r.2.2 := by
  unfold zAt at h
  rw [if_pos hc] at h
  exact h
theorem zAt.own {D : va_G} {U : State} {τ : Nat → Nat} {a : Nat} {c : zC} {H : Heap} (h : zAt D U τ a c H) (hc : c.1 < 90) (hz : τ zro ≤ a) : va_at D vwCl (a, .inr (c.1, c.2.map (zt τ))) H ∧ ∀ r : vw_C, vwCl[c.1]? = some r → c.2.length = r.2.2 := by
  obtain ⟨⟨r, cell, q1, q2, q3, q4, q5⟩, q6⟩ := h.obj hc
  exact ⟨⟨r, q1, cell, q2, q3, q4.2.2 hz, q5⟩, q6⟩
theorem zAt.arr {D : va_G} {U : State} {τ : Nat → Nat} {a : Nat} {c : zC} {H : Heap} (h : zAt D U τ a c H) (hc : 100 ≤ c.1) : ∃ cA : ClassId, H[a]? = some (arrV cA c.2.length (fun k => zt τ (c.2.getD k .null))) ∧ ArrOfT U cA (zTy c.1) ∧ va_RA U cA (zTy c.1) := by
  unfold zAt at h
  rw [if_neg (by omega), if_neg (by omega), if_neg (by omega)] at h
  exact h
theorem zAt.read {D : va_G} {U : State} {τ : Nat → Nat} {a : Nat} {c : zC} {H : Heap} (h : zAt D U τ a c H) (hc : 100 ≤ c.1 ∨ (93 ≤ c.1 ∧ c.1 < 97)) : zRdA U τ a (zTyR c.1) c.2 H := by
  unfold zTyR
  rcases hc with hc | hc
  · obtain ⟨cA, q1, q2, q3⟩ := h.arr hc
    rw [if_neg (by omega)]
    exact ⟨_, q1, q2 _ _, (fun q => nomatch q), ⟨by rw [arrV_size]; exact Nat.le_refl _, by rw [arrV_size]⟩, fun j hj => arrV_read _ _ hj⟩
  · unfold zAt at h
    rw [if_neg (by omega), if_pos hc.2] at h
    rw [if_pos hc.2]
    exact h hc.1
theorem zAt.ofObj {D : va_G} {U : State} {τ : Nat → Nat} {a : Nat} {c : zC} {H : Heap} (hc : c.1 < 90) (h : va_at D vwCl (a, .inr (c.1, c.2.map (zt τ))) H) (h2 : ∀ r : vw_C, vwCl[c.1]? = some r → c.2.length = r.2.2) : zAt D U τ a c H := by
  unfold zAt
  rw [if_pos hc]
  obtain ⟨r, q1, cell, q2, q3, q4, q5⟩ := h
  exact ⟨⟨r, cell, q1, q2, q3, ⟨by rw [q4]; exact (fun q => nomatch q), by rw [q4]; rfl, fun _ => q4⟩, q5⟩, h2⟩
theorem zAt.ofArr {D : va_G} {U : State} {τ : Nat → Nat} {a : Nat} {c : zC} {H : Heap} {cA : ClassId} (hc : 100 ≤ c.1) (h : H[a]? = some (arrV cA c.2.length (fun k => zt τ (c.2.getD k .null)))) (h2 : ArrOfT U cA (zTy c.1)) (h3 : va_RA U cA (zTy c.1)) : zAt D U τ a c H := by
  unfold zAt
  rw [if_neg (by omega), if_neg (by omega), if_neg (by omega)]
  exact ⟨cA, h, h2, h3⟩
theorem zAt.free {D : va_G} {U : State} {τ : Nat → Nat} {a : Nat} {c : zC} {H : Heap} (h : c.1 = 97) : zAt D U τ a c H := by
  unfold zAt
  rw [if_neg (by omega), if_neg (by omega), if_pos (by omega)]
  trivial
/-- the places whose cell may be anywhere: nothing is known of it -/
abbrev zfr (i : Nat) : Prop := i ≠ 3 ∧ i ≠ 7
def zsum (b : Nat) (H : Heap) : Nat := ((H.toList.drop b).map (fun c => c.slots.size)).sum
theorem zsum_congr {b : Nat} {H H1 : Heap} (hz : H1.size = H.size) (h : ∀ q : Nat, (H1[q]?).map (fun c => c.slots.size) = (H[q]?).map (fun c => c.slots.size)) : zsum b H1 = zsum b H := by
  unfold zsum
  rw [List.map_drop, List.map_drop]
  congr 2
  apply List.ext_getElem?
  intro i
  rw [List.getElem?_map, List.getElem?_map, Array.getElem?_toList, Array.getElem?_toList]
  exact h i
theorem zsum_push {b : Nat} {H : Heap} {c : Cell} (hb : b ≤ H.size) : zsum b (H.push c) = zsum b H + c.slots.size := by
  unfold zsum
  rw [Array.toList_push, List.drop_append_of_le_length (by rw [Array.length_toList]; exact hb), List.map_append, List.sum_append]
  simp
/-- the machine's heap H over the small one h; u: the slots made so far -/
def zInv (D : va_G) (base : Nat) (τ : Nat → Nat) (U : State) (h : List zC) (u : Nat) (H : Heap) : Prop :=
  (∀ (i : Nat) (c : zC), h[i]? = some c → zAt D U τ (τ i) c H) ∧ zro ≤ h.length ∧ H.size + zro = base + h.length ∧ zsum base H = u ∧ h.length ≤ zCM ∧ (u ≤ zSN ∧ ∀ (i : Nat) (c : zC), h[i]? = some c → ¬ zfr i → c.1 = 97)
def zTau (base : Nat) (τ : Nat → Nat) : Prop := (∀ i, zro ≤ i → τ i + zro = base + i) ∧ (∀ i, i < zro → zfr i → τ i < base) ∧ ∀ i j, zro ≤ i → zfr j → τ i = τ j → i = j
theorem zInv.moved {D : va_G} {base : Nat} {τ : Nat → Nat} {s U : State} {h : List zC} {u : Nat} {H : Heap} (hvm : s.vm.Alike U.vm) (hI : zInv D base τ s h u H) : zInv D base τ U h u H :=
  ⟨fun i c hc => (hI.1 i c hc).moved hvm, hI.2⟩
theorem zInv_set {D : va_G} {base : Nat} {τ : Nat → Nat} {U : State} {h : List zC} {u i : Nat} {c c' : zC} {H H1 : Heap} (hτ : zTau base τ) (hI : zInv D base τ U h u H) (hi : h[i]? = some c) (hz : zro ≤ i) (hsz : H1.size = H.size) (hoth : ∀ q : Nat, q ≠ τ i → H1[q]? = H[q]?)
    (hslot : ∃ x y : Cell, H[τ i]? = some x ∧ H1[τ i]? = some y ∧ y.slots.size = x.slots.size) (hnew : zAt D U τ (τ i) c' H1) : zInv D base τ U (h.set i c') u H1 := by
  obtain ⟨h1, h2, h3, h4, h5, h6, h7⟩ := hI
  have hz16 : zro = 16 := rfl
  refine ⟨fun j cj hj => ?_, by rw [List.length_set]; exact h2, by rw [List.length_set, hsz]; exact h3, ?_, by rw [List.length_set]; exact h5, h6, fun j cj hj hn => ?_⟩
  · by_cases e : i = j
    · subst e
      rw [List.getElem?_set_self (List.getElem?_eq_some_iff.mp hi).1] at hj
      cases hj
      exact hnew
    · rw [List.getElem?_set_ne e] at hj
      by_cases hf : zfr j
      · exact (h1 j cj hj).kept (hoth _ (fun q => e (hτ.2.2 i j hz hf q.symm)))
      · exact zAt.free (h7 j cj hj hf)
  · rw [← h4]
    apply zsum_congr hsz
    intro q
    by_cases e : q = τ i
    · subst e
      obtain ⟨x, y, e1, e2, e3⟩ := hslot
      rw [e1, e2]
      simp [e3]
    · rw [hoth q e]
  · have ne : i ≠ j := fun q => hn ⟨by omega, by omega⟩
    rw [List.getElem?_set_ne ne] at hj
    exact h7 j cj hj hn
theorem zInv_push {D : va_G} {base : Nat} {τ : Nat → Nat} {U : State} {h : List zC} {u n : Nat} {c : zC} {cell : Cell} {H : Heap} (hτ : zTau base τ) (hI : zInv D base τ U h u H) (hn : cell.slots.size = n) (hL : h.length + 1 ≤ zCM) (hS : u + n ≤ zSN) (hnew : zAt D U τ H.size c (H.push cell)) : zInv D base τ U (h ++ [c]) (u + n) (H.push cell) ∧ τ h.length = H.size := by
  obtain ⟨h1, h2, h3, h4, h5, h6, h7⟩ := hI
  have hz16 : zro = 16 := rfl
  have ht : τ h.length = H.size := by have := hτ.1 _ h2; omega
  refine ⟨⟨fun j cj hj => ?_, by simp; omega, by simp; omega, by rw [zsum_push (by omega), h4, hn], by simp; omega, hS, fun j cj hj hnf => ?_⟩, ht⟩
  rcases Nat.lt_or_ge j h.length with e | e
  · rw [List.getElem?_append_left e] at hj
    have hlt : τ j < H.size → (H.push cell)[τ j]? = H[τ j]? := fun q => by rw [Array.getElem?_push, if_neg (by omega)]
    by_cases hf : zfr j
    · refine (h1 j cj hj).kept (hlt ?_)
      rcases Nat.lt_or_ge j zro with e2 | e2
      · have := hτ.2.1 j e2 hf; omega
      · have := hτ.1 j e2; omega
    · exact zAt.free (h7 j cj hj hf)
  · rw [List.getElem?_append_right e] at hj
    rcases Nat.eq_zero_or_pos (j - h.length) with e2 | e2
    · rw [e2] at hj
      cases hj
      rw [show j = h.length by omega, ht]
      exact hnew
    · rw [List.getElem?_eq_none (by simp; omega)] at hj
      cases hj
  have hj2 : j < h.length := by
    have q : ¬ (h.length ≤ j) := fun q => hnf ⟨by omega, by omega⟩
    omega
  rw [List.getElem?_append_left hj2] at hj
  exact h7 j cj hj hnf
theorem arrV_congr {c : ClassId} {N : Nat} {f g : Nat → Value} (h : ∀ k, k < N → f k = g k) : arrV c N f = arrV c N g := by
  unfold arrV
  congr 1
  congr 1
  funext j
  exact h j.val j.2
theorem zset_get {l : List Value} {k j : Nat} {v : Value} (h : k < l.length) : (l.set k v).getD j .null = if j = k then v else l.getD j .null := by
  rw [List.getD_eq_getElem?_getD, List.getD_eq_getElem?_getD]
  by_cases e : j = k
  · subst e
    simp [h]
  · rw [if_neg e, List.getElem?_set_ne (fun q => e q.symm)]
theorem arrV_set {cA : ClassId} {τ : Nat → Nat} {l : List Value} {k : Nat} {v : Value} (h : k < l.length) : (arrV cA l.length (fun n => zt τ (l.getD n .null))).setSlot k (zt τ v) = arrV cA (l.set k v).length (fun n => zt τ ((l.set k v).getD n .null)) := by
  rw [arrV_store, List.length_set]
  apply arrV_congr
  intro j _
  show updV _ k (zt τ v) j = _
  rw [zset_get h]
  unfold updV
  split <;> rfl
