/-! ===== the checker is right: its pieces ===== -/
theorem fHold.base {hb hb' : Nat} {ν : List Value} {h : List zC} {f : sF} (hf : ¬ f.1 = 7) (H : fHold hb ν h f) : fHold hb' ν h f := by
  unfold fHold at H ⊢
  split at H
  · exact H
  · exact H
  · exact H
  · exact H
  · exact H
  · exact H
  · exact H
  · rename_i e; exact absurd e hf
  · exact H
  · exact H
  · exact H
  · exact H
  · exact H
  · exact H
  · exact H
  · exact H
  · exact H
  · exact H
  · exact H
  · exact H
  · trivial
theorem fMp_ok {hb hb' : Nat} {ν ν' : List Value} {h : List zC} {mx : Nat → Nat} {f : sF} (hm : ∀ (s : Nat) (v : Value), ν[s]? = some v → ν'[mx s]? = some v) (hle : hb ≤ hb') (H : fHold hb' ν h f) : fHold hb ν' h (fMp mx f) := by
  unfold fHold at H
  split at H
  · rename_i e
    have e1 : fMp mx f = (0, mx f.2.1, mx f.2.2.1, f.2.2.2.1, f.2.2.2.2) := by simp [fMp, e]
    rw [e1]
    obtain ⟨x, y, q1, q2, q3⟩ := H
    exact ⟨x, y, hm _ _ q1, hm _ _ q2, q3⟩
  · rename_i e
    have e1 : fMp mx f = (1, mx f.2.1, mx f.2.2.1, f.2.2.2.1, f.2.2.2.2) := by simp [fMp, e]
    rw [e1]
    obtain ⟨x, y, q1, q2, q3⟩ := H
    exact ⟨x, y, hm _ _ q1, hm _ _ q2, q3⟩
  · rename_i e
    have e1 : fMp mx f = (2, mx f.2.1, f.2.2.1, mx f.2.2.2.1, f.2.2.2.2) := by simp [fMp, e]
    rw [e1]
    obtain ⟨a, c, v, q1, q2, q3, q4⟩ := H
    exact ⟨a, c, v, hm _ _ q1, q2, q3, hm _ _ q4⟩
  · rename_i e
    have e1 : fMp mx f = (3, mx f.2.1, mx f.2.2.1, f.2.2.2.1, f.2.2.2.2) := by simp [fMp, e]
    rw [e1]
    obtain ⟨a, c, x, q1, q2, q3, q4⟩ := H
    exact ⟨a, c, x, hm _ _ q1, q2, hm _ _ q3, q4⟩
  · rename_i e
    have e1 : fMp mx f = (4, mx f.2.1, mx f.2.2.1, mx f.2.2.2.1, f.2.2.2.2) := by simp [fMp, e]
    rw [e1]
    obtain ⟨a, c, x, v, q1, q2, q3, q4, q5, q6⟩ := H
    exact ⟨a, c, x, v, hm _ _ q1, q2, hm _ _ q3, q4, q5, hm _ _ q6⟩
  · rename_i e
    have e1 : fMp mx f = (5, mx f.2.1, mx f.2.2.1, mx f.2.2.2.1, f.2.2.2.2) := by simp [fMp, e]
    rw [e1]
    obtain ⟨x, y, q1, q2, q3⟩ := H
    exact ⟨x, y, hm _ _ q1, hm _ _ q2, hm _ _ q3⟩
  · rename_i e
    have e1 : fMp mx f = (6, mx f.2.1, f.2.2.1, f.2.2.2.1, f.2.2.2.2) := by simp [fMp, e]
    rw [e1]
    obtain ⟨x, q1, q2⟩ := H
    exact ⟨x, hm _ _ q1, q2⟩
  · rename_i e
    have e1 : fMp mx f = (7, mx f.2.1, f.2.2.1, f.2.2.2.1, f.2.2.2.2) := by simp [fMp, e]
    rw [e1]
    obtain ⟨a, q1, q2⟩ := H
    exact ⟨a, hm _ _ q1, Nat.le_trans hle q2⟩
  · rename_i e
    have e1 : fMp mx f = (8, mx f.2.1, mx f.2.2.1, mx f.2.2.2.1, f.2.2.2.2) := by simp [fMp, e]
    rw [e1]
    obtain ⟨a, c, b, d, x, q1, q2, q3, q4, q5, q6⟩ := H
    exact ⟨a, c, b, d, x, hm _ _ q1, q2, hm _ _ q3, q4, hm _ _ q5, q6⟩
  · rename_i e
    have e1 : fMp mx f = (9, mx f.2.1, f.2.2.1, f.2.2.2.1, f.2.2.2.2) := by simp [fMp, e]
    rw [e1]
    obtain ⟨x, q1, q2⟩ := H
    exact ⟨x, hm _ _ q1, q2⟩
  · rename_i e
    have e1 : fMp mx f = (10, mx f.2.1, mx f.2.2.1, f.2.2.2.1, f.2.2.2.2) := by simp [fMp, e]
    rw [e1]
    obtain ⟨x, q1, q2⟩ := H
    exact ⟨x, hm _ _ q1, hm _ _ q2⟩
  · rename_i e
    have e1 : fMp mx f = (11, mx f.2.1, f.2.2.1, f.2.2.2.1, f.2.2.2.2) := by simp [fMp, e]
    rw [e1]
    exact hm _ _ H
  · rename_i e
    have e1 : fMp mx f = (12, mx f.2.1, mx f.2.2.1, mx f.2.2.2.1, f.2.2.2.2) := by simp [fMp, e]
    rw [e1]
    obtain ⟨t, x, y, q1, q2, q3, q4⟩ := H
    exact ⟨t, x, y, hm _ _ q1, hm _ _ q2, hm _ _ q3, q4⟩
  · rename_i e
    have e1 : fMp mx f = (13, mx f.2.1, f.2.2.1, f.2.2.2.1, f.2.2.2.2) := by simp [fMp, e]
    rw [e1]
    obtain ⟨x, q1, q2⟩ := H
    exact ⟨x, hm _ _ q1, q2⟩
  · rename_i e
    have e1 : fMp mx f = (14, mx f.2.1, mx f.2.2.1, mx f.2.2.2.1, f.2.2.2.2) := by simp [fMp, e]
    rw [e1]
    obtain ⟨a, c, x, y, q1, q2, q3, q4, q5⟩ := H
    exact ⟨a, c, x, y, hm _ _ q1, q2, hm _ _ q3, hm _ _ q4, q5⟩
  · rename_i e
    have e1 : fMp mx f = (15, mx f.2.1, f.2.2.1, f.2.2.2.1, f.2.2.2.2) := by simp [fMp, e]
    rw [e1]
    obtain ⟨a, c, q1, q2, q3⟩ := H
    exact ⟨a, c, hm _ _ q1, q2, q3⟩
  · rename_i e
    have e1 : fMp mx f = (16, mx f.2.1, mx f.2.2.1, f.2.2.2.1, f.2.2.2.2) := by simp [fMp, e]
    rw [e1]
    obtain ⟨a, c, y, q1, q2, q3, q4⟩ := H
    exact ⟨a, c, y, hm _ _ q1, q2, hm _ _ q3, q4⟩
  · rename_i e
    have e1 : fMp mx f = (17, mx f.2.1, mx f.2.2.1, f.2.2.2.1, f.2.2.2.2) := by simp [fMp, e]
    rw [e1]
    obtain ⟨x, q1, q2⟩ := H
    exact ⟨x, hm _ _ q1, hm _ _ q2⟩
  · rename_i e
    have e1 : fMp mx f = (18, mx f.2.1, mx f.2.2.1, f.2.2.2.1, f.2.2.2.2) := by simp [fMp, e]
    rw [e1]
    obtain ⟨p, q, c, d, q1, q2, q3, q4, q5⟩ := H
    exact ⟨p, q, c, d, hm _ _ q1, q2, hm _ _ q3, q4, q5⟩
  · rename_i e
    have e1 : fMp mx f = (19, mx f.2.1, mx f.2.2.1, f.2.2.2.1, f.2.2.2.2) := by simp [fMp, e]
    rw [e1]
    obtain ⟨p, q, q1, q2, q3⟩ := H
    exact ⟨p, q, hm _ _ q1, hm _ _ q2, q3⟩
  · rename_i n0 n1 n2 n3 n4 n5 n6 n7 n8 n9 n10 n11 n12 n13 n14 n15 n16 n17 n18 n19
    have e1 : (fMp mx f).1 = f.1 := by
      unfold fMp
      rw [if_neg n2, if_neg (fun q => q.elim n0 (fun q => q.elim n1 (fun q => q.elim n3 (fun q => q.elim n10 (fun q => q.elim n16 (fun q => q.elim n17 (fun q => q.elim n18 n19))))))), if_neg (fun q => q.elim n6 (fun q => q.elim n7 (fun q => q.elim n9 (fun q => q.elim n11 (fun q => q.elim n13 n15)))))]
    unfold fHold
    rw [e1]
    split
    · rename_i e; exact absurd e n0
    · rename_i e; exact absurd e n1
    · rename_i e; exact absurd e n2
    · rename_i e; exact absurd e n3
    · rename_i e; exact absurd e n4
    · rename_i e; exact absurd e n5
    · rename_i e; exact absurd e n6
    · rename_i e; exact absurd e n7
    · rename_i e; exact absurd e n8
    · rename_i e; exact absurd e n9
    · rename_i e; exact absurd e n10
    · rename_i e; exact absurd e n11
    · rename_i e; exact absurd e n12
    · rename_i e; exact absurd e n13
    · rename_i e; exact absurd e n14
    · rename_i e; exact absurd e n15
    · rename_i e; exact absurd e n16
    · rename_i e; exact absurd e n17
    · rename_i e; exact absurd e n18
    · rename_i e; exact absurd e n19
    · trivial
section ckA
variable {W : tWd} {Wr cWr : List (Nat × Nat)} {hb ub : Nat} {ρ ρ0 ρ' : List Nat} {ν : List Value} {S : sS} {lv : List (Nat × Value)} {st : List Value} {h h0 h' : List zC} {u u' : Nat} {N : Int}
theorem fKeepC_ok (hA : gA hb ub ρ ν S lv st h u) (hF : gFr cWr ρ h h') : ∀ f ∈ S.2.2.2.1.filter (fKeepC S.1 cWr), fHold hb ν h' f := by
  intro f hf
  obtain ⟨hf, hk⟩ := List.mem_filter.mp hf
  have H := hA.2.2.2.1 f hf
  unfold fKeepC at hk
  unfold fHold at H ⊢
  split at H
  · exact H
  · exact H
  · rename_i e
    rw [if_pos e] at hk
    obtain ⟨k1, k2⟩ := Bool.and_eq_true_iff.mp hk
    obtain ⟨a, c, v, e1, e2, e3, e4⟩ := H
    obtain ⟨i, q1, q2⟩ := hA.ref e1 (by simpa using k1)
    cases q1
    obtain ⟨c', f1, -, -, f4⟩ := hF _ c e2
    exact ⟨_, c', v, e1, f1, by rw [f4 _ q2 _ (by simpa using k2)]; exact e3, e4⟩
  · obtain ⟨a, c, x, e1, e2, e3, e4⟩ := H
    obtain ⟨c', f1, -, f3, -⟩ := hF _ c e2
    exact ⟨a, c', x, e1, f1, e3, by rw [f3]; exact e4⟩
  · rename_i e
    rw [if_neg (by omega), if_pos e] at hk
    obtain ⟨k1, k2⟩ := Bool.and_eq_true_iff.mp hk
    obtain ⟨a, c, x, v, e1, e2, e3, e4, e5, e6⟩ := H
    obtain ⟨i, q1, q2⟩ := hA.ref e1 (by simpa using k1)
    cases q1
    obtain ⟨c', f1, -, -, f4⟩ := hF _ c e2
    have hno : ∀ k, wIn cWr (sGet S.1 f.2.1).2.1.toNat k = false := fun k => by
      unfold wIn
      rw [List.any_eq_false]
      intro w hw
      have k2 : (cWr.any (fun w => w.1 == (sGet S.1 f.2.1).2.1.toNat)) = false := by simpa using k2
      have := List.any_eq_false.mp k2 w hw
      simp only [Bool.and_eq_true, not_and]
      intro q
      exact absurd q this
    exact ⟨_, c', x, v, e1, f1, e3, e4, by rw [f4 _ q2 _ (hno _)]; exact e5, e6⟩
  · exact H
  · exact H
  · exact H
  · rename_i e
    rw [if_neg (by omega), if_neg (by omega), if_pos e] at hk
    cases hk
  · exact H
  · exact H
  · exact H
  · exact H
  · exact H
  · rename_i e
    rw [if_neg (by omega), if_neg (by omega), if_neg (by omega), if_neg (by omega), if_pos (by omega)] at hk
    obtain ⟨k1, k2⟩ := Bool.and_eq_true_iff.mp hk
    obtain ⟨a, c, x, y, e1, e2, e3, e4, e5, e6⟩ := H
    obtain ⟨i, q1, q2⟩ := hA.ref e1 (by simpa using k1)
    cases q1
    obtain ⟨c', f1, -, -, f4⟩ := hF _ c e2
    have hno : ∀ k, wIn cWr (sGet S.1 f.2.1).2.1.toNat k = false := fun k => by
      unfold wIn
      rw [List.any_eq_false]
      intro w hw
      have k2 : (cWr.any (fun w => w.1 == (sGet S.1 f.2.1).2.1.toNat)) = false := by simpa using k2
      have := List.any_eq_false.mp k2 w hw
      simp only [Bool.and_eq_true, not_and]
      intro q
      exact absurd q this
    have ec : c'.2 = c.2 := List.ext_getElem? (fun k => f4 _ q2 k (hno k))
    exact ⟨_, c', x, y, e1, f1, e3, e4, e5, by rw [ec]; exact e6⟩
  · rename_i e
    rw [if_neg (by omega), if_neg (by omega), if_neg (by omega), if_neg (by omega), if_pos (by omega)] at hk
    obtain ⟨k1, k2⟩ := Bool.and_eq_true_iff.mp hk
    obtain ⟨a, c, e1, e2, e3⟩ := H
    obtain ⟨i, q1, q2⟩ := hA.ref e1 (by simpa using k1)
    cases q1
    obtain ⟨c', f1, -, -, f4⟩ := hF _ c e2
    have hno : ∀ k, wIn cWr (sGet S.1 f.2.1).2.1.toNat k = false := fun k => by
      unfold wIn
      rw [List.any_eq_false]
      intro w hw
      have k2 : (cWr.any (fun w => w.1 == (sGet S.1 f.2.1).2.1.toNat)) = false := by simpa using k2
      have := List.any_eq_false.mp k2 w hw
      simp only [Bool.and_eq_true, not_and]
      intro q
      exact absurd q this
    have ec : c'.2 = c.2 := List.ext_getElem? (fun k => f4 _ q2 k (hno k))
    exact ⟨_, c', e1, f1, by rw [ec]; exact e3⟩
  · rename_i e
    rw [if_neg (by omega), if_neg (by omega), if_neg (by omega), if_neg (by omega), if_pos (by omega)] at hk
    obtain ⟨k1, k2⟩ := Bool.and_eq_true_iff.mp hk
    obtain ⟨a, c, y, e1, e2, e3, e4, e5⟩ := H
    obtain ⟨i, q1, q2⟩ := hA.ref e1 (by simpa using k1)
    cases q1
    obtain ⟨c', f1, -, -, f4⟩ := hF _ c e2
    have hno : ∀ k, wIn cWr (sGet S.1 f.2.1).2.1.toNat k = false := fun k => by
      unfold wIn
      rw [List.any_eq_false]
      intro w hw
      have k2 : (cWr.any (fun w => w.1 == (sGet S.1 f.2.1).2.1.toNat)) = false := by simpa using k2
      have := List.any_eq_false.mp k2 w hw
      simp only [Bool.and_eq_true, not_and]
      intro q
      exact absurd q this
    have ec : c'.2 = c.2 := List.ext_getElem? (fun k => f4 _ q2 k (hno k))
    exact ⟨_, c', y, e1, f1, e3, e4, by rw [ec]; exact e5⟩
  · exact H
  · rename_i e
    rw [if_neg (by omega), if_neg (by omega), if_neg (by omega), if_pos e] at hk
    obtain ⟨k1, k2⟩ := Bool.and_eq_true_iff.mp hk
    obtain ⟨k1, k3⟩ := Bool.and_eq_true_iff.mp k1
    obtain ⟨k2, k4⟩ := Bool.and_eq_true_iff.mp k2
    obtain ⟨a, b, c, d, e1, e2, e3, e4, e5⟩ := H
    obtain ⟨i, q1, q2⟩ := hA.ref e1 (by simpa using k1)
    cases q1
    obtain ⟨j, r1, r2⟩ := hA.ref e3 (by simpa using k2)
    cases r1
    obtain ⟨c', f1, -, -, f4⟩ := hF _ c e2
    obtain ⟨d', g1, -, -, g4⟩ := hF _ d e4
    have hno : ∀ (o k : Nat), (!(cWr.any (fun w => w.1 == (sGet S.1 o).2.1.toNat))) = true → wIn cWr (sGet S.1 o).2.1.toNat k = false := fun o k k2 => by
      unfold wIn
      rw [List.any_eq_false]
      intro w hw
      have k2 : (cWr.any (fun w => w.1 == (sGet S.1 o).2.1.toNat)) = false := by simpa using k2
      have := List.any_eq_false.mp k2 w hw
      simp only [Bool.and_eq_true, not_and]
      intro q
      exact absurd q this
    exact ⟨_, _, c', d', e1, f1, e3, g1, fun k hk => by rw [f4 _ q2 _ (hno _ _ k3), g4 _ r2 _ (hno _ _ k4)]; exact e5 k hk⟩
  · exact H
  · trivial
theorem gFr.trans (hP : gPre hb ρ0 ρ) (hh : h0.length = hb) (H1 : gFr Wr ρ0 h0 h) (H2 : gFr cWr ρ h h') (hw : cWr.all (fun w => wIn Wr w.1 w.2) = true) : gFr Wr ρ0 h0 h' := fun a c ha => by
  obtain ⟨c1, e1, e2, e3, e4⟩ := H1 a c ha
  obtain ⟨c2, f1, f2, f3, f4⟩ := H2 a c1 e1
  refine ⟨c2, f1, f2.trans e2, f3.trans e3, fun r hr k hk => ?_⟩
  rw [f4 r (hP.2 a r hr) k, e4 r hr k hk]
  cases hc : wIn cWr r k with
  | false => rfl
  | true =>
    unfold wIn at hc
    obtain ⟨w, hw1, hw2⟩ := List.any_eq_true.mp hc
    obtain ⟨g1, g2⟩ := Bool.and_eq_true_iff.mp hw2
    have g1 : w.1 = r := by simpa using g1
    have hin := List.all_eq_true.mp hw w hw1
    rw [g1] at hin
    rcases Bool.or_eq_true_iff.mp g2 with g2 | g2
    · rw [show w.2 = k by simpa using g2, hk] at hin
      cases hin
    · rw [show w.2 = 999 by simpa using g2] at hin
      rw [wAll (k := k) hin] at hk
      cases hk
theorem tCat_ok {s : Nat} {v : Value} (hE : gEn ρ ν S.1) (hs : ν[s]? = some v) : v.category ≤ tCat (sGet S.1 s) := by
  unfold tCat
  split
  · rename_i q
    rw [tHas_narr (hE.2 _ _ hs) q]
    exact Nat.le_refl _
  · cases v <;> simp [Value.category]
theorem sCats_ok (hE : gEn ρ ν S.1) : ∀ {T : List Nat} {st : List Value}, gSt ν T st → (st.map (fun v => v.category)).sum ≤ sCats S.1 T
  | [], [], _ => Nat.le_refl _
  | s :: T, v :: st, hT => by
    obtain ⟨w, st', e, hs, hT⟩ := hT.inv
    cases e
    have h1 := tCat_ok hE hs
    have h2 := sCats_ok hE hT
    unfold sCats at h2 ⊢
    simp only [List.map_cons, List.sum_cons]
    omega
  | [], _ :: _, hT => by cases hT
  | _ :: _, [], hT => by cases hT
theorem gSt.take {T : List Nat} {st : List Value} (n : Nat) (hT : gSt ν T st) : gSt ν (T.take n) (st.take n) := by
  unfold gSt at hT ⊢
  rw [List.map_take, List.map_take, hT]
theorem gSt.drop {T : List Nat} {st : List Value} (n : Nat) (hT : gSt ν T st) : gSt ν (T.drop n) (st.drop n) := by
  unfold gSt at hT ⊢
  rw [List.map_drop, List.map_drop, hT]
theorem gSt.rev {T : List Nat} {st : List Value} (hT : gSt ν T st) : gSt ν T.reverse st.reverse := by
  unfold gSt at hT ⊢
  rw [List.map_reverse, List.map_reverse, hT]
theorem gSt.len : ∀ {T : List Nat} {st : List Value}, gSt ν T st → T.length = st.length := fun hT => by
  unfold gSt at hT
  have := congrArg List.length hT
  simpa using this
theorem lgs_len : ∀ As : List Value, (lg_sl As).length = (As.map (fun v => v.category)).sum
  | [] => rfl
  | v :: As => by
    have ih := lgs_len As
    unfold lg_sl at ih ⊢
    rw [List.flatMap_cons, List.length_append, ih, List.map_cons, List.sum_cons]
    congr 1
    cases v <;> simp [Value.category]
theorem sum_rev (l : List Nat) : l.reverse.sum = l.sum := by
  induction l with
  | nil => rfl
  | cons a l ih => rw [List.reverse_cons, List.sum_append, ih]; simp [Nat.add_comm]
theorem sArgs_ok (hE : gEn ρ ν S.1) : ∀ {T : List Nat} {As : List Value} (i : Nat), gSt ν T As → sKnown S.1 T = true → gLo ν (lv_args i As) (sArgs S.1 i T) ∧ ∀ k, k < i → ∀ p ∈ lv_args i As, p.1 ≠ k
  | [], [], i, _, _ => ⟨fun e he => (by cases he), fun k hk p hp => (by cases hp)⟩
  | s :: T, v :: As, i, hT, hk => by
    obtain ⟨w, st', e, hs, hT⟩ := hT.inv
    cases e
    unfold sKnown at hk
    rw [List.all_cons] at hk
    obtain ⟨k1, k2⟩ := Bool.and_eq_true_iff.mp hk
    have hc : (if v.category = 2 then i + 2 else i + 1) = i + tCat (sGet S.1 s) := by
      unfold tCat
      rcases Bool.or_eq_true_iff.mp k1 with k1 | k1
      · rw [tHas_narr (hE.2 _ _ hs) k1, if_pos k1]
        rfl
      · have hn : ¬ tNarr (sGet S.1 s) = true := fun q => by
          have h1 := tHas_narr (hE.2 _ _ hs) q
          have h2 := tHas_wide (hE.2 _ _ hs) k1
          omega
        rw [tHas_wide (hE.2 _ _ hs) k1, if_neg hn]
        rfl
    have ih := sArgs_ok hE (i + tCat (sGet S.1 s)) hT k2
    have hpos : 1 ≤ tCat (sGet S.1 s) := by
      unfold tCat
      split <;> omega
    unfold lv_args sArgs
    rw [hc]
    refine ⟨fun e he => ?_, fun k hk p hp => ?_⟩
    · rcases List.mem_cons.mp he with rfl | he
      · exact ⟨v, by unfold zld; rw [if_pos rfl], hs⟩
      · obtain ⟨x, x1, x2⟩ := ih.1 e he
        refine ⟨x, ?_, x2⟩
        have hm := zld_mem x1
        have hne : ¬ i = e.1 := fun q => ih.2 i (by omega) _ hm q.symm
        unfold zld
        rw [if_neg hne]
        exact x1
    · rcases List.mem_cons.mp hp with rfl | hp
      · exact Nat.ne_of_gt hk
      · exact ih.2 k (by omega) p hp
  | [], _ :: _, _, hT, _ => by cases hT
  | _ :: _, [], _, hT, _ => by cases hT
theorem sRc_ok {b : Nat} {As : List Nat} {vs : List Value} (hA : gA hb ub ρ ν S lv st h u) (hH : tHeap W N ρ h) (hT : gSt ν As vs) (hr : sRc W b S As = true) : zRc b vs h := by
  unfold sRc at hr
  unfold zRc
  rcases Bool.or_eq_true_iff.mp hr with hr | hr
  · exact Or.inl (by simpa using hr)
  · right
    split at hr
    · rename_i o r
      obtain ⟨v, vs', rfl, ho, hT⟩ := hT.inv
      obtain ⟨h1, h2⟩ := Bool.and_eq_true_iff.mp hr
      obtain ⟨q, rfl, hq⟩ := hA.ref ho (by simpa using h1)
      obtain ⟨c, hc⟩ := hH.role hq
      split at h2
      · rename_i R hR
        obtain ⟨h3, h4⟩ := Bool.and_eq_true_iff.mp h2
        have hC := hH.2.2.1 q c _ R hc hq hR
        dsimp only
        rw [hc]
        exact ⟨by rw [hC.1]; simpa using h3, by rw [hC.1]; exact of_decide_eq_true h4⟩
      · cases h2
    · cases hr
theorem sRt_ok {ret : Option FieldType} {i : Instr} {k : Nat} (hA : gA hb ub ρ ν S lv st h u) (hr : sRt ret i S = some k) : ∃ v, zRt ret i st = some v ∧ exO k st (.inl v) := by
  have one : ∀ s : Nat, S.2.2.1 = [s] → ∃ v, st = [v] ∧ ν[s]? = some v := fun s e => by
    have hT := hA.2.2.1
    rw [e] at hT
    obtain ⟨v, st', rfl, h1, h2⟩ := hT.inv
    have := h2.len
    cases st' with
    | nil => exact ⟨v, rfl, h1⟩
    | cons => simp at this
  unfold sRt at hr
  split at hr
  · split at hr
    · rename_i s ty hs
      split at hr
      · rename_i c
        cases hr
        obtain ⟨v, rfl, hv⟩ := one s hs
        obtain ⟨x, rfl, -⟩ := hA.int hv c.1
        have hz := (Bool.and_eq_true_iff.mp (tFit_ok c.2 (hA.1.2 _ _ hv))).1
        refine ⟨some (.int x), ?_, rfl, rfl⟩
        unfold zRt
        dsimp only
        rw [if_pos (of_decide_eq_true hz)]
      · cases hr
    · cases hr
  · split at hr
    · rename_i s hs
      split at hr
      · rename_i c
        cases hr
        obtain ⟨v, rfl, hv⟩ := one s hs
        obtain ⟨x, rfl⟩ := tHas_long (hA.1.2 _ _ hv) c
        exact ⟨some (.long x), rfl, rfl, rfl⟩
      · cases hr
    · cases hr
  · split at hr
    · rename_i s hs
      split at hr
      · rename_i c
        cases hr
        obtain ⟨v, rfl, hv⟩ := one s hs
        obtain ⟨x, rfl⟩ := tHas_double (hA.1.2 _ _ hv) c
        exact ⟨some (.double x), rfl, rfl, rfl⟩
      · cases hr
    · cases hr
  · split at hr
    · rename_i s C hs
      split at hr
      · rename_i c
        cases hr
        obtain ⟨v, rfl, hv⟩ := one s hs
        rcases tHas_refs (hA.1.2 _ _ hv) c with rfl | ⟨x, rfl⟩
        · exact ⟨some .null, rfl, rfl, rfl⟩
        · exact ⟨some (.ref x), rfl, rfl, rfl⟩
      · cases hr
    · rename_i s C hs
      split at hr
      · rename_i c
        cases hr
        obtain ⟨v, rfl, hv⟩ := one s hs
        rcases tHas_refs (hA.1.2 _ _ hv) c with rfl | ⟨x, rfl⟩
        · exact ⟨some .null, rfl, rfl, rfl⟩
        · exact ⟨some (.ref x), rfl, rfl, rfl⟩
      · cases hr
    · cases hr
  · split at hr
    · rename_i hs
      cases hr
      have hT := hA.2.2.1
      rw [hs] at hT
      have := hT.len
      cases st with
      | nil => exact ⟨none, rfl, rfl, rfl⟩
      | cons => simp at this
    · cases hr
  · cases hr
theorem cLe.app {sel : Int × Int × Nat → Int} : ∀ {l l2 : List (Int × Int × Nat)} {n m c d : Int}, cLe ν sel n c l → cLe ν sel m d l2 → cLe ν sel (n + m) (c + d) (l ++ l2)
  | [], l2, n, m, c, d, h1, h2 => by
    unfold cLe at h1
    exact h2.mono (nExt.refl ν) (by omega)
  | t :: r, l2, n, m, c, d, h1, h2 => by
    unfold cLe at h1
    obtain ⟨x, e, h1⟩ := h1
    have ih := cLe.app h1 h2
    show cLe ν sel (n + m) (c + d) (t :: (r ++ l2))
    unfold cLe
    exact ⟨x, e, ih.mono (nExt.refl ν) (by omega)⟩
theorem cLe.mp {ν' : List Value} {mx : Nat → Nat} {sel : Int × Int → Int} (hm : ∀ (s : Nat) (v : Value), ν[s]? = some v → ν'[mx s]? = some v) : ∀ {l : List (Int × Int × Nat)} {n c : Int}, cLe ν (fun t => sel (t.1, t.2.1)) n c l → cLe ν' (fun t => sel (t.1, t.2.1)) n c (l.map (fun t => (t.1, t.2.1, mx t.2.2)))
  | [], n, c, h => h
  | t :: r, n, c, h => by
    rw [List.map_cons]
    unfold cLe at h ⊢
    obtain ⟨x, e, h⟩ := h
    exact ⟨x, hm _ _ e, cLe.mp hm h⟩
end ckA
