/-! ===== the law's loop: the turns one after another ===== -/
def lIH (n : Nat) : Prop := ∀ (f : Bool) (N : Int) (ρ : List Nat) (ν : List Value) (lv : List (Nat × Value)) (h : List zC) (u : Nat) (i R C A : Int32) (F : Int), gA h.length u ρ ν (lS f) lv [] h u → tHeap wT N ρ h → ν[4]? = some (.int i) → ν[7]? = some (.int R) → ν[9]? = some (.int C) → ν[11]? = some (.int A) →
  lAcc f h.length u i.toInt R.toInt C.toInt A.toInt F → 4104 - i.toInt ≤ n → zE zrx zi 57 243 27 lv [] h u lKK
theorem l_next {n hb ub : Nat} {g : Bool} {S : sS} {N : Int} {ρ : List Nat} {ν : List Value} {lv : List (Nat × Value)} {st : List Value} {h : List zC} {u m4 m7 m9 m11 : Nat} {i R C A : Int32} {F : Int} (ih : lIH n) (m : List Nat) (h7 : S.2.2.2.1.all (fun f => !(f.1 == 7)) = true) (hm : mOk m (S.1, S.2.1, S.2.2.1, S.2.2.2.1, 0, 0, []) (lS g) = true) (hA : gA hb ub ρ ν S lv st h u) (hs : S.2.2.1 = []) (hH : tHeap wT N ρ h)
    (e4 : m[4]? = some m4) (e7 : m[7]? = some m7) (e9 : m[9]? = some m9) (e11 : m[11]? = some m11) (v4 : ν[m4]? = some (.int i)) (v7 : ν[m7]? = some (.int R)) (v9 : ν[m9]? = some (.int C)) (v11 : ν[m11]? = some (.int A)) (acc : lAcc g h.length u i.toInt R.toInt C.toInt A.toInt F) (hn : 4104 - i.toInt ≤ n) : zE zrx zi 57 243 27 lv st h u lKK := by
  obtain ⟨b1, b2⟩ := hA.rebase m h7 hm
  have hT := hA.2.2.1
  rw [hs] at hT
  have e : st = [] := by
    unfold gSt at hT
    cases st with
    | nil => rfl
    | cons x r => simp at hT
  subst e
  have get : ∀ {s x : Nat} {v : Value}, m[s]? = some x → ν[x]? = some v → (mv ν m)[s]? = some v := fun q1 q2 => by
    obtain ⟨v, w1, w2⟩ := b2 _ _ q1
    rw [q2] at w1
    cases w1
    exact w2
  exact ih g N ρ (mv ν m) lv h u i R C A F b1 hH (get e4 v4) (get e7 v7) (get e9 v9) (get e11 v11) acc hn
/-- the place behind a turn -/
theorem l_i {hb ub : Nat} {S : sS} {ρ : List Nat} {ν : List Value} {lv : List (Nat × Value)} {st : List Value} {h : List zC} {u : Nat} {i : Int32} (hA : gA hb ub ρ ν S lv st h u) (f1 : S.2.2.2.1[13]? = some (0, 26, 4, 0, 8)) (f2 : S.2.2.2.1[14]? = some (0, 4, 26, 0, -8)) (v4 : ν[4]? = some (.int i)) : ∃ i' : Int32, ν[26]? = some (.int i') ∧ i'.toInt = i.toInt + 8 := by
  obtain ⟨x, y, a1, a2, a3⟩ := fAt 13 hA f1
  obtain ⟨x2, y2, b1, b2, b3⟩ := fAt 14 hA f2
  dsimp only at a1 a2 a3 b1 b2 b3
  rw [v4] at a2 b1
  cases a2
  cases b1
  rw [a1] at b2
  cases b2
  exact ⟨x, a1, by omega⟩
/-- one more of a size -/
theorem l_one {hb ub k : Nat} {S : sS} {ρ : List Nat} {ν : List Value} {lv : List (Nat × Value)} {st : List Value} {h : List zC} {u : Nat} {R : Int32} (hA : gA hb ub ρ ν S lv st h u) (f1 : S.2.2.2.1[16]? = some (0, 27, k, 0, 1)) (f2 : S.2.2.2.1[17]? = some (0, k, 27, 0, -1)) (v : ν[k]? = some (.int R)) : ∃ R' : Int32, ν[27]? = some (.int R') ∧ R'.toInt = R.toInt + 1 := by
  obtain ⟨x, y, a1, a2, a3⟩ := fAt 16 hA f1
  obtain ⟨x2, y2, b1, b2, b3⟩ := fAt 17 hA f2
  dsimp only at a1 a2 a3 b1 b2 b3
  rw [v] at a2 b1
  cases a2
  cases b1
  rw [a1] at b2
  cases b2
  exact ⟨x, a1, by omega⟩
theorem lD_lo (R C A : Int) : 11800 ≤ lD R C A ∧ 6030 + 72 * R + 207 * C + 169 * A ≤ lD R C A ∧ 110 ≤ lDc R C A ∧ 170 + 6 * R + 18 * C + 13 * A ≤ lDc R C A := by
  unfold lD lDc
  obtain ⟨a1, a2, -⟩ := iMx_ok 11800 (6030 + 72 * R + 207 * C + 169 * A)
  obtain ⟨c1, c2, -⟩ := iMx_ok 110 (170 + 6 * R + 18 * C + 13 * A)
  exact ⟨a1, a2, c1, c2⟩
theorem l_turn_e {n : Nat} (ih : lIH n) : ∀ (N : Int) (ρ : List Nat) (ν : List Value) (lv : List (Nat × Value)) (h : List zC) (u : Nat) (i R C A : Int32) (F : Int), gA h.length u ρ ν lS_e lv [] h u → tHeap wT N ρ h → ν[4]? = some (.int i) → ν[7]? = some (.int R) → ν[9]? = some (.int C) → ν[11]? = some (.int A) →
    lAcc false h.length u i.toInt R.toInt C.toInt A.toInt F → 4104 - i.toInt ≤ (n + 1 : Nat) → zE zrx zi 57 243 27 lv [] h u lKK := by
  intro N ρ ν lv h u i R C A F hA hH v4 v7 v9 v11 acc hn
  obtain ⟨i2, e4, i3, i4⟩ := hA.int v4 rfl
  cases e4
  obtain ⟨R2, e7, R3, R4⟩ := hA.int v7 rfl
  cases e7
  obtain ⟨C2, e9, C3, C4⟩ := hA.int v9 rfl
  cases e9
  obtain ⟨A2, e11, A3, A4⟩ := hA.int v11 rfl
  cases e11
  have i3 : 0 ≤ i.toInt := i3
  have i4 : i.toInt ≤ 4096 := i4
  have R3 : 0 ≤ R.toInt := R3
  have R4 : R.toInt ≤ 40 := R4
  have C3 : 0 ≤ C.toInt := C3
  have C4 : C.toInt ≤ 24 := C4
  have A3 : 0 ≤ A.toInt := A3
  have A4 : A.toInt ≤ 24 := A4
  obtain ⟨rm1, rm2⟩ := acc.room i4 R3 R4 C3 C4 A3 A4
  obtain ⟨dl1, dl2, dl3, dl4⟩ := lD_lo R.toInt C.toInt A.toInt
  have hlen : ν.length ≤ 26 := by
    rw [← hA.1.1]
    exact Nat.le_of_eq rfl
  have hW := wT_ok
  unfold wOk at hW
  obtain ⟨w1, w2⟩ := Bool.and_eq_true_iff.mp hW
  obtain ⟨w2, w3⟩ := Bool.and_eq_true_iff.mp w2
  have w2 : wLk wT 999 = false := by simpa using w2
  have w3 : wR wT 999 = none := by simpa using w3
  refine chk_two2 (ρ0 := ρ) (h0 := h) (N0 := N) (hb := h.length) (ub := u) w1 w3 w2 rm2 rm1 rfl lC_e_ok 3000 true false (lAr.map (fun p => (p, lM_e, []))) lH_e 57 243 27 lS_e lK lB_e (fun x hx => by
    obtain ⟨p, hp, rfl⟩ := List.mem_map.mp hx
    exact lB_e_all p hp) 57 (Nat.le_refl _) ν ν lKK N ρ lv [] h u (nExt.refl ν) hlen hA hH (gFr.refl _ _ _) ⟨hH.1, fun _ _ e => e⟩ (Int.le_refl _) ?_ ?_
  · intro x hx N2 ρ2 ν2 lv2 st2 h2 u2 w2 m1 m2 m3 m4 m5 m6 m7 m8
    have u4 := m2 _ _ v4
    have u7 := m2 _ _ v7
    have u9 := m2 _ _ v9
    have u11 := m2 _ _ v11
    unfold lH_e at hx
    rcases List.mem_cons.mp hx with rfl | hx
    · dsimp only at m3 ⊢
      obtain ⟨j, j1, j2⟩ := l_i m3 rfl rfl u4
      obtain ⟨q4, q8⟩ := m3.2.2.2.2
      have q4 : (h2.length : Int) - h.length ≤ 110 := q4
      have q8 : (u2 : Int) - u ≤ 11800 := q8
      exact l_next (g := false) ih [0, 1, 2, 3, 26, 5, 6, 7, 8, 9, 10, 11, 12, 13, 14, 15, 16, 17, 18, 19, 20, 21, 22, 23, 24, 25] (by decide +kernel) (by decide +kernel) m3 rfl m4 rfl rfl rfl rfl j1 u7 u9 u11 (acc.dear j2 (by omega) (by omega) false (fun z => z)) (by omega)
    rcases List.mem_cons.mp hx with rfl | hx
    · dsimp only at m3 ⊢
      obtain ⟨j, j1, j2⟩ := l_i m3 rfl rfl u4
      obtain ⟨⟨x1, q1, x2, q2, x3, q3, q4⟩, ⟨x4, q5, x5, q6, x6, q7, q8⟩⟩ := m3.2.2.2.2
      dsimp only at q1 q2 q3 q5 q6 q7
      rw [u7] at q1
      cases q1
      rw [u7] at q5
      cases q5
      rw [u9] at q2
      cases q2
      rw [u9] at q6
      cases q6
      rw [u11] at q3
      cases q3
      rw [u11] at q7
      cases q7
      unfold cLe at q4 q8
      dsimp only at q4 q8
      have z1 : lT_ed.2.2.2.2.1 = 170 := rfl
      have z2 : lT_ed.2.2.2.2.2.1 = 6030 := rfl
      exact l_next (g := false) ih [0, 1, 2, 3, 26, 5, 6, 7, 8, 9, 10, 11, 12, 13, 14, 15, 16, 17, 18, 19, 20, 21, 22, 23, 24, 25] (by decide +kernel) (by decide +kernel) m3 rfl m4 rfl rfl rfl rfl j1 u7 u9 u11 (acc.dear j2 (by omega) (by omega) false (fun z => z)) (by omega)
    rcases List.mem_cons.mp hx with rfl | hx
    · dsimp only at m3 ⊢
      obtain ⟨j, j1, j2⟩ := l_i m3 rfl rfl u4
      obtain ⟨y, y1, y2⟩ := l_one m3 rfl rfl u7
      obtain ⟨q4, q8⟩ := m3.2.2.2.2
      have q4 : (h2.length : Int) - h.length ≤ 8 := q4
      have q8 : (u2 : Int) - u ≤ 100 := q8
      exact l_next (g := false) ih [0, 1, 2, 3, 26, 5, 6, 27, 8, 9, 10, 11, 12, 13, 14, 15, 16, 17, 18, 19, 20, 21, 22, 23, 24, 25] (by decide +kernel) (by decide +kernel) m3 rfl m4 rfl rfl rfl rfl j1 y1 u9 u11 (acc.grow (g := false) j2 (by omega) (by omega) (by omega) (by omega) (by omega) (by omega) (by omega)) (by omega)
    rcases List.mem_cons.mp hx with rfl | hx
    · dsimp only at m3 ⊢
      obtain ⟨j, j1, j2⟩ := l_i m3 rfl rfl u4
      obtain ⟨y, y1, y2⟩ := l_one m3 rfl rfl u9
      obtain ⟨q4, q8⟩ := m3.2.2.2.2
      have q4 : (h2.length : Int) - h.length ≤ 8 := q4
      have q8 : (u2 : Int) - u ≤ 100 := q8
      exact l_next (g := false) ih [0, 1, 2, 3, 26, 5, 6, 7, 8, 27, 10, 11, 12, 13, 14, 15, 16, 17, 18, 19, 20, 21, 22, 23, 24, 25] (by decide +kernel) (by decide +kernel) m3 rfl m4 rfl rfl rfl rfl j1 u7 y1 u11 (acc.grow (g := false) j2 (by omega) (by omega) (by omega) (by omega) (by omega) (by omega) (by omega)) (by omega)
    rcases List.mem_cons.mp hx with rfl | hx
    · dsimp only at m3 ⊢
      obtain ⟨j, j1, j2⟩ := l_i m3 rfl rfl u4
      obtain ⟨q4, q8⟩ := m3.2.2.2.2
      have q4 : (h2.length : Int) - h.length ≤ 8 := q4
      have q8 : (u2 : Int) - u ≤ 100 := q8
      exact l_next (g := false) ih [0, 1, 2, 3, 26, 5, 6, 7, 8, 9, 10, 11, 12, 13, 27, 15, 16, 17, 18, 19, 20, 21, 22, 23, 24, 25] (by decide +kernel) (by decide +kernel) m3 rfl m4 rfl rfl rfl rfl j1 u7 u9 u11 (acc.dear j2 (by omega) (by omega) false (fun z => z)) (by omega)
    rcases List.mem_cons.mp hx with rfl | hx
    · dsimp only at m3 ⊢
      obtain ⟨j, j1, j2⟩ := l_i m3 rfl rfl u4
      obtain ⟨q4, q8⟩ := m3.2.2.2.2
      have q4 : (h2.length : Int) - h.length ≤ 8 := q4
      have q8 : (u2 : Int) - u ≤ 280 := q8
      exact l_next (g := true) ih [0, 1, 2, 3, 26, 5, 6, 7, 8, 9, 10, 11, 12, 13, 27, 15, 16, 17, 18, 19, 20, 21, 22, 23, 24, 25] (by decide +kernel) (by decide +kernel) m3 rfl m4 rfl rfl rfl rfl j1 u7 u9 u11 (acc.feed j2 (by omega) (by omega)) (by omega)
    rcases List.mem_cons.mp hx with rfl | hx
    · dsimp only at m3 ⊢
      obtain ⟨j, j1, j2⟩ := l_i m3 rfl rfl u4
      obtain ⟨q4, q8⟩ := m3.2.2.2.2
      have q4 : (h2.length : Int) - h.length ≤ 0 := q4
      have q8 : (u2 : Int) - u ≤ 0 := q8
      exact l_next (g := false) ih [0, 1, 2, 3, 26, 5, 6, 7, 8, 9, 10, 11, 27, 28, 14, 15, 16, 17, 18, 19, 20, 21, 22, 23, 24, 25] (by decide +kernel) (by decide +kernel) m3 rfl m4 rfl rfl rfl rfl j1 u7 u9 u11 (acc.dear j2 (by omega) (by omega) false (fun z => z)) (by omega)
    rcases List.mem_cons.mp hx with rfl | hx
    · dsimp only at m3 ⊢
      obtain ⟨j, j1, j2⟩ := l_i m3 rfl rfl u4
      obtain ⟨q4, q8⟩ := m3.2.2.2.2
      have q4 : (h2.length : Int) - h.length ≤ 110 := q4
      have q8 : (u2 : Int) - u ≤ 11800 := q8
      exact l_next (g := false) ih [0, 1, 2, 3, 26, 5, 6, 7, 8, 9, 10, 11, 12, 13, 14, 15, 16, 17, 18, 19, 20, 21, 27, 28, 29, 30] (by decide +kernel) (by decide +kernel) m3 rfl m4 rfl rfl rfl rfl j1 u7 u9 u11 (acc.dear j2 (by omega) (by omega) false (fun z => z)) (by omega)
    cases hx
  · intro k S' hk N' ρ' ν' st' h' u' o n1 n2 n3 n4 n5 n6 n7
    unfold lK at hk
    obtain ⟨k1, k2⟩ := Bool.and_eq_true_iff.mp hk
    have k1 : k = 1 := by simpa using k1
    subst k1
    split at k2
    · rename_i s hs
      have k2 := of_decide_eq_true k2
      have hT := n3.2.2.1
      rw [hs] at hT
      obtain ⟨v, st1, rfl, e1, hT⟩ := hT.inv
      obtain ⟨v2, e2, e3⟩ := exO_one n7
      cases e3
      obtain ⟨y, e5, y1, y2⟩ := n3.int e1 (by rw [k2])
      rw [k2] at y1 y2
      have y1 : (1 : Int) ≤ y.toInt := y1
      have y2 : y.toInt ≤ 1 := y2
      have e6 : y = 1 := Int32.toInt_inj.mp (by show y.toInt = 1; omega)
      rw [e2, e5, e6]
      rfl
    · cases k2
theorem l_turn_f {n : Nat} (ih : lIH n) : ∀ (N : Int) (ρ : List Nat) (ν : List Value) (lv : List (Nat × Value)) (h : List zC) (u : Nat) (i R C A : Int32) (F : Int), gA h.length u ρ ν lS_f lv [] h u → tHeap wT N ρ h → ν[4]? = some (.int i) → ν[7]? = some (.int R) → ν[9]? = some (.int C) → ν[11]? = some (.int A) →
    lAcc true h.length u i.toInt R.toInt C.toInt A.toInt F → 4104 - i.toInt ≤ (n + 1 : Nat) → zE zrx zi 57 243 27 lv [] h u lKK := by
  intro N ρ ν lv h u i R C A F hA hH v4 v7 v9 v11 acc hn
  obtain ⟨i2, e4, i3, i4⟩ := hA.int v4 rfl
  cases e4
  obtain ⟨R2, e7, R3, R4⟩ := hA.int v7 rfl
  cases e7
  obtain ⟨C2, e9, C3, C4⟩ := hA.int v9 rfl
  cases e9
  obtain ⟨A2, e11, A3, A4⟩ := hA.int v11 rfl
  cases e11
  have i3 : 0 ≤ i.toInt := i3
  have i4 : i.toInt ≤ 4096 := i4
  have R3 : 0 ≤ R.toInt := R3
  have R4 : R.toInt ≤ 40 := R4
  have C3 : 0 ≤ C.toInt := C3
  have C4 : C.toInt ≤ 24 := C4
  have A3 : 0 ≤ A.toInt := A3
  have A4 : A.toInt ≤ 24 := A4
  obtain ⟨rm1, rm2⟩ := acc.room i4 R3 R4 C3 C4 A3 A4
  obtain ⟨dl1, dl2, dl3, dl4⟩ := lD_lo R.toInt C.toInt A.toInt
  have hlen : ν.length ≤ 26 := by
    rw [← hA.1.1]
    exact Nat.le_of_eq rfl
  have hW := wT_ok
  unfold wOk at hW
  obtain ⟨w1, w2⟩ := Bool.and_eq_true_iff.mp hW
  obtain ⟨w2, w3⟩ := Bool.and_eq_true_iff.mp w2
  have w2 : wLk wT 999 = false := by simpa using w2
  have w3 : wR wT 999 = none := by simpa using w3
  refine chk_two2 (ρ0 := ρ) (h0 := h) (N0 := N) (hb := h.length) (ub := u) w1 w3 w2 rm2 rm1 rfl lC_f_ok 3000 true false (lAr.map (fun p => (p, lM_f, []))) lH_f 57 243 27 lS_f lK lB_f (fun x hx => by
    obtain ⟨p, hp, rfl⟩ := List.mem_map.mp hx
    exact lB_f_all p hp) 57 (Nat.le_refl _) ν ν lKK N ρ lv [] h u (nExt.refl ν) hlen hA hH (gFr.refl _ _ _) ⟨hH.1, fun _ _ e => e⟩ (Int.le_refl _) ?_ ?_
  · intro x hx N2 ρ2 ν2 lv2 st2 h2 u2 w2 m1 m2 m3 m4 m5 m6 m7 m8
    have u4 := m2 _ _ v4
    have u7 := m2 _ _ v7
    have u9 := m2 _ _ v9
    have u11 := m2 _ _ v11
    unfold lH_f at hx
    rcases List.mem_cons.mp hx with rfl | hx
    · dsimp only at m3 ⊢
      obtain ⟨j, j1, j2⟩ := l_i m3 rfl rfl u4
      obtain ⟨q4, q8⟩ := m3.2.2.2.2
      have q4 : (h2.length : Int) - h.length ≤ 110 := q4
      have q8 : (u2 : Int) - u ≤ 11800 := q8
      exact l_next (g := true) ih [0, 1, 2, 3, 26, 5, 6, 7, 8, 9, 10, 11, 12, 13, 14, 15, 16, 17, 18, 19, 20, 21, 22, 23, 24, 25] (by decide +kernel) (by decide +kernel) m3 rfl m4 rfl rfl rfl rfl j1 u7 u9 u11 (acc.dear j2 (by omega) (by omega) true (fun z => z)) (by omega)
    rcases List.mem_cons.mp hx with rfl | hx
    · dsimp only at m3 ⊢
      obtain ⟨j, j1, j2⟩ := l_i m3 rfl rfl u4
      obtain ⟨⟨x1, q1, x2, q2, x3, q3, q4⟩, ⟨x4, q5, x5, q6, x6, q7, q8⟩⟩ := m3.2.2.2.2
      dsimp only at q1 q2 q3 q5 q6 q7
      rw [u7] at q1
      cases q1
      rw [u7] at q5
      cases q5
      rw [u9] at q2
      cases q2
      rw [u9] at q6
      cases q6
      rw [u11] at q3
      cases q3
      rw [u11] at q7
      cases q7
      unfold cLe at q4 q8
      dsimp only at q4 q8
      have z1 : lT_fd.2.2.2.2.1 = 170 := rfl
      have z2 : lT_fd.2.2.2.2.2.1 = 6030 := rfl
      exact l_next (g := true) ih [0, 1, 2, 3, 26, 5, 6, 7, 8, 9, 10, 11, 12, 13, 14, 15, 16, 17, 18, 19, 20, 21, 22, 23, 24, 25] (by decide +kernel) (by decide +kernel) m3 rfl m4 rfl rfl rfl rfl j1 u7 u9 u11 (acc.dear j2 (by omega) (by omega) true (fun z => z)) (by omega)
    rcases List.mem_cons.mp hx with rfl | hx
    · dsimp only at m3 ⊢
      obtain ⟨j, j1, j2⟩ := l_i m3 rfl rfl u4
      obtain ⟨y, y1, y2⟩ := l_one m3 rfl rfl u7
      obtain ⟨q4, q8⟩ := m3.2.2.2.2
      have q4 : (h2.length : Int) - h.length ≤ 8 := q4
      have q8 : (u2 : Int) - u ≤ 100 := q8
      exact l_next (g := true) ih [0, 1, 2, 3, 26, 5, 6, 27, 8, 9, 10, 11, 12, 13, 14, 15, 16, 17, 18, 19, 20, 21, 22, 23, 24, 25] (by decide +kernel) (by decide +kernel) m3 rfl m4 rfl rfl rfl rfl j1 y1 u9 u11 (acc.grow (g := true) j2 (by omega) (by omega) (by omega) (by omega) (by omega) (by omega) (by omega)) (by omega)
    rcases List.mem_cons.mp hx with rfl | hx
    · dsimp only at m3 ⊢
      obtain ⟨j, j1, j2⟩ := l_i m3 rfl rfl u4
      obtain ⟨y, y1, y2⟩ := l_one m3 rfl rfl u9
      obtain ⟨q4, q8⟩ := m3.2.2.2.2
      have q4 : (h2.length : Int) - h.length ≤ 8 := q4
      have q8 : (u2 : Int) - u ≤ 100 := q8
      exact l_next (g := true) ih [0, 1, 2, 3, 26, 5, 6, 7, 8, 27, 10, 11, 12, 13, 14, 15, 16, 17, 18, 19, 20, 21, 22, 23, 24, 25] (by decide +kernel) (by decide +kernel) m3 rfl m4 rfl rfl rfl rfl j1 u7 y1 u11 (acc.grow (g := true) j2 (by omega) (by omega) (by omega) (by omega) (by omega) (by omega) (by omega)) (by omega)
    rcases List.mem_cons.mp hx with rfl | hx
    · dsimp only at m3 ⊢
      obtain ⟨j, j1, j2⟩ := l_i m3 rfl rfl u4
      obtain ⟨y, y1, y2⟩ := l_one m3 rfl rfl u11
      obtain ⟨q4, q8⟩ := m3.2.2.2.2
      have q4 : (h2.length : Int) - h.length ≤ 8 := q4
      have q8 : (u2 : Int) - u ≤ 100 := q8
      exact l_next (g := false) ih [0, 1, 2, 3, 26, 5, 6, 7, 8, 9, 10, 27, 12, 13, 28, 15, 16, 17, 18, 19, 20, 21, 22, 23, 24, 25] (by decide +kernel) (by decide +kernel) m3 rfl m4 rfl rfl rfl rfl j1 u7 u9 y1 (acc.grow (g := false) j2 (by omega) (by omega) (by omega) (by omega) (by simp; omega) (by omega) (by omega)) (by omega)
    rcases List.mem_cons.mp hx with rfl | hx
    · dsimp only at m3 ⊢
      obtain ⟨j, j1, j2⟩ := l_i m3 rfl rfl u4
      obtain ⟨q4, q8⟩ := m3.2.2.2.2
      have q4 : (h2.length : Int) - h.length ≤ 8 := q4
      have q8 : (u2 : Int) - u ≤ 100 := q8
      exact l_next (g := false) ih [0, 1, 2, 3, 26, 5, 6, 7, 8, 9, 10, 11, 12, 13, 27, 15, 16, 17, 18, 19, 20, 21, 22, 23, 24, 25] (by decide +kernel) (by decide +kernel) m3 rfl m4 rfl rfl rfl rfl j1 u7 u9 u11 (acc.dear j2 (by omega) (by omega) false (fun z => by cases z)) (by omega)
    rcases List.mem_cons.mp hx with rfl | hx
    · dsimp only at m3 ⊢
      obtain ⟨j, j1, j2⟩ := l_i m3 rfl rfl u4
      obtain ⟨q4, q8⟩ := m3.2.2.2.2
      have q4 : (h2.length : Int) - h.length ≤ 8 := q4
      have q8 : (u2 : Int) - u ≤ 280 := q8
      exact l_next (g := true) ih [0, 1, 2, 3, 26, 5, 6, 7, 8, 9, 10, 11, 12, 13, 27, 15, 16, 17, 18, 19, 20, 21, 22, 23, 24, 25] (by decide +kernel) (by decide +kernel) m3 rfl m4 rfl rfl rfl rfl j1 u7 u9 u11 (acc.feed j2 (by omega) (by omega)) (by omega)
    rcases List.mem_cons.mp hx with rfl | hx
    · dsimp only at m3 ⊢
      obtain ⟨j, j1, j2⟩ := l_i m3 rfl rfl u4
      obtain ⟨q4, q8⟩ := m3.2.2.2.2
      have q4 : (h2.length : Int) - h.length ≤ 0 := q4
      have q8 : (u2 : Int) - u ≤ 0 := q8
      exact l_next (g := true) ih [0, 1, 2, 3, 26, 5, 6, 7, 8, 9, 10, 11, 27, 28, 14, 15, 16, 17, 18, 19, 20, 21, 22, 23, 24, 25] (by decide +kernel) (by decide +kernel) m3 rfl m4 rfl rfl rfl rfl j1 u7 u9 u11 (acc.dear j2 (by omega) (by omega) true (fun z => z)) (by omega)
    rcases List.mem_cons.mp hx with rfl | hx
    · dsimp only at m3 ⊢
      obtain ⟨j, j1, j2⟩ := l_i m3 rfl rfl u4
      obtain ⟨q4, q8⟩ := m3.2.2.2.2
      have q4 : (h2.length : Int) - h.length ≤ 110 := q4
      have q8 : (u2 : Int) - u ≤ 11800 := q8
      exact l_next (g := true) ih [0, 1, 2, 3, 26, 5, 6, 7, 8, 9, 10, 11, 12, 13, 14, 15, 16, 17, 18, 19, 20, 21, 27, 28, 29, 30] (by decide +kernel) (by decide +kernel) m3 rfl m4 rfl rfl rfl rfl j1 u7 u9 u11 (acc.dear j2 (by omega) (by omega) true (fun z => z)) (by omega)
    cases hx
  · intro k S' hk N' ρ' ν' st' h' u' o n1 n2 n3 n4 n5 n6 n7
    unfold lK at hk
    obtain ⟨k1, k2⟩ := Bool.and_eq_true_iff.mp hk
    have k1 : k = 1 := by simpa using k1
    subst k1
    split at k2
    · rename_i s hs
      have k2 := of_decide_eq_true k2
      have hT := n3.2.2.1
      rw [hs] at hT
      obtain ⟨v, st1, rfl, e1, hT⟩ := hT.inv
      obtain ⟨v2, e2, e3⟩ := exO_one n7
      cases e3
      obtain ⟨y, e5, y1, y2⟩ := n3.int e1 (by rw [k2])
      rw [k2] at y1 y2
      have y1 : (1 : Int) ≤ y.toInt := y1
      have y2 : y.toInt ≤ 1 := y2
      have e6 : y = 1 := Int32.toInt_inj.mp (by show y.toInt = 1; omega)
      rw [e2, e5, e6]
      rfl
    · cases k2
theorem l_turns : ∀ n : Nat, lIH n
  | 0 => fun f N ρ ν lv h u i R C A F hA hH v4 v7 v9 v11 acc hn => by
    have i4 : i.toInt ≤ 4096 := by
      cases f with
      | false =>
        obtain ⟨i2, e4, -, i4⟩ := (show gA h.length u ρ ν lS_e lv [] h u from hA).int v4 rfl
        cases e4
        exact i4
      | true =>
        obtain ⟨i2, e4, -, i4⟩ := (show gA h.length u ρ ν lS_f lv [] h u from hA).int v4 rfl
        cases e4
        exact i4
    omega
  | n + 1 => fun f N ρ ν lv h u i R C A F hA hH v4 v7 v9 v11 acc hn => by
    cases f with
    | false => exact l_turn_e (l_turns n) N ρ ν lv h u i R C A F hA hH v4 v7 v9 v11 acc hn
    | true => exact l_turn_f (l_turns n) N ρ ν lv h u i R C A F hA hH v4 v7 v9 v11 acc hn
