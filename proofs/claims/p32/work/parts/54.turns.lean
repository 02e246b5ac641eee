/-! ===== the law's loop: the turns, on ===== -/
theorem l_turn_e {n : Nat} (ih : lIH n) : ∀ (N : Int) (ρ : List Nat) (ν : List Value) (lv : List (Nat × Value)) (h : List zC) (u : Nat) (i R C A : Int32) (F : Int), gA h.length u ρ ν lS_e lv [] h u → tHeap wT N ρ h → ν[4]? = some (.int i) → ν[7]? = some (.int R) → ν[9]? = some (.int C) → ν[11]? = some (.int A) →
    lAcc false h.length u i.toInt R.toInt C.toInt A.toInt F → 4104 - i.toInt ≤ (n + 1 : Nat) → lR ρ ν h → zE zrx zi 57 243 27 lv [] h u lKK := by
  intro N ρ ν lv h u i R C A F hA hH v4 v7 v9 v11 acc hn hR
  obtain ⟨i2, e4, i3, i4⟩ := hA.int v4 rfl
  cases e4
  obtain ⟨R2, e7, R3, R4⟩ := hA.int v7 rfl
  cases e7
  obtain ⟨C2, e9, C3, C4⟩ := hA.int v9 rfl
  cases e9
  obtain ⟨A2, e11, A3, A4⟩ := hA.int v11 rfl
  cases e11
  have i3 : 0 ≤ i.toInt := i3
  have i4 : i.toInt ≤ 4096 := i4
  have R3 : 0 ≤ R.toInt := R3
  have R4 : R.toInt ≤ 40 := R4
  have C3 : 0 ≤ C.toInt := C3
  have C4 : C.toInt ≤ 24 := C4
  have A3 : 0 ≤ A.toInt := A3
  have A4 : A.toInt ≤ 24 := A4
  obtain ⟨rm1, rm2⟩ := acc.room i4 R3 R4 C3 C4 A3 A4
  obtain ⟨dl1, dl2, dl3, dl4⟩ := lD_lo R.toInt C.toInt A.toInt
  have hlen : ν.length ≤ 15 := by
    rw [← hA.1.1]
    exact Nat.le_of_eq rfl
  have hW := wT_ok
  unfold wOk at hW
  obtain ⟨w1, w2⟩ := Bool.and_eq_true_iff.mp hW
  obtain ⟨w2, w3⟩ := Bool.and_eq_true_iff.mp w2
  have w2 : wLk wT 999 = false := by simpa using w2
  have w3 : wR wT 999 = none := by simpa using w3
  refine chk_thr (ρ0 := ρ) (h0 := h) (N0 := N) (hb := h.length) (ub := u) w1 w3 w2 rm2 rm1 rfl lC_e_ok 3000 true false (lAr.map (fun p => (p, lM_e, []))) lH_e 57 243 27 lS_e lK lB_e 57 (Nat.le_refl _) ν ν lKK N ρ lv [] h u (nExt.refl ν) hlen (fun x hx => by
    obtain ⟨p, hp, rfl⟩ := List.mem_map.mp hx
    rcases lB_e_all p hp with q | q
    · exact Or.inl q
    refine Or.inr (fun N2 ρ2 ν2 lv2 st2 h2 u2 m2 m3 m4 m5 m6 => ?_)
    have u4 := m2 _ _ v4
    have u7 := m2 _ _ v7
    have u9 := m2 _ _ v9
    have u11 := m2 _ _ v11
    have hR2 := hR.fr hH m5 m6 m2 stW_l rW_l
    dsimp only at m3 ⊢
    rcases q with rfl | rfl | rfl | rfl | rfl
    · exact lA_e_216 ih m3 m4 u4 u7 u9 u11 i4 acc rm1 rm2 hn hR2
    · exact lA_e_348 ih m3 m4 u4 u7 u9 u11 i4 acc rm1 rm2 hn hR2
    · exact lA_e_452 ih m3 m4 u4 u7 u9 u11 i4 acc rm1 rm2 hn hR2
    · exact lA_e_1028 ih m3 m4 u4 u7 u9 u11 i4 acc rm1 rm2 hn hR2
    · exact lA_e_1469 ih m3 m4 u4 u7 u9 u11 i4 acc rm1 rm2 hn hR2) hA hH (gFr.refl _ _ _) ⟨hH.1, fun _ _ e => e⟩ (Int.le_refl _) ?_ ?_
  · intro x hx N2 ρ2 ν2 lv2 st2 h2 u2 w2 m1 m2 m3 m4 m5 m6 m7 m8
    have u4 := m2 _ _ v4
    have u7 := m2 _ _ v7
    have u9 := m2 _ _ v9
    have u11 := m2 _ _ v11
    unfold lH_e at hx
    rcases List.mem_cons.mp hx with rfl | hx
    · dsimp only at m3 ⊢
      obtain ⟨j, j1, j2⟩ := l_i m3 rfl rfl u4
      obtain ⟨q4, q8⟩ := m3.2.2.2.2
      have q4 : (h2.length : Int) - h.length ≤ 110 := q4
      have q8 : (u2 : Int) - u ≤ 11800 := q8
      exact l_next (g := false) ih [0, 1, 2, 3, 15, 5, 6, 7, 8, 9, 10, 11, 12, 13, 14] (by decide +kernel) (by decide +kernel) m3 rfl m4 rfl rfl rfl rfl j1 u7 u9 u11 (acc.dear j2 (by omega) (by omega) false (fun z => z)) (by omega) rfl rfl rfl (hR.fr hH m5 m6 m2 stW_l rW_l)
    rcases List.mem_cons.mp hx with rfl | hx
    · dsimp only at m3 ⊢
      obtain ⟨j, j1, j2⟩ := l_i m3 rfl rfl u4
      obtain ⟨⟨x1, q1, x2, q2, x3, q3, q4⟩, ⟨x4, q5, x5, q6, x6, q7, q8⟩⟩ := m3.2.2.2.2
      dsimp only at q1 q2 q3 q5 q6 q7
      rw [u7] at q1
      cases q1
      rw [u7] at q5
      cases q5
      rw [u9] at q2
      cases q2
      rw [u9] at q6
      cases q6
      rw [u11] at q3
      cases q3
      rw [u11] at q7
      cases q7
      unfold cLe at q4 q8
      dsimp only at q4 q8
      have z1 : lT_ed.2.2.2.2.1 = 170 := rfl
      have z2 : lT_ed.2.2.2.2.2.1 = 6030 := rfl
      exact l_next (g := false) ih [0, 1, 2, 3, 15, 5, 6, 7, 8, 9, 10, 11, 12, 13, 14] (by decide +kernel) (by decide +kernel) m3 rfl m4 rfl rfl rfl rfl j1 u7 u9 u11 (acc.dear j2 (by omega) (by omega) false (fun z => z)) (by omega) rfl rfl rfl (hR.fr hH m5 m6 m2 stW_l rW_l)
    rcases List.mem_cons.mp hx with rfl | hx
    · dsimp only at m3 ⊢
      obtain ⟨j, j1, j2⟩ := l_i m3 rfl rfl u4
      obtain ⟨y, y1, y2⟩ := l_one m3 rfl rfl u7
      obtain ⟨q4, q8⟩ := m3.2.2.2.2
      have q4 : (h2.length : Int) - h.length ≤ 8 := q4
      have q8 : (u2 : Int) - u ≤ 100 := q8
      exact l_next (g := false) ih [0, 1, 2, 3, 15, 5, 6, 16, 8, 9, 10, 11, 12, 13, 14] (by decide +kernel) (by decide +kernel) m3 rfl m4 rfl rfl rfl rfl j1 y1 u9 u11 (acc.grow (g := false) j2 (by omega) (by omega) (by omega) (by omega) (by omega) (by omega) (by omega)) (by omega) rfl rfl rfl (hR.fr hH m5 m6 m2 stW_l rW_l)
    rcases List.mem_cons.mp hx with rfl | hx
    · dsimp only at m3 ⊢
      obtain ⟨j, j1, j2⟩ := l_i m3 rfl rfl u4
      obtain ⟨y, y1, y2⟩ := l_one m3 rfl rfl u9
      obtain ⟨q4, q8⟩ := m3.2.2.2.2
      have q4 : (h2.length : Int) - h.length ≤ 8 := q4
      have q8 : (u2 : Int) - u ≤ 100 := q8
      exact l_next (g := false) ih [0, 1, 2, 3, 15, 5, 6, 7, 8, 16, 10, 11, 12, 13, 14] (by decide +kernel) (by decide +kernel) m3 rfl m4 rfl rfl rfl rfl j1 u7 y1 u11 (acc.grow (g := false) j2 (by omega) (by omega) (by omega) (by omega) (by omega) (by omega) (by omega)) (by omega) rfl rfl rfl (hR.fr hH m5 m6 m2 stW_l rW_l)
    rcases List.mem_cons.mp hx with rfl | hx
    · dsimp only at m3 ⊢
      obtain ⟨j, j1, j2⟩ := l_i m3 rfl rfl u4
      obtain ⟨q4, q8⟩ := m3.2.2.2.2
      have q4 : (h2.length : Int) - h.length ≤ 8 := q4
      have q8 : (u2 : Int) - u ≤ 100 := q8
      exact l_next (g := false) ih [0, 1, 2, 3, 15, 5, 6, 7, 8, 9, 10, 11, 12, 13, 16] (by decide +kernel) (by decide +kernel) m3 rfl m4 rfl rfl rfl rfl j1 u7 u9 u11 (acc.dear j2 (by omega) (by omega) false (fun z => z)) (by omega) rfl rfl rfl (hR.fr hH m5 m6 m2 stW_l rW_l)
    rcases List.mem_cons.mp hx with rfl | hx
    · dsimp only at m3 ⊢
      obtain ⟨j, j1, j2⟩ := l_i m3 rfl rfl u4
      obtain ⟨q4, q8⟩ := m3.2.2.2.2
      have q4 : (h2.length : Int) - h.length ≤ 8 := q4
      have q8 : (u2 : Int) - u ≤ 280 := q8
      exact l_next (g := true) ih [0, 1, 2, 3, 15, 5, 6, 7, 8, 9, 10, 11, 12, 13, 16] (by decide +kernel) (by decide +kernel) m3 rfl m4 rfl rfl rfl rfl j1 u7 u9 u11 (acc.feed j2 (by omega) (by omega)) (by omega) rfl rfl rfl (hR.fr hH m5 m6 m2 stW_l rW_l)
    rcases List.mem_cons.mp hx with rfl | hx
    · dsimp only at m3 ⊢
      obtain ⟨j, j1, j2⟩ := l_i m3 rfl rfl u4
      obtain ⟨q4, q8⟩ := m3.2.2.2.2
      have q4 : (h2.length : Int) - h.length ≤ 0 := q4
      have q8 : (u2 : Int) - u ≤ 0 := q8
      exact l_next (g := false) ih [0, 1, 2, 3, 15, 5, 6, 7, 8, 9, 10, 11, 16, 17, 14] (by decide +kernel) (by decide +kernel) m3 rfl m4 rfl rfl rfl rfl j1 u7 u9 u11 (acc.dear j2 (by omega) (by omega) false (fun z => z)) (by omega) rfl rfl rfl (hR.fr hH m5 m6 m2 stW_l rW_l)
    cases hx
  · intro k S' hk N' ρ' ν' st' h' u' o n1 n2 n3 n4 n5 n6 n7
    unfold lK at hk
    obtain ⟨k1, k2⟩ := Bool.and_eq_true_iff.mp hk
    have k1 : k = 1 := by simpa using k1
    subst k1
    split at k2
    · rename_i s hs
      have k2 := of_decide_eq_true k2
      have hT := n3.2.2.1
      rw [hs] at hT
      obtain ⟨v, st1, rfl, e1, hT⟩ := hT.inv
      obtain ⟨v2, e2, e3⟩ := exO_one n7
      cases e3
      obtain ⟨y, e5, y1, y2⟩ := n3.int e1 (by rw [k2])
      rw [k2] at y1 y2
      have y1 : (1 : Int) ≤ y.toInt := y1
      have y2 : y.toInt ≤ 1 := y2
      have e6 : y = 1 := Int32.toInt_inj.mp (by show y.toInt = 1; omega)
      rw [e2, e5, e6]
      rfl
    · cases k2
theorem l_turn_f {n : Nat} (ih : lIH n) : ∀ (N : Int) (ρ : List Nat) (ν : List Value) (lv : List (Nat × Value)) (h : List zC) (u : Nat) (i R C A : Int32) (F : Int), gA h.length u ρ ν lS_f lv [] h u → tHeap wT N ρ h → ν[4]? = some (.int i) → ν[7]? = some (.int R) → ν[9]? = some (.int C) → ν[11]? = some (.int A) →
    lAcc true h.length u i.toInt R.toInt C.toInt A.toInt F → 4104 - i.toInt ≤ (n + 1 : Nat) → lR ρ ν h → zE zrx zi 57 243 27 lv [] h u lKK := by
  intro N ρ ν lv h u i R C A F hA hH v4 v7 v9 v11 acc hn hR
  obtain ⟨i2, e4, i3, i4⟩ := hA.int v4 rfl
  cases e4
  obtain ⟨R2, e7, R3, R4⟩ := hA.int v7 rfl
  cases e7
  obtain ⟨C2, e9, C3, C4⟩ := hA.int v9 rfl
  cases e9
  obtain ⟨A2, e11, A3, A4⟩ := hA.int v11 rfl
  cases e11
  have i3 : 0 ≤ i.toInt := i3
  have i4 : i.toInt ≤ 4096 := i4
  have R3 : 0 ≤ R.toInt := R3
  have R4 : R.toInt ≤ 40 := R4
  have C3 : 0 ≤ C.toInt := C3
  have C4 : C.toInt ≤ 24 := C4
  have A3 : 0 ≤ A.toInt := A3
  have A4 : A.toInt ≤ 24 := A4
  obtain ⟨rm1, rm2⟩ := acc.room i4 R3 R4 C3 C4 A3 A4
  obtain ⟨dl1, dl2, dl3, dl4⟩ := lD_lo R.toInt C.toInt A.toInt
  have hlen : ν.length ≤ 15 := by
    rw [← hA.1.1]
    exact Nat.le_of_eq rfl
  have hW := wT_ok
  unfold wOk at hW
  obtain ⟨w1, w2⟩ := Bool.and_eq_true_iff.mp hW
  obtain ⟨w2, w3⟩ := Bool.and_eq_true_iff.mp w2
  have w2 : wLk wT 999 = false := by simpa using w2
  have w3 : wR wT 999 = none := by simpa using w3
  refine chk_thr (ρ0 := ρ) (h0 := h) (N0 := N) (hb := h.length) (ub := u) w1 w3 w2 rm2 rm1 rfl lC_f_ok 3000 true false (lAr.map (fun p => (p, lM_f, []))) lH_f 57 243 27 lS_f lK lB_f 57 (Nat.le_refl _) ν ν lKK N ρ lv [] h u (nExt.refl ν) hlen (fun x hx => by
    obtain ⟨p, hp, rfl⟩ := List.mem_map.mp hx
    rcases lB_f_all p hp with q | q
    · exact Or.inl q
    refine Or.inr (fun N2 ρ2 ν2 lv2 st2 h2 u2 m2 m3 m4 m5 m6 => ?_)
    have u4 := m2 _ _ v4
    have u7 := m2 _ _ v7
    have u9 := m2 _ _ v9
    have u11 := m2 _ _ v11
    have hR2 := hR.fr hH m5 m6 m2 stW_l rW_l
    dsimp only at m3 ⊢
    rcases q with rfl | rfl | rfl | rfl | rfl
    · exact lA_f_216 ih m3 m4 u4 u7 u9 u11 i4 acc rm1 rm2 hn hR2
    · exact lA_f_348 ih m3 m4 u4 u7 u9 u11 i4 acc rm1 rm2 hn hR2
    · exact lA_f_452 ih m3 m4 u4 u7 u9 u11 i4 acc rm1 rm2 hn hR2
    · exact lA_f_1028 ih m3 m4 u4 u7 u9 u11 i4 acc rm1 rm2 hn hR2
    · exact lA_f_1469 ih m3 m4 u4 u7 u9 u11 i4 acc rm1 rm2 hn hR2) hA hH (gFr.refl _ _ _) ⟨hH.1, fun _ _ e => e⟩ (Int.le_refl _) ?_ ?_
  · intro x hx N2 ρ2 ν2 lv2 st2 h2 u2 w2 m1 m2 m3 m4 m5 m6 m7 m8
    have u4 := m2 _ _ v4
    have u7 := m2 _ _ v7
    have u9 := m2 _ _ v9
    have u11 := m2 _ _ v11
    unfold lH_f at hx
    rcases List.mem_cons.mp hx with rfl | hx
    · dsimp only at m3 ⊢
      obtain ⟨j, j1, j2⟩ := l_i m3 rfl rfl u4
      obtain ⟨q4, q8⟩ := m3.2.2.2.2
      have q4 : (h2.length : Int) - h.length ≤ 110 := q4
      have q8 : (u2 : Int) - u ≤ 11800 := q8
      exact l_next (g := true) ih [0, 1, 2, 3, 15, 5, 6, 7, 8, 9, 10, 11, 12, 13, 14] (by decide +kernel) (by decide +kernel) m3 rfl m4 rfl rfl rfl rfl j1 u7 u9 u11 (acc.dear j2 (by omega) (by omega) true (fun z => z)) (by omega) rfl rfl rfl (hR.fr hH m5 m6 m2 stW_l rW_l)
    rcases List.mem_cons.mp hx with rfl | hx
    · dsimp only at m3 ⊢
      obtain ⟨j, j1, j2⟩ := l_i m3 rfl rfl u4
      obtain ⟨⟨x1, q1, x2, q2, x3, q3, q4⟩, ⟨x4, q5, x5, q6, x6, q7, q8⟩⟩ := m3.2.2.2.2
      dsimp only at q1 q2 q3 q5 q6 q7
      rw [u7] at q1
      cases q1
      rw [u7] at q5
      cases q5
      rw [u9] at q2
      cases q2
      rw [u9] at q6
      cases q6
      rw [u11] at q3
      cases q3
      rw [u11] at q7
      cases q7
      unfold cLe at q4 q8
      dsimp only at q4 q8
      have z1 : lT_fd.2.2.2.2.1 = 170 := rfl
      have z2 : lT_fd.2.2.2.2.2.1 = 6030 := rfl
      exact l_next (g := true) ih [0, 1, 2, 3, 15, 5, 6, 7, 8, 9, 10, 11, 12, 13, 14] (by decide +kernel) (by decide +kernel) m3 rfl m4 rfl rfl rfl rfl j1 u7 u9 u11 (acc.dear j2 (by omega) (by omega) true (fun z => z)) (by omega) rfl rfl rfl (hR.fr hH m5 m6 m2 stW_l rW_l)
    rcases List.mem_cons.mp hx with rfl | hx
    · dsimp only at m3 ⊢
      obtain ⟨j, j1, j2⟩ := l_i m3 rfl rfl u4
      obtain ⟨y, y1, y2⟩ := l_one m3 rfl rfl u7
      obtain ⟨q4, q8⟩ := m3.2.2.2.2
      have q4 : (h2.length : Int) - h.length ≤ 8 := q4
      have q8 : (u2 : Int) - u ≤ 100 := q8
      exact l_next (g := true) ih [0, 1, 2, 3, 15, 5, 6, 16, 8, 9, 10, 11, 12, 13, 14] (by decide +kernel) (by decide +kernel) m3 rfl m4 rfl rfl rfl rfl j1 y1 u9 u11 (acc.grow (g := true) j2 (by omega) (by omega) (by omega) (by omega) (by omega) (by omega) (by omega)) (by omega) rfl rfl rfl (hR.fr hH m5 m6 m2 stW_l rW_l)
    rcases List.mem_cons.mp hx with rfl | hx
    · dsimp only at m3 ⊢
      obtain ⟨j, j1, j2⟩ := l_i m3 rfl rfl u4
      obtain ⟨y, y1, y2⟩ := l_one m3 rfl rfl u9
      obtain ⟨q4, q8⟩ := m3.2.2.2.2
      have q4 : (h2.length : Int) - h.length ≤ 8 := q4
      have q8 : (u2 : Int) - u ≤ 100 := q8
      exact l_next (g := true) ih [0, 1, 2, 3, 15, 5, 6, 7, 8, 16, 10, 11, 12, 13, 14] (by decide +kernel) (by decide +kernel) m3 rfl m4 rfl rfl rfl rfl j1 u7 y1 u11 (acc.grow (g := true) j2 (by omega) (by omega) (by omega) (by omega) (by omega) (by omega) (by omega)) (by omega) rfl rfl rfl (hR.fr hH m5 m6 m2 stW_l rW_l)
    rcases List.mem_cons.mp hx with rfl | hx
    · dsimp only at m3 ⊢
      obtain ⟨j, j1, j2⟩ := l_i m3 rfl rfl u4
      obtain ⟨y, y1, y2⟩ := l_one m3 rfl rfl u11
      obtain ⟨q4, q8⟩ := m3.2.2.2.2
      have q4 : (h2.length : Int) - h.length ≤ 8 := q4
      have q8 : (u2 : Int) - u ≤ 100 := q8
      exact l_next (g := false) ih [0, 1, 2, 3, 15, 5, 6, 7, 8, 9, 10, 16, 12, 13, 17] (by decide +kernel) (by decide +kernel) m3 rfl m4 rfl rfl rfl rfl j1 u7 u9 y1 (acc.grow (g := false) j2 (by omega) (by omega) (by omega) (by omega) (by simp; omega) (by omega) (by omega)) (by omega) rfl rfl rfl (hR.fr hH m5 m6 m2 stW_l rW_l)
    rcases List.mem_cons.mp hx with rfl | hx
    · dsimp only at m3 ⊢
      obtain ⟨j, j1, j2⟩ := l_i m3 rfl rfl u4
      obtain ⟨q4, q8⟩ := m3.2.2.2.2
      have q4 : (h2.length : Int) - h.length ≤ 8 := q4
      have q8 : (u2 : Int) - u ≤ 100 := q8
      exact l_next (g := false) ih [0, 1, 2, 3, 15, 5, 6, 7, 8, 9, 10, 11, 12, 13, 16] (by decide +kernel) (by decide +kernel) m3 rfl m4 rfl rfl rfl rfl j1 u7 u9 u11 (acc.dear j2 (by omega) (by omega) false (fun z => by cases z)) (by omega) rfl rfl rfl (hR.fr hH m5 m6 m2 stW_l rW_l)
    rcases List.mem_cons.mp hx with rfl | hx
    · dsimp only at m3 ⊢
      obtain ⟨j, j1, j2⟩ := l_i m3 rfl rfl u4
      obtain ⟨q4, q8⟩ := m3.2.2.2.2
      have q4 : (h2.length : Int) - h.length ≤ 8 := q4
      have q8 : (u2 : Int) - u ≤ 280 := q8
      exact l_next (g := true) ih [0, 1, 2, 3, 15, 5, 6, 7, 8, 9, 10, 11, 12, 13, 16] (by decide +kernel) (by decide +kernel) m3 rfl m4 rfl rfl rfl rfl j1 u7 u9 u11 (acc.feed j2 (by omega) (by omega)) (by omega) rfl rfl rfl (hR.fr hH m5 m6 m2 stW_l rW_l)
    rcases List.mem_cons.mp hx with rfl | hx
    · dsimp only at m3 ⊢
      obtain ⟨j, j1, j2⟩ := l_i m3 rfl rfl u4
      obtain ⟨q4, q8⟩ := m3.2.2.2.2
      have q4 : (h2.length : Int) - h.length ≤ 0 := q4
      have q8 : (u2 : Int) - u ≤ 0 := q8
      exact l_next (g := true) ih [0, 1, 2, 3, 15, 5, 6, 7, 8, 9, 10, 11, 16, 17, 14] (by decide +kernel) (by decide +kernel) m3 rfl m4 rfl rfl rfl rfl j1 u7 u9 u11 (acc.dear j2 (by omega) (by omega) true (fun z => z)) (by omega) rfl rfl rfl (hR.fr hH m5 m6 m2 stW_l rW_l)
    cases hx
  · intro k S' hk N' ρ' ν' st' h' u' o n1 n2 n3 n4 n5 n6 n7
    unfold lK at hk
    obtain ⟨k1, k2⟩ := Bool.and_eq_true_iff.mp hk
    have k1 : k = 1 := by simpa using k1
    subst k1
    split at k2
    · rename_i s hs
      have k2 := of_decide_eq_true k2
      have hT := n3.2.2.1
      rw [hs] at hT
      obtain ⟨v, st1, rfl, e1, hT⟩ := hT.inv
      obtain ⟨v2, e2, e3⟩ := exO_one n7
      cases e3
      obtain ⟨y, e5, y1, y2⟩ := n3.int e1 (by rw [k2])
      rw [k2] at y1 y2
      have y1 : (1 : Int) ≤ y.toInt := y1
      have y2 : y.toInt ≤ 1 := y2
      have e6 : y = 1 := Int32.toInt_inj.mp (by show y.toInt = 1; omega)
      rw [e2, e5, e6]
      rfl
    · cases k2
theorem l_turns : ∀ n : Nat, lIH n
  | 0 => fun f N ρ ν lv h u i R C A F hA hH v4 v7 v9 v11 acc hn hR => by
    have i4 : i.toInt ≤ 4096 := by
      cases f with
      | false =>
        obtain ⟨i2, e4, -, i4⟩ := (show gA h.length u ρ ν lS_e lv [] h u from hA).int v4 rfl
        cases e4
        exact i4
      | true =>
        obtain ⟨i2, e4, -, i4⟩ := (show gA h.length u ρ ν lS_f lv [] h u from hA).int v4 rfl
        cases e4
        exact i4
    omega
  | n + 1 => fun f N ρ ν lv h u i R C A F hA hH v4 v7 v9 v11 acc hn hR => by
    cases f with
    | false => exact l_turn_e (l_turns n) N ρ ν lv h u i R C A F hA hH v4 v7 v9 v11 acc hn hR
    | true => exact l_turn_f (l_turns n) N ρ ν lv h u i R C A F hA hH v4 v7 v9 v11 acc hn hR
