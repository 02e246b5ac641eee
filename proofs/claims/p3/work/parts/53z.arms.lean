/-! ===== the relation of this part ===== -/
abbrev lRr (h : List zC) : Prop := Rw h
theorem stW_nil : stL.all (fun e => match rho0[e.1]? with | some r => !(wIn [] r e.2.1) | none => false) = true := by decide +kernel
theorem stW_l : stL.all (fun e => match rho0[e.1]? with | some r => !(wIn lWr r e.2.1) | none => false) = true := by decide +kernel
theorem stW_L_swap : stL.all (fun e => match rho0[e.1]? with | some r => !(wIn k_L_swap.2.2.2.1 r e.2.1) | none => false) = true := by decide +kernel
theorem stW_X15_swap : stL.all (fun e => match rho0[e.1]? with | some r => !(wIn k_X15_swap.2.2.2.1 r e.2.1) | none => false) = true := by decide +kernel
theorem rW_nil : ([] : List (Nat × Nat)).all (fun w => !(w.1 == 11) && !(w.1 == 43)) = true := by decide +kernel
theorem rW_l : lWr.all (fun w => !(w.1 == 11) && !(w.1 == 43)) = true := by decide +kernel
def lR (ρ : List Nat) (ν : List Value) (h : List zC) : Prop := Ro ρ ∧ ν[1]? = some (.ref 16) ∧ ν[2]? = some (.ref 213) ∧ ν[3]? = some (.ref 238) ∧ Stc h ∧ lRr h
theorem lR.fr {Wr : List (Nat × Nat)} {hb : Nat} {N : Int} {ρ ρ' : List Nat} {ν ν' : List Value} {h h' : List zC} (hR : lR ρ ν h) (hH : tHeap wT N ρ h) (hF : gFr Wr ρ h h') (hP : gPre hb ρ ρ') (hν : nExt ν ν') (hw : stL.all (fun e => match rho0[e.1]? with | some r => !(wIn Wr r e.2.1) | none => false) = true) (hw2 : Wr.all (fun w => !(w.1 == 11) && !(w.1 == 43)) = true) : lR ρ' ν' h' :=
  ⟨hR.1.pre hP, hν _ _ hR.2.1, hν _ _ hR.2.2.1, hν _ _ hR.2.2.2.1, hR.2.2.2.2.1.fr hR.1 hF hw, hR.2.2.2.2.2.fr hR.2.2.2.2.1.1 hR.1 hF hw2⟩
/-- the law's rows that are gone through by hand -/
theorem vr_243_276 : zrx 243 276 = some (.invokestatic 151, 209, 2) := by decide +kernel
theorem vr_243_300 : zrx 243 300 = some (.invokevirtual 154, 151, 190) := by decide +kernel
/-! ===== the law's loop: the turns one after another ===== -/
def lIH (n : Nat) : Prop := ∀ (f : Bool) (N : Int) (ρ : List Nat) (ν : List Value) (lv : List (Nat × Value)) (h : List zC) (u : Nat) (i R C A : Int32) (F : Int), gA h.length u ρ ν (lS f) lv [] h u → tHeap wT N ρ h → ν[4]? = some (.int i) → ν[7]? = some (.int R) → ν[9]? = some (.int C) → ν[11]? = some (.int A) →
  lAcc f h.length u i.toInt R.toInt C.toInt A.toInt F → 4104 - i.toInt ≤ n → lR ρ ν h → zE zrx zi 57 243 27 lv [] h u lKK
theorem l_next {n hb ub : Nat} {g : Bool} {S : sS} {N : Int} {ρ : List Nat} {ν : List Value} {lv : List (Nat × Value)} {st : List Value} {h : List zC} {u m4 m7 m9 m11 : Nat} {i R C A : Int32} {F : Int} (ih : lIH n) (m : List Nat) (h7 : S.2.2.2.1.all (fun f => !(f.1 == 7)) = true) (hm : mOk m (S.1, S.2.1, S.2.2.1, S.2.2.2.1, 0, 0, []) (lS g) = true) (hA : gA hb ub ρ ν S lv st h u) (hs : S.2.2.1 = []) (hH : tHeap wT N ρ h)
    (e4 : m[4]? = some m4) (e7 : m[7]? = some m7) (e9 : m[9]? = some m9) (e11 : m[11]? = some m11) (v4 : ν[m4]? = some (.int i)) (v7 : ν[m7]? = some (.int R)) (v9 : ν[m9]? = some (.int C)) (v11 : ν[m11]? = some (.int A)) (acc : lAcc g h.length u i.toInt R.toInt C.toInt A.toInt F) (hn : 4104 - i.toInt ≤ n) (e1 : m[1]? = some 1) (e2 : m[2]? = some 2) (e3 : m[3]? = some 3) (hR : lR ρ ν h) : zE zrx zi 57 243 27 lv st h u lKK := by
  obtain ⟨b1, b2⟩ := hA.rebase m h7 hm
  have hT := hA.2.2.1
  rw [hs] at hT
  have e : st = [] := by
    unfold gSt at hT
    cases st with
    | nil => rfl
    | cons x r => simp at hT
  subst e
  have get : ∀ {s x : Nat} {v : Value}, m[s]? = some x → ν[x]? = some v → (mv ν m)[s]? = some v := fun q1 q2 => by
    obtain ⟨v, w1, w2⟩ := b2 _ _ q1
    rw [q2] at w1
    cases w1
    exact w2
  exact ih g N ρ (mv ν m) lv h u i R C A F b1 hH (get e4 v4) (get e7 v7) (get e9 v9) (get e11 v11) acc hn ⟨hR.1, get e1 hR.2.1, get e2 hR.2.2.1, get e3 hR.2.2.2.1, hR.2.2.2.2⟩
/-- the place behind a turn -/
theorem l_i {hb ub : Nat} {S : sS} {ρ : List Nat} {ν : List Value} {lv : List (Nat × Value)} {st : List Value} {h : List zC} {u : Nat} {i : Int32} (hA : gA hb ub ρ ν S lv st h u) (f1 : S.2.2.2.1[13]? = some (0, 15, 4, 0, 8)) (f2 : S.2.2.2.1[14]? = some (0, 4, 15, 0, -8)) (v4 : ν[4]? = some (.int i)) : ∃ i' : Int32, ν[15]? = some (.int i') ∧ i'.toInt = i.toInt + 8 := by
  obtain ⟨x, y, a1, a2, a3⟩ := fAt 13 hA f1
  obtain ⟨x2, y2, b1, b2, b3⟩ := fAt 14 hA f2
  dsimp only at a1 a2 a3 b1 b2 b3
  rw [v4] at a2 b1
  cases a2
  cases b1
  rw [a1] at b2
  cases b2
  exact ⟨x, a1, by omega⟩
/-- one more of a size -/
theorem l_one {hb ub k : Nat} {S : sS} {ρ : List Nat} {ν : List Value} {lv : List (Nat × Value)} {st : List Value} {h : List zC} {u : Nat} {R : Int32} (hA : gA hb ub ρ ν S lv st h u) (f1 : S.2.2.2.1[16]? = some (0, 16, k, 0, 1)) (f2 : S.2.2.2.1[17]? = some (0, k, 16, 0, -1)) (v : ν[k]? = some (.int R)) : ∃ R' : Int32, ν[16]? = some (.int R') ∧ R'.toInt = R.toInt + 1 := by
  obtain ⟨x, y, a1, a2, a3⟩ := fAt 16 hA f1
  obtain ⟨x2, y2, b1, b2, b3⟩ := fAt 17 hA f2
  dsimp only at a1 a2 a3 b1 b2 b3
  rw [v] at a2 b1
  cases a2
  cases b1
  rw [a1] at b2
  cases b2
  exact ⟨x, a1, by omega⟩
theorem lD_lo (R C A : Int) : 11800 ≤ lD R C A ∧ 6030 + 72 * R + 207 * C + 169 * A ≤ lD R C A ∧ 110 ≤ lDc R C A ∧ 170 + 6 * R + 18 * C + 13 * A ≤ lDc R C A := by
  unfold lD lDc
  obtain ⟨a1, a2, -⟩ := iMx_ok 11800 (6030 + 72 * R + 207 * C + 169 * A)
  obtain ⟨c1, c2, -⟩ := iMx_ok 110 (170 + 6 * R + 18 * C + 13 * A)
  exact ⟨a1, a2, c1, c2⟩
def lT_eza : sS := ([(3, 0, 0), (3, 8, 0), (3, 40, 0), (3, 36, 0), (0, 0, 4096), (0, 0, 4096), (3, 45, 0), (0, 0, 40), (3, 48, 0), (0, 0, 24), (3, 51, 0), (0, 0, 24), (0, 0, 4096), (0, 0, 4096), (3, 1, 0), (0, 0, 4096)], [(0, 0), (1, 1), (2, 2), (3, 3), (4, 15)], [], [(3, 0, 5, 0, 0), (2, 2, 7, 6, 0), (2, 6, 2, 7, 0), (2, 2, 8, 8, 0), (2, 8, 2, 9, 0), (2, 2, 9, 10, 0), (2, 10, 2, 11, 0), (2, 1, 1, 12, 0), (2, 2, 3, 13, 0), (0, 12, 13, 0, 0), (0, 13, 12, 0, 0), (2, 2, 10, 14, 0), (0, 15, 5, 0, 0), (0, 15, 4, 0, 8), (0, 4, 15, 0, -8), (0, 12, 15, 0, 0), (0, 13, 15, 0, 0)], 0, 0, [])
def lYa_e_256 : sS := ([(3, 0, 0), (3, 8, 0), (3, 40, 0), (3, 36, 0), (0, 0, 4088), (0, 8, 4096), (3, 45, 0), (0, 0, 40), (3, 48, 0), (0, 0, 24), (3, 51, 0), (0, 0, 24), (0, 0, 4088), (0, 0, 4088), (3, 1, 0), (0, 1, 1), (0, 1, 4089), (0, -2147483648, 2147483647), (0, 2, 2), (0, 2, 4090), (0, -2147483648, 2147483647), (0, 3, 3), (0, 3, 4091), (0, -2147483648, 2147483647)], [(0, 0), (1, 1), (2, 2), (3, 3), (4, 4)], [3, 23, 20, 17, 1], [(4, 0, 22, 23, 0), (0, 22, 4, 0, 3), (0, 4, 22, 0, -3), (4, 0, 19, 20, 0), (0, 19, 4, 0, 2), (0, 4, 19, 0, -2), (4, 0, 16, 17, 0), (0, 16, 4, 0, 1), (0, 4, 16, 0, -1), (0, 4, 5, 0, -8), (3, 0, 5, 0, 0), (2, 2, 7, 6, 0), (2, 6, 2, 7, 0), (2, 2, 8, 8, 0), (2, 8, 2, 9, 0), (2, 2, 9, 10, 0), (2, 10, 2, 11, 0), (2, 1, 1, 12, 0), (2, 2, 3, 13, 0), (0, 12, 13, 0, 0), (0, 13, 12, 0, 0), (2, 2, 10, 14, 0), (0, 12, 4, 0, 0), (0, 13, 4, 0, 0)], 0, 0, [])
def lYb_e_256 : sS := vZ (cvS zi lYa_e_256 k_L_swap (cx1 k_L_swap))
def lYc_e_256 : sS := ([(3, 0, 0), (3, 8, 0), (3, 40, 0), (3, 36, 0), (0, 0, 4088), (0, 8, 4096), (3, 45, 0), (0, 0, 40), (3, 48, 0), (0, 0, 24), (3, 51, 0), (0, 0, 24), (0, 0, 4088), (0, 0, 4088), (3, 1, 0), (0, 1, 1), (0, 1, 4089), (0, -2147483648, 2147483647), (0, 2, 2), (0, 2, 4090), (0, -2147483648, 2147483647), (0, 3, 3), (0, 3, 4091), (0, -2147483648, 2147483647), (0, 0, 2), (0, 1, 1), (0, 2, 2), (0, 3, 3)], [(5, 24), (0, 0), (1, 1), (2, 2), (3, 3), (4, 4)], [23, 20, 17, 2], [(4, 0, 22, 23, 0), (0, 22, 4, 0, 3), (0, 4, 22, 0, -3), (4, 0, 19, 20, 0), (0, 19, 4, 0, 2), (0, 4, 19, 0, -2), (4, 0, 16, 17, 0), (0, 16, 4, 0, 1), (0, 4, 16, 0, -1), (0, 4, 5, 0, -8), (3, 0, 5, 0, 0), (2, 2, 7, 6, 0), (2, 6, 2, 7, 0), (2, 2, 8, 8, 0), (2, 8, 2, 9, 0), (2, 2, 9, 10, 0), (2, 10, 2, 11, 0), (2, 1, 1, 12, 0), (2, 2, 3, 13, 0), (0, 12, 13, 0, 0), (0, 13, 12, 0, 0), (2, 2, 10, 14, 0), (0, 12, 4, 0, 0), (0, 13, 4, 0, 0)], 0, 0, [])
theorem lY1_e_256 : chk zrx zi wT (wRo wSites_15) (wRo wTags_15) lC_e [] 0 0 15 3000 false [(276, lYa_e_256, [])] none 57 243 256 (vZ lM_e) (fun _ _ => false) = true := by decide +kernel
theorem lY2_e_256 : chk zrx zi wT (wRo wSites_15) (wRo wTags_15) lC_e [] 0 0 25 3000 false [(300, lYc_e_256, [])] none 57 243 279 lYb_e_256 (fun _ _ => false) = true := by decide +kernel
theorem lV1_e_256 : cvOk zrx zi wT 243 276 56 lYa_e_256 k_L_swap = true := by decide +kernel
theorem lV2_e_256 : cvOk zrx zi wT 243 300 56 lYc_e_256 k_X15_swap = true := by decide +kernel
theorem lYk_e_256 : sGet lYb_e_256.1 24 = (0, 0, 2) := by decide +kernel
theorem lYn_e_256 : lYb_e_256.1.length = 25 := by decide +kernel
theorem lYr_e_256 : (vZ lM_e).2.2.2.1.all (fun f => !(f.1 == 7)) = true ∧ lYa_e_256.2.2.2.1.all (fun f => !(f.1 == 7)) = true ∧ (cvS zi lYa_e_256 k_L_swap (cx1 k_L_swap)).2.2.2.1.all (fun f => !(f.1 == 7)) = true ∧ lYc_e_256.2.2.2.1.all (fun f => !(f.1 == 7)) = true := by decide +kernel
def lYd0_e_256 : sS := vZ (cvS zi lYc_e_256 k_X15_swap (cxi k_X15_swap 0))
theorem lYd0_e_256n : lYd0_e_256.1.length = 29 ∧ (cvS zi lYc_e_256 k_X15_swap (cxi k_X15_swap 0)).2.2.2.1.all (fun f => !(f.1 == 7)) = true := by decide +kernel
def lYf0_e_256 : sS := sNw (sFs (sNr lYd0_e_256 24 0 0) [(2, 2, 0, 24, 0)]) (1, 0, 0) [(2, 3, 0, 29, 0), (17, 29, 28, 0, 0)]
def lYg0_e_256 : sS := sFs (sNr lYd0_e_256 24 1 2) [(2, 2, 0, 24, 0)]
theorem lY3_e_256_0 : chk zrx zi wT (wRo wSites_15) (wRo wTags_15) lC_e [] 0 0 15 3000 false [(27, lT_eza, [])] none 57 243 303 lYf0_e_256 (fun _ _ => false) = true := by decide +kernel
theorem lY4_e_256_0 : chk zrx zi wT (wRo wSites_15) (wRo wTags_15) lC_e [] 0 0 15 3000 false [(27, lT_eza, [])] none 57 243 303 lYg0_e_256 (fun _ _ => false) = true := by decide +kernel
set_option maxRecDepth 20000 in
theorem lA_e_256 {n : Nat} (ih : lIH n) {hb ub : Nat} {N : Int} {ρ : List Nat} {ν : List Value} {lv : List (Nat × Value)} {st : List Value} {h : List zC} {u : Nat} {i R C A : Int32} {F : Int} (hA : gA hb ub ρ ν lM_e lv st h u) (hH : tHeap wT N ρ h) (v4 : ν[4]? = some (.int i)) (v7 : ν[7]? = some (.int R)) (v9 : ν[9]? = some (.int C)) (v11 : ν[11]? = some (.int A))
    (i4 : i.toInt ≤ 4096) (acc : lAcc false hb ub i.toInt R.toInt C.toInt A.toInt F) (rm1 : (ub : Int) + 17920 ≤ zSN) (rm2 : (hb : Int) + 1152 ≤ zCM) (hn : 4104 - i.toInt ≤ (n + 1 : Nat)) (hR : lR ρ ν h) : zE zrx zi 57 243 256 lv st h u lKK := by
  obtain ⟨dl1, dl2, dl3, dl4⟩ := lD_lo R.toInt C.toInt A.toInt
  obtain ⟨r0, ra, rb, rc⟩ := lYr_e_256
  have q0 : (h.length : Int) - hb ≤ 0 := hA.2.2.2.2.1
  have q1 : (u : Int) - ub ≤ 0 := hA.2.2.2.2.2
  have hlen : ν.length ≤ 15 := by
    rw [← hA.1.1]
    exact Nat.le_of_eq rfl
  refine seg wT_ok lC_e_ok 3000 lY1_e_256 (Nat.le_refl _) (nExt.refl ν) hlen (hA.reb r0) rfl rfl hH (by omega) (by omega) ?_
  intro x hx N1 ρ1 ν1 lv1 st1 h1 u1 x1 hA1 hH1 hF1 hP1
  rw [List.mem_singleton.mp hx] at hA1 ⊢
  clear hx x
  dsimp only at hA1 ⊢
  have hR1 := hR.fr hH hF1 hP1 x1 stW_nil rW_nil
  have b1 : (h1.length : Int) - h.length ≤ 0 := Int.le_trans (hA1.cost (by decide +kernel)).1 (by decide +kernel)
  have b2 : (u1 : Int) - u ≤ 0 := Int.le_trans (hA1.cost (by decide +kernel)).2 (by decide +kernel)
  have hT : gSt ν1 [3, 23, 20, 17, 1] st1 := hA1.2.2.1
  obtain ⟨w0, sa0, ea0, o0, ha0⟩ := hT.inv
  subst ea0
  rw [hR1.2.2.2.1] at o0
  cases o0
  obtain ⟨w1, sa1, ea1, o1, ha1⟩ := ha0.inv
  subst ea1
  obtain ⟨p23, rfl, -⟩ := hA1.int o1 rfl
  obtain ⟨w2, sa2, ea2, o2, ha2⟩ := ha1.inv
  subst ea2
  obtain ⟨p20, rfl, -⟩ := hA1.int o2 rfl
  obtain ⟨w3, sa3, ea3, o3, ha3⟩ := ha2.inv
  subst ea3
  obtain ⟨p17, rfl, -⟩ := hA1.int o3 rfl
  obtain ⟨w4, sa4, ea4, o4, ha4⟩ := ha3.inv
  subst ea4
  rw [hR1.2.1] at o4
  cases o4
  cases ha4.nil
  refine call_val con_L_swap vr_243_276 lV1_e_256 rfl rfl (hA1.reb ra) hH1 (by have : k_L_swap.2.2.2.2.1 = 1 := rfl; omega) (by have : k_L_swap.2.2.2.2.2.1 = 6 := rfl; omega) rfl (fun n => C_Lswap n p17 p20 p23 h1 u1 hR1.2.2.2.2.1) ?_
  intro N2 ρ2 ν2 v h2 u2 n2 x2 hA2 hH2 hF2 hP2 V1
  obtain ⟨k, hk, V1⟩ := V1
  cases hk
  have V1 : Q_Lswap p17 p20 p23 h1 (.inl (some (.int k))) h2 u2 := ⟨k, rfl, V1⟩
  have b3 : (h2.length : Int) - h1.length ≤ 1 := Int.le_trans (hA2.cost (by decide +kernel)).1 (by decide +kernel)
  have b4 : (u2 : Int) - u1 ≤ 6 := Int.le_trans (hA2.cost (by decide +kernel)).2 (by decide +kernel)
  have hTk : ν2[24]? = some (.int k) := gSt_hd hA2.2.2.1 (by decide +kernel)
  have hB2 : gA h2.length u2 ρ2 ν2 lYb_e_256 lv1 _ h2 u2 := hA2.reb rb
  obtain ⟨k', ek, kk1, kk2⟩ := hB2.int hTk (by rw [lYk_e_256])
  cases ek
  rw [lYk_e_256] at kk1 kk2
  have hlen2 : ν2.length ≤ 25 := by
    rw [← hA2.1.1]
    exact Nat.le_of_eq lYn_e_256
  have hS2 : Stc h2 := hR1.2.2.2.2.1.fr hR1.1 hF2 stW_L_swap
  have hRo2 : Ro ρ2 := hR1.1.pre hP2
  show zE zrx zi 57 243 279 lv1 _ h2 u2 lKK
  refine seg wT_ok lC_e_ok 3000 lY2_e_256 (Nat.le_refl _) (nExt.refl ν2) hlen2 (hA2.reb rb) rfl rfl hH2 (by omega) (by omega) ?_
  intro x hx N3 ρ3 ν3 lv3 st3 h3 u3 x3 hA3 hH3 hF3 hP3
  rw [List.mem_singleton.mp hx] at hA3 ⊢
  clear hx x
  dsimp only at hA3 ⊢
  have hS3 : Stc h3 := hS2.fr hRo2 hF3 stW_nil
  have b5 : (h3.length : Int) - h2.length ≤ 0 := Int.le_trans (hA3.cost (by decide +kernel)).1 (by decide +kernel)
  have b6 : (u3 : Int) - u2 ≤ 0 := Int.le_trans (hA3.cost (by decide +kernel)).2 (by decide +kernel)
  have hE : ∀ p, p < h2.length → ∀ k, gF h3 p k = gF h2 p k := fun p hp k => gFr_F0 hF3 hH2.1 hp k
  have hT : gSt ν3 [23, 20, 17, 2] st3 := hA3.2.2.1
  obtain ⟨w0, sb0, eb0, c0, hb0⟩ := hT.inv
  subst eb0
  rw [x3 _ _ (x2 _ _ o1)] at c0
  cases c0
  obtain ⟨w1, sb1, eb1, c1, hb1⟩ := hb0.inv
  subst eb1
  rw [x3 _ _ (x2 _ _ o2)] at c1
  cases c1
  obtain ⟨w2, sb2, eb2, c2, hb2⟩ := hb1.inv
  subst eb2
  rw [x3 _ _ (x2 _ _ o3)] at c2
  cases c2
  obtain ⟨w3, sb3, eb3, c3, hb3⟩ := hb2.inv
  subst eb3
  rw [x3 _ _ (x2 _ _ hR1.2.2.1)] at c3
  cases c3
  cases hb3.nil
  refine call_val con_X15_swap vr_243_300 lV2_e_256 rfl rfl (hA3.reb rc) hH3 (by have : k_X15_swap.2.2.2.2.1 = 0 := rfl; omega) (by have : k_X15_swap.2.2.2.2.2.1 = 0 := rfl; omega) rfl (fun n => C_mswap n p17 p20 p23 h3 u3 hS3) ?_
  intro N4 ρ4 ν4 v h4 u4 n4 x4 hA4 hH4 hF4 hP4 V2
  obtain ⟨nd, rd⟩ := lYd0_e_256n
  obtain ⟨r, hr⟩ : ∃ r : Int32, v = .int r := by
    obtain ⟨r, h0, hr, -⟩ := V2
    cases hr
    exact ⟨r, rfl⟩
  subst hr
  have b7 : (h4.length : Int) - h3.length ≤ 0 := Int.le_trans (hA4.cost (by decide +kernel)).1 (by decide +kernel)
  have b8 : (u4 : Int) - u3 ≤ 0 := Int.le_trans (hA4.cost (by decide +kernel)).2 (by decide +kernel)
  obtain ⟨z1, z2, z3, z4⟩ := sum_swap hR1.2.2.2.2.2 hR1.2.2.2.2.1.1 V1 (fun p hp k => hE p (by have := hS2.1; omega) k) V2
  have hR4 : lR ρ4 ν4 h4 := ⟨(hRo2.pre hP3).pre hP4, x4 _ _ (x3 _ _ (x2 _ _ hR1.2.1)), x4 _ _ (x3 _ _ (x2 _ _ hR1.2.2.1)), x4 _ _ (x3 _ _ (x2 _ _ hR1.2.2.2.1)), hS3.fr (hRo2.pre hP3) hF4 stW_X15_swap, z1⟩
  have x14 : nExt ν ν4 := x1.trans (x2.trans (x3.trans x4))
  have vk : ν4[24]? = some (.int k) := x4 _ _ (x3 _ _ hTk)
  have vr : ν4[28]? = some (.int r) := gSt_hd hA4.2.2.1 (by decide +kernel)
  have hA4 := hA4.reb rd
  show zE zrx zi 57 243 303 lv3 _ h4 u4 lKK
  by_cases hk : k = 0
  · subst hk
    have hA6 := (((hA4.nr (lo := 0) (hi := 0) vk (by decide) (by decide)).fs (G := [(2, 2, 0, 24, 0)]) (fun f hf => by
      rw [List.mem_singleton.mp hf]
      exact fH2 hR4.2.2.1 z2 vk)).nw (t := (1, 0, 0)) (v := .long r.toInt64) (G := [(2, 3, 0, 29, 0), (17, 29, 28, 0, 0)]) ⟨_, rfl⟩ (fun f hf => by
      have hl : ν4.length = 29 := by
        rw [← hA4.1.1]
        exact nd
      have vl : (ν4 ++ [Value.long r.toInt64])[29]? = some (.long r.toInt64) := by
        rw [← hl]
        exact nNew _ _
      rcases List.mem_cons.mp hf with rfl | hf
      · exact fH2 (nExt_app _ _ _ _ hR4.2.2.2.1) (z3 rfl) vl
      · rw [List.mem_singleton.mp hf]
        exact ⟨r, nExt_app _ _ _ _ vr, vl⟩))
    refine seg wT_ok lC_e_ok 3000 lY3_e_256_0 (Nat.le_refl _) (x14.trans (nExt_app _ _)) hlen hA6 rfl rfl hH4 (by omega) (by omega) ?_
    intro x hx N5 ρ5 ν5 lv5 st5 h5 u5 x5 hA5 hH5 hF5 hP5
    rw [List.mem_singleton.mp hx] at hA5 ⊢
    clear hx x
    dsimp only at hA5 ⊢
    have b9 : (h5.length : Int) - h4.length ≤ 0 := Int.le_trans (hA5.cost (by decide +kernel)).1 (by decide +kernel)
    have c1 : (u5 : Int) - u4 ≤ 0 := Int.le_trans (hA5.cost (by decide +kernel)).2 (by decide +kernel)
    obtain ⟨j, j1, j2⟩ := l_i hA5 rfl rfl (x5 _ _ v4)
    exact l_next (g := false) ih [0, 1, 2, 3, 15, 5, 6, 7, 8, 9, 10, 11, 12, 13, 14] (by decide +kernel) (by decide +kernel) hA5 rfl hH5 rfl rfl rfl rfl j1 (x5 _ _ v7) (x5 _ _ v9) (x5 _ _ v11) (acc.dear j2 (by omega) (by omega) false (fun z => z)) (by omega) rfl rfl rfl (lR.fr ⟨hR4.1, x5 _ _ (hR.2.1), x5 _ _ (hR.2.2.1), x5 _ _ (hR.2.2.2.1), hR4.2.2.2.2⟩ hH4 hF5 hP5 (nExt.refl ν5) stW_nil rW_nil)
  · have hk2 : 1 ≤ k.toInt ∧ k.toInt ≤ 2 := by
      have kk1 : 0 ≤ k.toInt := kk1
      have kk2 : k.toInt ≤ 2 := kk2
      have : ¬ k.toInt = 0 := fun z => hk (Int32.toInt_inj.mp z)
      omega
    have hA6 := (hA4.nr (lo := 1) (hi := 2) vk hk2.1 hk2.2).fs (G := [(2, 2, 0, 24, 0)]) (fun f hf => by
      rw [List.mem_singleton.mp hf]
      exact fH2 hR4.2.2.1 z2 vk)
    refine seg wT_ok lC_e_ok 3000 lY4_e_256_0 (Nat.le_refl _) x14 hlen hA6 rfl rfl hH4 (by omega) (by omega) ?_
    intro x hx N5 ρ5 ν5 lv5 st5 h5 u5 x5 hA5 hH5 hF5 hP5
    rw [List.mem_singleton.mp hx] at hA5 ⊢
    clear hx x
    dsimp only at hA5 ⊢
    have b9 : (h5.length : Int) - h4.length ≤ 0 := Int.le_trans (hA5.cost (by decide +kernel)).1 (by decide +kernel)
    have c1 : (u5 : Int) - u4 ≤ 0 := Int.le_trans (hA5.cost (by decide +kernel)).2 (by decide +kernel)
    obtain ⟨j, j1, j2⟩ := l_i hA5 rfl rfl (x5 _ _ v4)
    exact l_next (g := false) ih [0, 1, 2, 3, 15, 5, 6, 7, 8, 9, 10, 11, 12, 13, 14] (by decide +kernel) (by decide +kernel) hA5 rfl hH5 rfl rfl rfl rfl j1 (x5 _ _ v7) (x5 _ _ v9) (x5 _ _ v11) (acc.dear j2 (by omega) (by omega) false (fun z => z)) (by omega) rfl rfl rfl (lR.fr ⟨hR4.1, x5 _ _ (hR.2.1), x5 _ _ (hR.2.2.1), x5 _ _ (hR.2.2.2.1), hR4.2.2.2.2⟩ hH4 hF5 hP5 (nExt.refl ν5) stW_nil rW_nil)
def lT_fza : sS := ([(3, 0, 0), (3, 8, 0), (3, 40, 0), (3, 36, 0), (0, 0, 4096), (0, 0, 4096), (3, 45, 0), (0, 0, 40), (3, 48, 0), (0, 0, 24), (3, 51, 0), (0, 0, 24), (0, 0, 4096), (0, 0, 4096), (3, 56, 0), (0, 0, 4096)], [(0, 0), (1, 1), (2, 2), (3, 3), (4, 15)], [], [(3, 0, 5, 0, 0), (2, 2, 7, 6, 0), (2, 6, 2, 7, 0), (2, 2, 8, 8, 0), (2, 8, 2, 9, 0), (2, 2, 9, 10, 0), (2, 10, 2, 11, 0), (2, 1, 1, 12, 0), (2, 2, 3, 13, 0), (0, 12, 13, 0, 0), (0, 13, 12, 0, 0), (2, 2, 10, 14, 0), (0, 15, 5, 0, 0), (0, 15, 4, 0, 8), (0, 4, 15, 0, -8), (0, 12, 15, 0, 0), (0, 13, 15, 0, 0)], 0, 0, [])
def lYa_f_256 : sS := ([(3, 0, 0), (3, 8, 0), (3, 40, 0), (3, 36, 0), (0, 0, 4088), (0, 8, 4096), (3, 45, 0), (0, 0, 40), (3, 48, 0), (0, 0, 24), (3, 51, 0), (0, 0, 24), (0, 0, 4088), (0, 0, 4088), (3, 56, 0), (0, 1, 1), (0, 1, 4089), (0, -2147483648, 2147483647), (0, 2, 2), (0, 2, 4090), (0, -2147483648, 2147483647), (0, 3, 3), (0, 3, 4091), (0, -2147483648, 2147483647)], [(0, 0), (1, 1), (2, 2), (3, 3), (4, 4)], [3, 23, 20, 17, 1], [(4, 0, 22, 23, 0), (0, 22, 4, 0, 3), (0, 4, 22, 0, -3), (4, 0, 19, 20, 0), (0, 19, 4, 0, 2), (0, 4, 19, 0, -2), (4, 0, 16, 17, 0), (0, 16, 4, 0, 1), (0, 4, 16, 0, -1), (0, 4, 5, 0, -8), (3, 0, 5, 0, 0), (2, 2, 7, 6, 0), (2, 6, 2, 7, 0), (2, 2, 8, 8, 0), (2, 8, 2, 9, 0), (2, 2, 9, 10, 0), (2, 10, 2, 11, 0), (2, 1, 1, 12, 0), (2, 2, 3, 13, 0), (0, 12, 13, 0, 0), (0, 13, 12, 0, 0), (2, 2, 10, 14, 0), (0, 12, 4, 0, 0), (0, 13, 4, 0, 0)], 0, 0, [])
def lYb_f_256 : sS := vZ (cvS zi lYa_f_256 k_L_swap (cx1 k_L_swap))
def lYc_f_256 : sS := ([(3, 0, 0), (3, 8, 0), (3, 40, 0), (3, 36, 0), (0, 0, 4088), (0, 8, 4096), (3, 45, 0), (0, 0, 40), (3, 48, 0), (0, 0, 24), (3, 51, 0), (0, 0, 24), (0, 0, 4088), (0, 0, 4088), (3, 56, 0), (0, 1, 1), (0, 1, 4089), (0, -2147483648, 2147483647), (0, 2, 2), (0, 2, 4090), (0, -2147483648, 2147483647), (0, 3, 3), (0, 3, 4091), (0, -2147483648, 2147483647), (0, 0, 2), (0, 1, 1), (0, 2, 2), (0, 3, 3)], [(5, 24), (0, 0), (1, 1), (2, 2), (3, 3), (4, 4)], [23, 20, 17, 2], [(4, 0, 22, 23, 0), (0, 22, 4, 0, 3), (0, 4, 22, 0, -3), (4, 0, 19, 20, 0), (0, 19, 4, 0, 2), (0, 4, 19, 0, -2), (4, 0, 16, 17, 0), (0, 16, 4, 0, 1), (0, 4, 16, 0, -1), (0, 4, 5, 0, -8), (3, 0, 5, 0, 0), (2, 2, 7, 6, 0), (2, 6, 2, 7, 0), (2, 2, 8, 8, 0), (2, 8, 2, 9, 0), (2, 2, 9, 10, 0), (2, 10, 2, 11, 0), (2, 1, 1, 12, 0), (2, 2, 3, 13, 0), (0, 12, 13, 0, 0), (0, 13, 12, 0, 0), (2, 2, 10, 14, 0), (0, 12, 4, 0, 0), (0, 13, 4, 0, 0)], 0, 0, [])
theorem lY1_f_256 : chk zrx zi wT (wRo wSites_15) (wRo wTags_15) lC_f [] 0 0 15 3000 false [(276, lYa_f_256, [])] none 57 243 256 (vZ lM_f) (fun _ _ => false) = true := by decide +kernel
theorem lY2_f_256 : chk zrx zi wT (wRo wSites_15) (wRo wTags_15) lC_f [] 0 0 25 3000 false [(300, lYc_f_256, [])] none 57 243 279 lYb_f_256 (fun _ _ => false) = true := by decide +kernel
theorem lV1_f_256 : cvOk zrx zi wT 243 276 56 lYa_f_256 k_L_swap = true := by decide +kernel
theorem lV2_f_256 : cvOk zrx zi wT 243 300 56 lYc_f_256 k_X15_swap = true := by decide +kernel
theorem lYk_f_256 : sGet lYb_f_256.1 24 = (0, 0, 2) := by decide +kernel
theorem lYn_f_256 : lYb_f_256.1.length = 25 := by decide +kernel
theorem lYr_f_256 : (vZ lM_f).2.2.2.1.all (fun f => !(f.1 == 7)) = true ∧ lYa_f_256.2.2.2.1.all (fun f => !(f.1 == 7)) = true ∧ (cvS zi lYa_f_256 k_L_swap (cx1 k_L_swap)).2.2.2.1.all (fun f => !(f.1 == 7)) = true ∧ lYc_f_256.2.2.2.1.all (fun f => !(f.1 == 7)) = true := by decide +kernel
def lYd0_f_256 : sS := vZ (cvS zi lYc_f_256 k_X15_swap (cxi k_X15_swap 0))
theorem lYd0_f_256n : lYd0_f_256.1.length = 29 ∧ (cvS zi lYc_f_256 k_X15_swap (cxi k_X15_swap 0)).2.2.2.1.all (fun f => !(f.1 == 7)) = true := by decide +kernel
def lYf0_f_256 : sS := sNw (sFs (sNr lYd0_f_256 24 0 0) [(2, 2, 0, 24, 0)]) (1, 0, 0) [(2, 3, 0, 29, 0), (17, 29, 28, 0, 0)]
def lYg0_f_256 : sS := sFs (sNr lYd0_f_256 24 1 2) [(2, 2, 0, 24, 0)]
theorem lY3_f_256_0 : chk zrx zi wT (wRo wSites_15) (wRo wTags_15) lC_f [] 0 0 15 3000 false [(27, lT_fza, [])] none 57 243 303 lYf0_f_256 (fun _ _ => false) = true := by decide +kernel
theorem lY4_f_256_0 : chk zrx zi wT (wRo wSites_15) (wRo wTags_15) lC_f [] 0 0 15 3000 false [(27, lT_fza, [])] none 57 243 303 lYg0_f_256 (fun _ _ => false) = true := by decide +kernel
set_option maxRecDepth 20000 in
theorem lA_f_256 {n : Nat} (ih : lIH n) {hb ub : Nat} {N : Int} {ρ : List Nat} {ν : List Value} {lv : List (Nat × Value)} {st : List Value} {h : List zC} {u : Nat} {i R C A : Int32} {F : Int} (hA : gA hb ub ρ ν lM_f lv st h u) (hH : tHeap wT N ρ h) (v4 : ν[4]? = some (.int i)) (v7 : ν[7]? = some (.int R)) (v9 : ν[9]? = some (.int C)) (v11 : ν[11]? = some (.int A))
    (i4 : i.toInt ≤ 4096) (acc : lAcc true hb ub i.toInt R.toInt C.toInt A.toInt F) (rm1 : (ub : Int) + 17920 ≤ zSN) (rm2 : (hb : Int) + 1152 ≤ zCM) (hn : 4104 - i.toInt ≤ (n + 1 : Nat)) (hR : lR ρ ν h) : zE zrx zi 57 243 256 lv st h u lKK := by
  obtain ⟨dl1, dl2, dl3, dl4⟩ := lD_lo R.toInt C.toInt A.toInt
  obtain ⟨r0, ra, rb, rc⟩ := lYr_f_256
  have q0 : (h.length : Int) - hb ≤ 0 := hA.2.2.2.2.1
  have q1 : (u : Int) - ub ≤ 0 := hA.2.2.2.2.2
  have hlen : ν.length ≤ 15 := by
    rw [← hA.1.1]
    exact Nat.le_of_eq rfl
  refine seg wT_ok lC_f_ok 3000 lY1_f_256 (Nat.le_refl _) (nExt.refl ν) hlen (hA.reb r0) rfl rfl hH (by omega) (by omega) ?_
  intro x hx N1 ρ1 ν1 lv1 st1 h1 u1 x1 hA1 hH1 hF1 hP1
  rw [List.mem_singleton.mp hx] at hA1 ⊢
  clear hx x
  dsimp only at hA1 ⊢
  have hR1 := hR.fr hH hF1 hP1 x1 stW_nil rW_nil
  have b1 : (h1.length : Int) - h.length ≤ 0 := Int.le_trans (hA1.cost (by decide +kernel)).1 (by decide +kernel)
  have b2 : (u1 : Int) - u ≤ 0 := Int.le_trans (hA1.cost (by decide +kernel)).2 (by decide +kernel)
  have hT : gSt ν1 [3, 23, 20, 17, 1] st1 := hA1.2.2.1
  obtain ⟨w0, sa0, ea0, o0, ha0⟩ := hT.inv
  subst ea0
  rw [hR1.2.2.2.1] at o0
  cases o0
  obtain ⟨w1, sa1, ea1, o1, ha1⟩ := ha0.inv
  subst ea1
  obtain ⟨p23, rfl, -⟩ := hA1.int o1 rfl
  obtain ⟨w2, sa2, ea2, o2, ha2⟩ := ha1.inv
  subst ea2
  obtain ⟨p20, rfl, -⟩ := hA1.int o2 rfl
  obtain ⟨w3, sa3, ea3, o3, ha3⟩ := ha2.inv
  subst ea3
  obtain ⟨p17, rfl, -⟩ := hA1.int o3 rfl
  obtain ⟨w4, sa4, ea4, o4, ha4⟩ := ha3.inv
  subst ea4
  rw [hR1.2.1] at o4
  cases o4
  cases ha4.nil
  refine call_val con_L_swap vr_243_276 lV1_f_256 rfl rfl (hA1.reb ra) hH1 (by have : k_L_swap.2.2.2.2.1 = 1 := rfl; omega) (by have : k_L_swap.2.2.2.2.2.1 = 6 := rfl; omega) rfl (fun n => C_Lswap n p17 p20 p23 h1 u1 hR1.2.2.2.2.1) ?_
  intro N2 ρ2 ν2 v h2 u2 n2 x2 hA2 hH2 hF2 hP2 V1
  obtain ⟨k, hk, V1⟩ := V1
  cases hk
  have V1 : Q_Lswap p17 p20 p23 h1 (.inl (some (.int k))) h2 u2 := ⟨k, rfl, V1⟩
  have b3 : (h2.length : Int) - h1.length ≤ 1 := Int.le_trans (hA2.cost (by decide +kernel)).1 (by decide +kernel)
  have b4 : (u2 : Int) - u1 ≤ 6 := Int.le_trans (hA2.cost (by decide +kernel)).2 (by decide +kernel)
  have hTk : ν2[24]? = some (.int k) := gSt_hd hA2.2.2.1 (by decide +kernel)
  have hB2 : gA h2.length u2 ρ2 ν2 lYb_f_256 lv1 _ h2 u2 := hA2.reb rb
  obtain ⟨k', ek, kk1, kk2⟩ := hB2.int hTk (by rw [lYk_f_256])
  cases ek
  rw [lYk_f_256] at kk1 kk2
  have hlen2 : ν2.length ≤ 25 := by
    rw [← hA2.1.1]
    exact Nat.le_of_eq lYn_f_256
  have hS2 : Stc h2 := hR1.2.2.2.2.1.fr hR1.1 hF2 stW_L_swap
  have hRo2 : Ro ρ2 := hR1.1.pre hP2
  show zE zrx zi 57 243 279 lv1 _ h2 u2 lKK
  refine seg wT_ok lC_f_ok 3000 lY2_f_256 (Nat.le_refl _) (nExt.refl ν2) hlen2 (hA2.reb rb) rfl rfl hH2 (by omega) (by omega) ?_
  intro x hx N3 ρ3 ν3 lv3 st3 h3 u3 x3 hA3 hH3 hF3 hP3
  rw [List.mem_singleton.mp hx] at hA3 ⊢
  clear hx x
  dsimp only at hA3 ⊢
  have hS3 : Stc h3 := hS2.fr hRo2 hF3 stW_nil
  have b5 : (h3.length : Int) - h2.length ≤ 0 := Int.le_trans (hA3.cost (by decide +kernel)).1 (by decide +kernel)
  have b6 : (u3 : Int) - u2 ≤ 0 := Int.le_trans (hA3.cost (by decide +kernel)).2 (by decide +kernel)
  have hE : ∀ p, p < h2.length → ∀ k, gF h3 p k = gF h2 p k := fun p hp k => gFr_F0 hF3 hH2.1 hp k
  have hT : gSt ν3 [23, 20, 17, 2] st3 := hA3.2.2.1
  obtain ⟨w0, sb0, eb0, c0, hb0⟩ := hT.inv
  subst eb0
  rw [x3 _ _ (x2 _ _ o1)] at c0
  cases c0
  obtain ⟨w1, sb1, eb1, c1, hb1⟩ := hb0.inv
  subst eb1
  rw [x3 _ _ (x2 _ _ o2)] at c1
  cases c1
  obtain ⟨w2, sb2, eb2, c2, hb2⟩ := hb1.inv
  subst eb2
  rw [x3 _ _ (x2 _ _ o3)] at c2
  cases c2
  obtain ⟨w3, sb3, eb3, c3, hb3⟩ := hb2.inv
  subst eb3
  rw [x3 _ _ (x2 _ _ hR1.2.2.1)] at c3
  cases c3
  cases hb3.nil
  refine call_val con_X15_swap vr_243_300 lV2_f_256 rfl rfl (hA3.reb rc) hH3 (by have : k_X15_swap.2.2.2.2.1 = 0 := rfl; omega) (by have : k_X15_swap.2.2.2.2.2.1 = 0 := rfl; omega) rfl (fun n => C_mswap n p17 p20 p23 h3 u3 hS3) ?_
  intro N4 ρ4 ν4 v h4 u4 n4 x4 hA4 hH4 hF4 hP4 V2
  obtain ⟨nd, rd⟩ := lYd0_f_256n
  obtain ⟨r, hr⟩ : ∃ r : Int32, v = .int r := by
    obtain ⟨r, h0, hr, -⟩ := V2
    cases hr
    exact ⟨r, rfl⟩
  subst hr
  have b7 : (h4.length : Int) - h3.length ≤ 0 := Int.le_trans (hA4.cost (by decide +kernel)).1 (by decide +kernel)
  have b8 : (u4 : Int) - u3 ≤ 0 := Int.le_trans (hA4.cost (by decide +kernel)).2 (by decide +kernel)
  obtain ⟨z1, z2, z3, z4⟩ := sum_swap hR1.2.2.2.2.2 hR1.2.2.2.2.1.1 V1 (fun p hp k => hE p (by have := hS2.1; omega) k) V2
  have hR4 : lR ρ4 ν4 h4 := ⟨(hRo2.pre hP3).pre hP4, x4 _ _ (x3 _ _ (x2 _ _ hR1.2.1)), x4 _ _ (x3 _ _ (x2 _ _ hR1.2.2.1)), x4 _ _ (x3 _ _ (x2 _ _ hR1.2.2.2.1)), hS3.fr (hRo2.pre hP3) hF4 stW_X15_swap, z1⟩
  have x14 : nExt ν ν4 := x1.trans (x2.trans (x3.trans x4))
  have vk : ν4[24]? = some (.int k) := x4 _ _ (x3 _ _ hTk)
  have vr : ν4[28]? = some (.int r) := gSt_hd hA4.2.2.1 (by decide +kernel)
  have hA4 := hA4.reb rd
  show zE zrx zi 57 243 303 lv3 _ h4 u4 lKK
  by_cases hk : k = 0
  · subst hk
    have hA6 := (((hA4.nr (lo := 0) (hi := 0) vk (by decide) (by decide)).fs (G := [(2, 2, 0, 24, 0)]) (fun f hf => by
      rw [List.mem_singleton.mp hf]
      exact fH2 hR4.2.2.1 z2 vk)).nw (t := (1, 0, 0)) (v := .long r.toInt64) (G := [(2, 3, 0, 29, 0), (17, 29, 28, 0, 0)]) ⟨_, rfl⟩ (fun f hf => by
      have hl : ν4.length = 29 := by
        rw [← hA4.1.1]
        exact nd
      have vl : (ν4 ++ [Value.long r.toInt64])[29]? = some (.long r.toInt64) := by
        rw [← hl]
        exact nNew _ _
      rcases List.mem_cons.mp hf with rfl | hf
      · exact fH2 (nExt_app _ _ _ _ hR4.2.2.2.1) (z3 rfl) vl
      · rw [List.mem_singleton.mp hf]
        exact ⟨r, nExt_app _ _ _ _ vr, vl⟩))
    refine seg wT_ok lC_f_ok 3000 lY3_f_256_0 (Nat.le_refl _) (x14.trans (nExt_app _ _)) hlen hA6 rfl rfl hH4 (by omega) (by omega) ?_
    intro x hx N5 ρ5 ν5 lv5 st5 h5 u5 x5 hA5 hH5 hF5 hP5
    rw [List.mem_singleton.mp hx] at hA5 ⊢
    clear hx x
    dsimp only at hA5 ⊢
    have b9 : (h5.length : Int) - h4.length ≤ 0 := Int.le_trans (hA5.cost (by decide +kernel)).1 (by decide +kernel)
    have c1 : (u5 : Int) - u4 ≤ 0 := Int.le_trans (hA5.cost (by decide +kernel)).2 (by decide +kernel)
    obtain ⟨j, j1, j2⟩ := l_i hA5 rfl rfl (x5 _ _ v4)
    exact l_next (g := true) ih [0, 1, 2, 3, 15, 5, 6, 7, 8, 9, 10, 11, 12, 13, 14] (by decide +kernel) (by decide +kernel) hA5 rfl hH5 rfl rfl rfl rfl j1 (x5 _ _ v7) (x5 _ _ v9) (x5 _ _ v11) (acc.dear j2 (by omega) (by omega) true (fun z => z)) (by omega) rfl rfl rfl (lR.fr ⟨hR4.1, x5 _ _ (hR.2.1), x5 _ _ (hR.2.2.1), x5 _ _ (hR.2.2.2.1), hR4.2.2.2.2⟩ hH4 hF5 hP5 (nExt.refl ν5) stW_nil rW_nil)
  · have hk2 : 1 ≤ k.toInt ∧ k.toInt ≤ 2 := by
      have kk1 : 0 ≤ k.toInt := kk1
      have kk2 : k.toInt ≤ 2 := kk2
      have : ¬ k.toInt = 0 := fun z => hk (Int32.toInt_inj.mp z)
      omega
    have hA6 := (hA4.nr (lo := 1) (hi := 2) vk hk2.1 hk2.2).fs (G := [(2, 2, 0, 24, 0)]) (fun f hf => by
      rw [List.mem_singleton.mp hf]
      exact fH2 hR4.2.2.1 z2 vk)
    refine seg wT_ok lC_f_ok 3000 lY4_f_256_0 (Nat.le_refl _) x14 hlen hA6 rfl rfl hH4 (by omega) (by omega) ?_
    intro x hx N5 ρ5 ν5 lv5 st5 h5 u5 x5 hA5 hH5 hF5 hP5
    rw [List.mem_singleton.mp hx] at hA5 ⊢
    clear hx x
    dsimp only at hA5 ⊢
    have b9 : (h5.length : Int) - h4.length ≤ 0 := Int.le_trans (hA5.cost (by decide +kernel)).1 (by decide +kernel)
    have c1 : (u5 : Int) - u4 ≤ 0 := Int.le_trans (hA5.cost (by decide +kernel)).2 (by decide +kernel)
    obtain ⟨j, j1, j2⟩ := l_i hA5 rfl rfl (x5 _ _ v4)
    exact l_next (g := true) ih [0, 1, 2, 3, 15, 5, 6, 7, 8, 9, 10, 11, 12, 13, 14] (by decide +kernel) (by decide +kernel) hA5 rfl hH5 rfl rfl rfl rfl j1 (x5 _ _ v7) (x5 _ _ v9) (x5 _ _ v11) (acc.dear j2 (by omega) (by omega) true (fun z => z)) (by omega) rfl rfl rfl (lR.fr ⟨hR4.1, x5 _ _ (hR.2.1), x5 _ _ (hR.2.2.1), x5 _ _ (hR.2.2.2.1), hR4.2.2.2.2⟩ hH4 hF5 hP5 (nExt.refl ν5) stW_nil rW_nil)
