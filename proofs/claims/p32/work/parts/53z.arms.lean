/-! ===== the relation of this part ===== -/
abbrev lRr (h : List zC) : Prop := qRHe h
theorem stW_nil : stL.all (fun e => match rho0[e.1]? with | some r => !(wIn [] r e.2.1) | none => false) = true := by decide +kernel
theorem stW_l : stL.all (fun e => match rho0[e.1]? with | some r => !(wIn lWr r e.2.1) | none => false) = true := by decide +kernel
theorem stW_L_held : stL.all (fun e => match rho0[e.1]? with | some r => !(wIn k_L_held.2.2.2.1 r e.2.1) | none => false) = true := by decide +kernel
theorem stW_L_limit : stL.all (fun e => match rho0[e.1]? with | some r => !(wIn k_L_limit.2.2.2.1 r e.2.1) | none => false) = true := by decide +kernel
theorem stW_L_pass : stL.all (fun e => match rho0[e.1]? with | some r => !(wIn k_L_pass.2.2.2.1 r e.2.1) | none => false) = true := by decide +kernel
theorem stW_L_people : stL.all (fun e => match rho0[e.1]? with | some r => !(wIn k_L_people.2.2.2.1 r e.2.1) | none => false) = true := by decide +kernel
theorem stW_L_rule : stL.all (fun e => match rho0[e.1]? with | some r => !(wIn k_L_rule.2.2.2.1 r e.2.1) | none => false) = true := by decide +kernel
theorem stW_X15_held : stL.all (fun e => match rho0[e.1]? with | some r => !(wIn k_X15_held.2.2.2.1 r e.2.1) | none => false) = true := by decide +kernel
theorem stW_X15_limit : stL.all (fun e => match rho0[e.1]? with | some r => !(wIn k_X15_limit.2.2.2.1 r e.2.1) | none => false) = true := by decide +kernel
theorem stW_X15_pass : stL.all (fun e => match rho0[e.1]? with | some r => !(wIn k_X15_pass.2.2.2.1 r e.2.1) | none => false) = true := by decide +kernel
theorem stW_X15_people : stL.all (fun e => match rho0[e.1]? with | some r => !(wIn k_X15_people.2.2.2.1 r e.2.1) | none => false) = true := by decide +kernel
theorem stW_X15_rule_L : stL.all (fun e => match rho0[e.1]? with | some r => !(wIn k_X15_rule_L.2.2.2.1 r e.2.1) | none => false) = true := by decide +kernel
theorem rW_nil : wHe ([] : List (Nat × Nat)) = true := by decide +kernel
theorem rW_l : wHe lWr = true := by decide +kernel
def lR (ρ : List Nat) (ν : List Value) (h : List zC) : Prop := Ro ρ ∧ ν[1]? = some (.ref 16) ∧ ν[2]? = some (.ref 213) ∧ ν[3]? = some (.ref 238) ∧ Stc h ∧ lRr h
theorem lR.fr {Wr : List (Nat × Nat)} {hb : Nat} {N : Int} {ρ ρ' : List Nat} {ν ν' : List Value} {h h' : List zC} (hR : lR ρ ν h) (hH : tHeap wT N ρ h) (hF : gFr Wr ρ h h') (hP : gPre hb ρ ρ') (hν : nExt ν ν') (hw : stL.all (fun e => match rho0[e.1]? with | some r => !(wIn Wr r e.2.1) | none => false) = true) (hw2 : wHe Wr = true) : lR ρ' ν' h' :=
  ⟨hR.1.pre hP, hν _ _ hR.2.1, hν _ _ hR.2.2.1, hν _ _ hR.2.2.2.1, hR.2.2.2.2.1.fr hR.1 hF hw, hR.2.2.2.2.2.fr hR.2.2.2.2.1 hR.1 hH hF hw2⟩
/-- the law's rows that are gone through by hand -/
theorem vr_243_230 : zrx 243 230 = some (.invokestatic 145, 208, 2) := by decide +kernel
theorem vr_243_248 : zrx 243 248 = some (.invokevirtual 150, 150, 190) := by decide +kernel
theorem vr_243_394 : zrx 243 394 = some (.invokestatic 158, 211, 2) := by decide +kernel
theorem vr_243_444 : zrx 243 444 = some (.invokevirtual 161, 153, 190) := by decide +kernel
theorem vr_243_472 : zrx 243 472 = some (.invokestatic 162, 212, 2) := by decide +kernel
theorem vr_243_496 : zrx 243 496 = some (.invokevirtual 164, 155, 190) := by decide +kernel
theorem vr_243_1036 : zrx 243 1036 = some (.invokestatic 206, 226, 2) := by decide +kernel
theorem vr_243_1048 : zrx 243 1048 = some (.invokevirtual 208, 176, 190) := by decide +kernel
theorem vr_243_1501 : zrx 243 1501 = some (.invokestatic 243, 237, 2) := by decide +kernel
theorem vr_243_1537 : zrx 243 1537 = some (.invokevirtual 246, 196, 190) := by decide +kernel
/-! ===== the law's loop: the turns one after another ===== -/
def lIH (n : Nat) : Prop := ∀ (f : Bool) (N : Int) (ρ : List Nat) (ν : List Value) (lv : List (Nat × Value)) (h : List zC) (u : Nat) (i R C A : Int32) (F : Int), gA h.length u ρ ν (lS f) lv [] h u → tHeap wT N ρ h → ν[4]? = some (.int i) → ν[7]? = some (.int R) → ν[9]? = some (.int C) → ν[11]? = some (.int A) →
  lAcc f h.length u i.toInt R.toInt C.toInt A.toInt F → 4104 - i.toInt ≤ n → lR ρ ν h → zE zrx zi 57 243 27 lv [] h u lKK
theorem l_next {n hb ub : Nat} {g : Bool} {S : sS} {N : Int} {ρ : List Nat} {ν : List Value} {lv : List (Nat × Value)} {st : List Value} {h : List zC} {u m4 m7 m9 m11 : Nat} {i R C A : Int32} {F : Int} (ih : lIH n) (m : List Nat) (h7 : S.2.2.2.1.all (fun f => !(f.1 == 7)) = true) (hm : mOk m (S.1, S.2.1, S.2.2.1, S.2.2.2.1, 0, 0, []) (lS g) = true) (hA : gA hb ub ρ ν S lv st h u) (hs : S.2.2.1 = []) (hH : tHeap wT N ρ h)
    (e4 : m[4]? = some m4) (e7 : m[7]? = some m7) (e9 : m[9]? = some m9) (e11 : m[11]? = some m11) (v4 : ν[m4]? = some (.int i)) (v7 : ν[m7]? = some (.int R)) (v9 : ν[m9]? = some (.int C)) (v11 : ν[m11]? = some (.int A)) (acc : lAcc g h.length u i.toInt R.toInt C.toInt A.toInt F) (hn : 4104 - i.toInt ≤ n) (e1 : m[1]? = some 1) (e2 : m[2]? = some 2) (e3 : m[3]? = some 3) (hR : lR ρ ν h) : zE zrx zi 57 243 27 lv st h u lKK := by
  obtain ⟨b1, b2⟩ := hA.rebase m h7 hm
  have hT := hA.2.2.1
  rw [hs] at hT
  have e : st = [] := by
    unfold gSt at hT
    cases st with
    | nil => rfl
    | cons x r => simp at hT
  subst e
  have get : ∀ {s x : Nat} {v : Value}, m[s]? = some x → ν[x]? = some v → (mv ν m)[s]? = some v := fun q1 q2 => by
    obtain ⟨v, w1, w2⟩ := b2 _ _ q1
    rw [q2] at w1
    cases w1
    exact w2
  exact ih g N ρ (mv ν m) lv h u i R C A F b1 hH (get e4 v4) (get e7 v7) (get e9 v9) (get e11 v11) acc hn ⟨hR.1, get e1 hR.2.1, get e2 hR.2.2.1, get e3 hR.2.2.2.1, hR.2.2.2.2⟩
/-- the place behind a turn -/
theorem l_i {hb ub : Nat} {S : sS} {ρ : List Nat} {ν : List Value} {lv : List (Nat × Value)} {st : List Value} {h : List zC} {u : Nat} {i : Int32} (hA : gA hb ub ρ ν S lv st h u) (f1 : S.2.2.2.1[13]? = some (0, 15, 4, 0, 8)) (f2 : S.2.2.2.1[14]? = some (0, 4, 15, 0, -8)) (v4 : ν[4]? = some (.int i)) : ∃ i' : Int32, ν[15]? = some (.int i') ∧ i'.toInt = i.toInt + 8 := by
  obtain ⟨x, y, a1, a2, a3⟩ := fAt 13 hA f1
  obtain ⟨x2, y2, b1, b2, b3⟩ := fAt 14 hA f2
  dsimp only at a1 a2 a3 b1 b2 b3
  rw [v4] at a2 b1
  cases a2
  cases b1
  rw [a1] at b2
  cases b2
  exact ⟨x, a1, by omega⟩
/-- one more of a size -/
theorem l_one {hb ub k : Nat} {S : sS} {ρ : List Nat} {ν : List Value} {lv : List (Nat × Value)} {st : List Value} {h : List zC} {u : Nat} {R : Int32} (hA : gA hb ub ρ ν S lv st h u) (f1 : S.2.2.2.1[16]? = some (0, 16, k, 0, 1)) (f2 : S.2.2.2.1[17]? = some (0, k, 16, 0, -1)) (v : ν[k]? = some (.int R)) : ∃ R' : Int32, ν[16]? = some (.int R') ∧ R'.toInt = R.toInt + 1 := by
  obtain ⟨x, y, a1, a2, a3⟩ := fAt 16 hA f1
  obtain ⟨x2, y2, b1, b2, b3⟩ := fAt 17 hA f2
  dsimp only at a1 a2 a3 b1 b2 b3
  rw [v] at a2 b1
  cases a2
  cases b1
  rw [a1] at b2
  cases b2
  exact ⟨x, a1, by omega⟩
theorem lD_lo (R C A : Int) : 11800 ≤ lD R C A ∧ 6030 + 72 * R + 207 * C + 169 * A ≤ lD R C A ∧ 110 ≤ lDc R C A ∧ 170 + 6 * R + 18 * C + 13 * A ≤ lDc R C A := by
  unfold lD lDc
  obtain ⟨a1, a2, -⟩ := iMx_ok 11800 (6030 + 72 * R + 207 * C + 169 * A)
  obtain ⟨c1, c2, -⟩ := iMx_ok 110 (170 + 6 * R + 18 * C + 13 * A)
  exact ⟨a1, a2, c1, c2⟩
def lT_eza : sS := ([(3, 0, 0), (3, 8, 0), (3, 40, 0), (3, 36, 0), (0, 0, 4096), (0, 0, 4096), (3, 45, 0), (0, 0, 40), (3, 48, 0), (0, 0, 24), (3, 51, 0), (0, 0, 24), (0, 0, 4096), (0, 0, 4096), (3, 1, 0), (0, 0, 4096)], [(0, 0), (1, 1), (2, 2), (3, 3), (4, 15)], [], [(3, 0, 5, 0, 0), (2, 2, 7, 6, 0), (2, 6, 2, 7, 0), (2, 2, 8, 8, 0), (2, 8, 2, 9, 0), (2, 2, 9, 10, 0), (2, 10, 2, 11, 0), (2, 1, 1, 12, 0), (2, 2, 3, 13, 0), (0, 12, 13, 0, 0), (0, 13, 12, 0, 0), (2, 2, 10, 14, 0), (0, 15, 5, 0, 0), (0, 15, 4, 0, 8), (0, 4, 15, 0, -8), (0, 12, 15, 0, 0), (0, 13, 15, 0, 0)], 0, 0, [])
def lT_ezr : sS := ([(3, 0, 0), (3, 8, 0), (3, 40, 0), (3, 36, 0), (0, 0, 4096), (0, 0, 4096), (3, 45, 0), (0, 0, 40), (3, 48, 0), (0, 0, 24), (3, 51, 0), (0, 0, 24), (0, 0, 4096), (0, 0, 4096), (3, 1, 0), (0, 0, 4096), (0, 0, 40)], [(0, 0), (1, 1), (2, 2), (3, 3), (4, 15)], [], [(3, 0, 5, 0, 0), (2, 2, 7, 6, 0), (2, 6, 2, 16, 0), (2, 2, 8, 8, 0), (2, 8, 2, 9, 0), (2, 2, 9, 10, 0), (2, 10, 2, 11, 0), (2, 1, 1, 12, 0), (2, 2, 3, 13, 0), (0, 12, 13, 0, 0), (0, 13, 12, 0, 0), (2, 2, 10, 14, 0), (0, 15, 5, 0, 0), (0, 15, 4, 0, 8), (0, 4, 15, 0, -8), (0, 12, 15, 0, 0), (0, 16, 7, 0, 1), (0, 7, 16, 0, -1), (0, 13, 15, 0, 0)], 0, 0, [])
def lYa_e_216 : sS := ([(3, 0, 0), (3, 8, 0), (3, 40, 0), (3, 36, 0), (0, 0, 4088), (0, 8, 4096), (3, 45, 0), (0, 0, 40), (3, 48, 0), (0, 0, 24), (3, 51, 0), (0, 0, 24), (0, 0, 4088), (0, 0, 4088), (3, 1, 0), (0, 1, 1), (0, 1, 4089), (0, -2147483648, 2147483647), (0, 2, 2), (0, 2, 4090), (0, -2147483648, 2147483647)], [(0, 0), (1, 1), (2, 2), (3, 3), (4, 4)], [3, 20, 17, 1], [(4, 0, 19, 20, 0), (0, 19, 4, 0, 2), (0, 4, 19, 0, -2), (4, 0, 16, 17, 0), (0, 16, 4, 0, 1), (0, 4, 16, 0, -1), (0, 4, 5, 0, -8), (3, 0, 5, 0, 0), (2, 2, 7, 6, 0), (2, 6, 2, 7, 0), (2, 2, 8, 8, 0), (2, 8, 2, 9, 0), (2, 2, 9, 10, 0), (2, 10, 2, 11, 0), (2, 1, 1, 12, 0), (2, 2, 3, 13, 0), (0, 12, 13, 0, 0), (0, 13, 12, 0, 0), (2, 2, 10, 14, 0), (0, 12, 4, 0, 0), (0, 13, 4, 0, 0)], 0, 0, [])
def lYb_e_216 : sS := vZ (cvS zi lYa_e_216 k_L_people (cx1 k_L_people))
def lYc_e_216 : sS := ([(3, 0, 0), (3, 8, 0), (3, 40, 0), (3, 36, 0), (0, 0, 4088), (0, 8, 4096), (3, 45, 0), (0, 0, 40), (3, 48, 0), (0, 0, 24), (3, 51, 0), (0, 0, 24), (0, 0, 4088), (0, 0, 4088), (3, 1, 0), (0, 1, 1), (0, 1, 4089), (0, -2147483648, 2147483647), (0, 2, 2), (0, 2, 4090), (0, -2147483648, 2147483647), (0, 0, 2), (0, 1, 1), (0, 2, 2)], [(5, 21), (0, 0), (1, 1), (2, 2), (3, 3), (4, 4)], [20, 17, 2], [(4, 0, 19, 20, 0), (0, 19, 4, 0, 2), (0, 4, 19, 0, -2), (4, 0, 16, 17, 0), (0, 16, 4, 0, 1), (0, 4, 16, 0, -1), (0, 4, 5, 0, -8), (3, 0, 5, 0, 0), (2, 2, 7, 6, 0), (2, 6, 2, 7, 0), (2, 2, 8, 8, 0), (2, 8, 2, 9, 0), (2, 2, 9, 10, 0), (2, 10, 2, 11, 0), (2, 1, 1, 12, 0), (2, 2, 3, 13, 0), (0, 12, 13, 0, 0), (0, 13, 12, 0, 0), (2, 2, 10, 14, 0), (0, 12, 4, 0, 0), (0, 13, 4, 0, 0)], 0, 0, [])
theorem lY1_e_216 : chk zrx zi wT (wRo wSites_15) (wRo wTags_15) lC_e [] 0 0 15 3000 false [(230, lYa_e_216, [])] none 57 243 216 (vZ lM_e) (fun _ _ => false) = true := by decide +kernel
theorem lY2_e_216 : chk zrx zi wT (wRo wSites_15) (wRo wTags_15) lC_e [] 0 0 22 3000 false [(248, lYc_e_216, [])] none 57 243 233 lYb_e_216 (fun _ _ => false) = true := by decide +kernel
theorem lV1_e_216 : cvOk zrx zi wT 243 230 56 lYa_e_216 k_L_people = true := by decide +kernel
theorem lV2_e_216 : cvOk zrx zi wT 243 248 56 lYc_e_216 k_X15_people = true := by decide +kernel
theorem lYn_e_216 : lYb_e_216.1.length = 22 := by decide +kernel
theorem lYr_e_216 : (vZ lM_e).2.2.2.1.all (fun f => !(f.1 == 7)) = true ∧ lYa_e_216.2.2.2.1.all (fun f => !(f.1 == 7)) = true ∧ (cvS zi lYa_e_216 k_L_people (cx1 k_L_people)).2.2.2.1.all (fun f => !(f.1 == 7)) = true ∧ lYc_e_216.2.2.2.1.all (fun f => !(f.1 == 7)) = true := by decide +kernel
def lYd0_e_216 : sS := vZ (cvS zi lYc_e_216 k_X15_people (cxi k_X15_people 0))
theorem lYd0_e_216n : lYd0_e_216.1.length = 25 ∧ (cvS zi lYc_e_216 k_X15_people (cxi k_X15_people 0)).2.2.2.1.all (fun f => !(f.1 == 7)) = true := by decide +kernel
theorem lY3_e_216_0 : chk zrx zi wT (wRo wSites_15) (wRo wTags_15) lC_e [] 0 0 15 3000 false [(27, lT_eza, [])] none 57 243 251 lYd0_e_216 (fun _ _ => false) = true := by decide +kernel
set_option maxRecDepth 20000 in
theorem lA_e_216 {n : Nat} (ih : lIH n) {hb ub : Nat} {N : Int} {ρ : List Nat} {ν : List Value} {lv : List (Nat × Value)} {st : List Value} {h : List zC} {u : Nat} {i R C A : Int32} {F : Int} (hA : gA hb ub ρ ν lM_e lv st h u) (hH : tHeap wT N ρ h) (v4 : ν[4]? = some (.int i)) (v7 : ν[7]? = some (.int R)) (v9 : ν[9]? = some (.int C)) (v11 : ν[11]? = some (.int A))
    (i4 : i.toInt ≤ 4096) (acc : lAcc false hb ub i.toInt R.toInt C.toInt A.toInt F) (rm1 : (ub : Int) + 17920 ≤ zSN) (rm2 : (hb : Int) + 1152 ≤ zCM) (hn : 4104 - i.toInt ≤ (n + 1 : Nat)) (hR : lR ρ ν h) : zE zrx zi 57 243 216 lv st h u lKK := by
  obtain ⟨dl1, dl2, dl3, dl4⟩ := lD_lo R.toInt C.toInt A.toInt
  obtain ⟨r0, ra, rb, rc⟩ := lYr_e_216
  have q0 : (h.length : Int) - hb ≤ 0 := hA.2.2.2.2.1
  have q1 : (u : Int) - ub ≤ 0 := hA.2.2.2.2.2
  have hlen : ν.length ≤ 15 := by
    rw [← hA.1.1]
    exact Nat.le_of_eq rfl
  refine seg wT_ok lC_e_ok 3000 lY1_e_216 (Nat.le_refl _) (nExt.refl ν) hlen (hA.reb r0) rfl rfl hH (by omega) (by omega) ?_
  intro x hx N1 ρ1 ν1 lv1 st1 h1 u1 x1 hA1 hH1 hF1 hP1
  rw [List.mem_singleton.mp hx] at hA1 ⊢
  clear hx x
  dsimp only at hA1 ⊢
  have hR1 := hR.fr hH hF1 hP1 x1 stW_nil rW_nil
  have b1 : (h1.length : Int) - h.length ≤ 0 := Int.le_trans (hA1.cost (by decide +kernel)).1 (by decide +kernel)
  have b2 : (u1 : Int) - u ≤ 0 := Int.le_trans (hA1.cost (by decide +kernel)).2 (by decide +kernel)
  have hT : gSt ν1 [3, 20, 17, 1] st1 := hA1.2.2.1
  obtain ⟨w0, sa0, ea0, o0, ha0⟩ := hT.inv
  subst ea0
  rw [hR1.2.2.2.1] at o0
  cases o0
  obtain ⟨w1, sa1, ea1, o1, ha1⟩ := ha0.inv
  subst ea1
  obtain ⟨p20, rfl, -⟩ := hA1.int o1 rfl
  obtain ⟨w2, sa2, ea2, o2, ha2⟩ := ha1.inv
  subst ea2
  obtain ⟨p17, rfl, -⟩ := hA1.int o2 rfl
  obtain ⟨w3, sa3, ea3, o3, ha3⟩ := ha2.inv
  subst ea3
  rw [hR1.2.1] at o3
  cases o3
  cases ha3.nil
  obtain ⟨⟨cnt, el, rc1, rc2, rc3, rc4, rc5, rc6, rc7⟩, ⟨dd, d1, d2⟩, hp⟩ := hR1.2.2.2.2.2
  refine call_val con_L_people vr_243_230 lV1_e_216 rfl rfl (hA1.reb ra) hH1 (by have : k_L_people.2.2.2.2.1 = 1 := rfl; omega) (by have : k_L_people.2.2.2.2.2.1 = 6 := rfl; omega) rfl (fun n => C_Lpeople n p17 p20 h1 u1 hR1.2.2.2.2.1) ?_
  intro N2 ρ2 ν2 v h2 u2 n2 x2 hA2 hH2 hF2 hP2 V1
  obtain ⟨k, hk, V1⟩ := V1
  cases hk
  have V1 : Q_Lpeople p17 p20 h1 (.inl (some (.int k))) h2 u2 := ⟨k, rfl, V1⟩
  have b3 : (h2.length : Int) - h1.length ≤ 1 := Int.le_trans (hA2.cost (by decide +kernel)).1 (by decide +kernel)
  have b4 : (u2 : Int) - u1 ≤ 6 := Int.le_trans (hA2.cost (by decide +kernel)).2 (by decide +kernel)
  have hTk : ν2[21]? = some (.int k) := gSt_hd hA2.2.2.1 (by decide +kernel)
  have hlen2 : ν2.length ≤ 22 := by
    rw [← hA2.1.1]
    exact Nat.le_of_eq lYn_e_216
  have hS2 : Stc h2 := hR1.2.2.2.2.1.fr hR1.1 hF2 stW_L_people
  have hRo2 : Ro ρ2 := hR1.1.pre hP2
  show zE zrx zi 57 243 233 lv1 _ h2 u2 lKK
  refine seg wT_ok lC_e_ok 3000 lY2_e_216 (Nat.le_refl _) (nExt.refl ν2) hlen2 (hA2.reb rb) rfl rfl hH2 (by omega) (by omega) ?_
  intro x hx N3 ρ3 ν3 lv3 st3 h3 u3 x3 hA3 hH3 hF3 hP3
  rw [List.mem_singleton.mp hx] at hA3 ⊢
  clear hx x
  dsimp only at hA3 ⊢
  have hS3 : Stc h3 := hS2.fr hRo2 hF3 stW_nil
  have b5 : (h3.length : Int) - h2.length ≤ 0 := Int.le_trans (hA3.cost (by decide +kernel)).1 (by decide +kernel)
  have b6 : (u3 : Int) - u2 ≤ 0 := Int.le_trans (hA3.cost (by decide +kernel)).2 (by decide +kernel)
  have hE : ∀ p, p < h2.length → ∀ k, gF h3 p k = gF h2 p k := fun p hp k => gFr_F0 hF3 hH2.1 hp k
  have hT : gSt ν3 [20, 17, 2] st3 := hA3.2.2.1
  obtain ⟨w0, sb0, eb0, c0, hb0⟩ := hT.inv
  subst eb0
  rw [x3 _ _ (x2 _ _ o1)] at c0
  cases c0
  obtain ⟨w1, sb1, eb1, c1, hb1⟩ := hb0.inv
  subst eb1
  rw [x3 _ _ (x2 _ _ o2)] at c1
  cases c1
  obtain ⟨w2, sb2, eb2, c2, hb2⟩ := hb1.inv
  subst eb2
  rw [x3 _ _ (x2 _ _ hR1.2.2.1)] at c2
  cases c2
  cases hb2.nil
  have hl1 := hR1.2.2.2.2.1.1
  have hl2 := gFr_len hF2
  have hl3 := gFr_len hF3
  have ro3 : Ro ρ3 := hRo2.pre hP3
  refine call_val con_X15_people vr_243_248 lV2_e_216 rfl rfl (hA3.reb rc) hH3 (by have : k_X15_people.2.2.2.2.1 = 0 := rfl; omega) (by have : k_X15_people.2.2.2.2.2.1 = 0 := rfl; omega) rfl (fun n => C_mpeople n p17 p20 h3 u3 hS3) ?_
  intro N4 ρ4 ν4 v h4 u4 n4 x4 hA4 hH4 hF4 hP4 V2
  obtain ⟨nd, rd⟩ := lYd0_e_216n
  obtain ⟨r, hr⟩ : ∃ r : Int32, v = .int r := by
    first
      | (obtain ⟨r, h0, hr, -⟩ := V2; cases hr; exact ⟨r, rfl⟩)
      | (obtain ⟨r, hr, -⟩ := V2; cases hr; exact ⟨r, rfl⟩)
  subst hr
  have b7 : (h4.length : Int) - h3.length ≤ 0 := Int.le_trans (hA4.cost (by decide +kernel)).1 (by decide +kernel)
  have b8 : (u4 : Int) - u3 ≤ 0 := Int.le_trans (hA4.cost (by decide +kernel)).2 (by decide +kernel)
  have z1 := ((⟨⟨qRFu.fr3 (hR1.2.2.2.2.2.1) hR1.2.2.2.2.1 hR1.1 hH1 hF2 (by decide +kernel) hS2 hRo2 hH2 hF3 hS3 (hRo2.pre hP3) hH3 hF4 (by decide +kernel), qRDy.fr3 (hR1.2.2.2.2.2.2.1) hR1.2.2.2.2.1 hR1.1 hH1 hF2 (by decide +kernel) hS2 hRo2 hH2 hF3 hS3 (hRo2.pre hP3) hH3 hF4 (by decide +kernel), sum_people hp hl1 hl2 V1 hE V2⟩, trivial⟩ : qRHe h4 ∧ True)).1
  have hR4 : lR ρ4 ν4 h4 := ⟨(hRo2.pre hP3).pre hP4, x4 _ _ (x3 _ _ (x2 _ _ hR1.2.1)), x4 _ _ (x3 _ _ (x2 _ _ hR1.2.2.1)), x4 _ _ (x3 _ _ (x2 _ _ hR1.2.2.2.1)), hS3.fr (hRo2.pre hP3) hF4 stW_X15_people, z1⟩
  have x14 : nExt ν ν4 := x1.trans (x2.trans (x3.trans x4))
  have hA4 := hA4.reb rd
  show zE zrx zi 57 243 251 lv3 _ h4 u4 lKK
  refine seg wT_ok lC_e_ok 3000 lY3_e_216_0 (Nat.le_refl _) x14 hlen hA4 rfl rfl hH4 (by omega) (by omega) ?_
  intro x hx N5 ρ5 ν5 lv5 st5 h5 u5 x5 hA5 hH5 hF5 hP5
  rw [List.mem_singleton.mp hx] at hA5 ⊢
  clear hx x
  dsimp only at hA5 ⊢
  have b9 : (h5.length : Int) - h4.length ≤ 0 := Int.le_trans (hA5.cost (by decide +kernel)).1 (by decide +kernel)
  have c1 : (u5 : Int) - u4 ≤ 0 := Int.le_trans (hA5.cost (by decide +kernel)).2 (by decide +kernel)
  obtain ⟨j, j1, j2⟩ := l_i hA5 rfl rfl (x5 _ _ v4)
  exact l_next (g := false) ih [0, 1, 2, 3, 15, 5, 6, 7, 8, 9, 10, 11, 12, 13, 14] (by decide +kernel) (by decide +kernel) hA5 rfl hH5 rfl rfl rfl rfl j1 (x5 _ _ v7) (x5 _ _ v9) (x5 _ _ v11) (acc.dear j2 (by omega) (by omega) false (fun z => z)) (by omega) rfl rfl rfl (lR.fr ⟨hR4.1, x5 _ _ (hR.2.1), x5 _ _ (hR.2.2.1), x5 _ _ (hR.2.2.2.1), hR4.2.2.2.2⟩ hH4 hF5 hP5 (nExt.refl ν5) stW_nil rW_nil)
def lYa_e_348 : sS := ([(3, 0, 0), (3, 8, 0), (3, 40, 0), (3, 36, 0), (0, 0, 4088), (0, 8, 4096), (3, 45, 0), (0, 0, 40), (3, 48, 0), (0, 0, 24), (3, 51, 0), (0, 0, 24), (0, 0, 4088), (0, 0, 4088), (3, 1, 0), (0, 1, 1), (0, 1, 4089), (0, -2147483648, 2147483647), (0, 2, 2), (0, 2, 4090), (0, -2147483648, 2147483647), (0, 3, 3), (0, 3, 4091), (0, -2147483648, 2147483647), (0, 4, 4), (0, 4, 4092), (0, -2147483648, 2147483647), (0, 5, 5), (0, 5, 4093), (0, -2147483648, 2147483647), (0, 6, 6), (0, 6, 4094), (0, -2147483648, 2147483647), (0, 7, 7), (0, 7, 4095), (0, -2147483648, 2147483647)], [(0, 0), (1, 1), (2, 2), (3, 3), (4, 4)], [3, 35, 32, 29, 26, 23, 20, 17, 1], [(4, 0, 34, 35, 0), (0, 34, 4, 0, 7), (0, 4, 34, 0, -7), (4, 0, 31, 32, 0), (0, 31, 4, 0, 6), (0, 4, 31, 0, -6), (4, 0, 28, 29, 0), (0, 28, 4, 0, 5), (0, 4, 28, 0, -5), (4, 0, 25, 26, 0), (0, 25, 4, 0, 4), (0, 4, 25, 0, -4), (4, 0, 22, 23, 0), (0, 22, 4, 0, 3), (0, 4, 22, 0, -3), (4, 0, 19, 20, 0), (0, 19, 4, 0, 2), (0, 4, 19, 0, -2), (4, 0, 16, 17, 0), (0, 16, 4, 0, 1), (0, 4, 16, 0, -1), (0, 4, 5, 0, -8), (3, 0, 5, 0, 0), (2, 2, 7, 6, 0), (2, 6, 2, 7, 0), (2, 2, 8, 8, 0), (2, 8, 2, 9, 0), (2, 2, 9, 10, 0), (2, 10, 2, 11, 0), (2, 1, 1, 12, 0), (2, 2, 3, 13, 0), (0, 12, 13, 0, 0), (0, 13, 12, 0, 0), (2, 2, 10, 14, 0), (0, 12, 4, 0, 0), (0, 13, 4, 0, 0)], 0, 0, [])
def lYb_e_348 : sS := vZ (cvS zi lYa_e_348 k_L_rule (cx1 k_L_rule))
def lYc_e_348 : sS := ([(3, 0, 0), (3, 8, 0), (3, 40, 0), (3, 36, 0), (0, 0, 4088), (0, 8, 4096), (3, 45, 0), (0, 0, 40), (3, 48, 0), (0, 0, 24), (3, 51, 0), (0, 0, 24), (0, 0, 4088), (0, 0, 4088), (3, 1, 0), (0, 1, 1), (0, 1, 4089), (0, -2147483648, 2147483647), (0, 2, 2), (0, 2, 4090), (0, -2147483648, 2147483647), (0, 3, 3), (0, 3, 4091), (0, -2147483648, 2147483647), (0, 4, 4), (0, 4, 4092), (0, -2147483648, 2147483647), (0, 5, 5), (0, 5, 4093), (0, -2147483648, 2147483647), (0, 6, 6), (0, 6, 4094), (0, -2147483648, 2147483647), (0, 7, 7), (0, 7, 4095), (0, -2147483648, 2147483647), (0, 0, 3), (0, 1, 1), (0, 2, 2), (0, 3, 3), (0, 4, 4), (0, 5, 5), (0, 6, 6), (0, 7, 7)], [(5, 36), (0, 0), (1, 1), (2, 2), (3, 3), (4, 4)], [35, 32, 29, 26, 23, 20, 17, 2], [(4, 0, 34, 35, 0), (0, 34, 4, 0, 7), (0, 4, 34, 0, -7), (4, 0, 31, 32, 0), (0, 31, 4, 0, 6), (0, 4, 31, 0, -6), (4, 0, 28, 29, 0), (0, 28, 4, 0, 5), (0, 4, 28, 0, -5), (4, 0, 25, 26, 0), (0, 25, 4, 0, 4), (0, 4, 25, 0, -4), (4, 0, 22, 23, 0), (0, 22, 4, 0, 3), (0, 4, 22, 0, -3), (4, 0, 19, 20, 0), (0, 19, 4, 0, 2), (0, 4, 19, 0, -2), (4, 0, 16, 17, 0), (0, 16, 4, 0, 1), (0, 4, 16, 0, -1), (0, 4, 5, 0, -8), (3, 0, 5, 0, 0), (2, 2, 7, 6, 0), (2, 6, 2, 7, 0), (2, 2, 8, 8, 0), (2, 8, 2, 9, 0), (2, 2, 9, 10, 0), (2, 10, 2, 11, 0), (2, 1, 1, 12, 0), (2, 2, 3, 13, 0), (0, 12, 13, 0, 0), (0, 13, 12, 0, 0), (2, 2, 10, 14, 0), (0, 12, 4, 0, 0), (0, 13, 4, 0, 0)], 0, 0, [])
theorem lY1_e_348 : chk zrx zi wT (wRo wSites_15) (wRo wTags_15) lC_e [] 0 0 15 3000 false [(394, lYa_e_348, [])] none 57 243 348 (vZ lM_e) (fun _ _ => false) = true := by decide +kernel
theorem lY2_e_348 : chk zrx zi wT (wRo wSites_15) (wRo wTags_15) lC_e [] 0 0 37 3000 false [(444, lYc_e_348, [])] none 57 243 397 lYb_e_348 (fun _ _ => false) = true := by decide +kernel
theorem lV1_e_348 : cvOk zrx zi wT 243 394 56 lYa_e_348 k_L_rule = true := by decide +kernel
theorem lV2_e_348 : cvOk zrx zi wT 243 444 56 lYc_e_348 k_X15_rule_L = true := by decide +kernel
theorem lYn_e_348 : lYb_e_348.1.length = 37 := by decide +kernel
theorem lYr_e_348 : (vZ lM_e).2.2.2.1.all (fun f => !(f.1 == 7)) = true ∧ lYa_e_348.2.2.2.1.all (fun f => !(f.1 == 7)) = true ∧ (cvS zi lYa_e_348 k_L_rule (cx1 k_L_rule)).2.2.2.1.all (fun f => !(f.1 == 7)) = true ∧ lYc_e_348.2.2.2.1.all (fun f => !(f.1 == 7)) = true := by decide +kernel
def lYd0_e_348 : sS := vZ (cvS zi lYc_e_348 k_X15_rule_L (cxi k_X15_rule_L 0))
theorem lYd0_e_348n : lYd0_e_348.1.length = 47 ∧ (cvS zi lYc_e_348 k_X15_rule_L (cxi k_X15_rule_L 0)).2.2.2.1.all (fun f => !(f.1 == 7)) = true := by decide +kernel
theorem lY3_e_348_0 : chk zrx zi wT (wRo wSites_15) (wRo wTags_15) lC_e [] 0 0 15 3000 false [(27, lT_ezr, [])] none 57 243 447 lYd0_e_348 (fun _ _ => false) = true := by decide +kernel
def lYd1_e_348 : sS := vZ (cvS zi lYc_e_348 k_X15_rule_L (cxi k_X15_rule_L 1))
theorem lYd1_e_348n : lYd1_e_348.1.length = 46 ∧ (cvS zi lYc_e_348 k_X15_rule_L (cxi k_X15_rule_L 1)).2.2.2.1.all (fun f => !(f.1 == 7)) = true := by decide +kernel
theorem lY3_e_348_1 : chk zrx zi wT (wRo wSites_15) (wRo wTags_15) lC_e [] 0 0 15 3000 false [(27, lT_eza, [])] none 57 243 447 lYd1_e_348 (fun _ _ => false) = true := by decide +kernel
set_option maxRecDepth 20000 in
theorem lA_e_348 {n : Nat} (ih : lIH n) {hb ub : Nat} {N : Int} {ρ : List Nat} {ν : List Value} {lv : List (Nat × Value)} {st : List Value} {h : List zC} {u : Nat} {i R C A : Int32} {F : Int} (hA : gA hb ub ρ ν lM_e lv st h u) (hH : tHeap wT N ρ h) (v4 : ν[4]? = some (.int i)) (v7 : ν[7]? = some (.int R)) (v9 : ν[9]? = some (.int C)) (v11 : ν[11]? = some (.int A))
    (i4 : i.toInt ≤ 4096) (acc : lAcc false hb ub i.toInt R.toInt C.toInt A.toInt F) (rm1 : (ub : Int) + 17920 ≤ zSN) (rm2 : (hb : Int) + 1152 ≤ zCM) (hn : 4104 - i.toInt ≤ (n + 1 : Nat)) (hR : lR ρ ν h) : zE zrx zi 57 243 348 lv st h u lKK := by
  obtain ⟨dl1, dl2, dl3, dl4⟩ := lD_lo R.toInt C.toInt A.toInt
  obtain ⟨r0, ra, rb, rc⟩ := lYr_e_348
  have q0 : (h.length : Int) - hb ≤ 0 := hA.2.2.2.2.1
  have q1 : (u : Int) - ub ≤ 0 := hA.2.2.2.2.2
  have hlen : ν.length ≤ 15 := by
    rw [← hA.1.1]
    exact Nat.le_of_eq rfl
  refine seg wT_ok lC_e_ok 3000 lY1_e_348 (Nat.le_refl _) (nExt.refl ν) hlen (hA.reb r0) rfl rfl hH (by omega) (by omega) ?_
  intro x hx N1 ρ1 ν1 lv1 st1 h1 u1 x1 hA1 hH1 hF1 hP1
  rw [List.mem_singleton.mp hx] at hA1 ⊢
  clear hx x
  dsimp only at hA1 ⊢
  have hR1 := hR.fr hH hF1 hP1 x1 stW_nil rW_nil
  have b1 : (h1.length : Int) - h.length ≤ 0 := Int.le_trans (hA1.cost (by decide +kernel)).1 (by decide +kernel)
  have b2 : (u1 : Int) - u ≤ 0 := Int.le_trans (hA1.cost (by decide +kernel)).2 (by decide +kernel)
  have hT : gSt ν1 [3, 35, 32, 29, 26, 23, 20, 17, 1] st1 := hA1.2.2.1
  obtain ⟨w0, sa0, ea0, o0, ha0⟩ := hT.inv
  subst ea0
  rw [hR1.2.2.2.1] at o0
  cases o0
  obtain ⟨w1, sa1, ea1, o1, ha1⟩ := ha0.inv
  subst ea1
  obtain ⟨p35, rfl, -⟩ := hA1.int o1 rfl
  obtain ⟨w2, sa2, ea2, o2, ha2⟩ := ha1.inv
  subst ea2
  obtain ⟨p32, rfl, -⟩ := hA1.int o2 rfl
  obtain ⟨w3, sa3, ea3, o3, ha3⟩ := ha2.inv
  subst ea3
  obtain ⟨p29, rfl, -⟩ := hA1.int o3 rfl
  obtain ⟨w4, sa4, ea4, o4, ha4⟩ := ha3.inv
  subst ea4
  obtain ⟨p26, rfl, -⟩ := hA1.int o4 rfl
  obtain ⟨w5, sa5, ea5, o5, ha5⟩ := ha4.inv
  subst ea5
  obtain ⟨p23, rfl, -⟩ := hA1.int o5 rfl
  obtain ⟨w6, sa6, ea6, o6, ha6⟩ := ha5.inv
  subst ea6
  obtain ⟨p20, rfl, -⟩ := hA1.int o6 rfl
  obtain ⟨w7, sa7, ea7, o7, ha7⟩ := ha6.inv
  subst ea7
  obtain ⟨p17, rfl, -⟩ := hA1.int o7 rfl
  obtain ⟨w8, sa8, ea8, o8, ha8⟩ := ha7.inv
  subst ea8
  rw [hR1.2.1] at o8
  cases o8
  cases ha8.nil
  obtain ⟨⟨cnt, el, rc1, rc2, rc3, rc4, rc5, rc6, rc7⟩, ⟨dd, d1, d2⟩, hp⟩ := hR1.2.2.2.2.2
  refine call_val con_L_rule vr_243_394 lV1_e_348 rfl rfl (hA1.reb ra) hH1 (by have : k_L_rule.2.2.2.2.1 = 1 := rfl; omega) (by have : k_L_rule.2.2.2.2.2.1 = 6 := rfl; omega) rfl (fun n => C_Lrule n p17 p20 p23 p26 p29 p32 p35 h1 u1 hR1.2.2.2.2.1 rc1) ?_
  intro N2 ρ2 ν2 v h2 u2 n2 x2 hA2 hH2 hF2 hP2 V1
  obtain ⟨k, hk, V1⟩ := V1
  cases hk
  have V1 : Q_Lrule cnt p17 p20 p23 p26 p29 p32 p35 h1 (.inl (some (.int k))) h2 u2 := ⟨k, rfl, V1⟩
  have b3 : (h2.length : Int) - h1.length ≤ 1 := Int.le_trans (hA2.cost (by decide +kernel)).1 (by decide +kernel)
  have b4 : (u2 : Int) - u1 ≤ 6 := Int.le_trans (hA2.cost (by decide +kernel)).2 (by decide +kernel)
  have hTk : ν2[36]? = some (.int k) := gSt_hd hA2.2.2.1 (by decide +kernel)
  have hlen2 : ν2.length ≤ 37 := by
    rw [← hA2.1.1]
    exact Nat.le_of_eq lYn_e_348
  have hS2 : Stc h2 := hR1.2.2.2.2.1.fr hR1.1 hF2 stW_L_rule
  have hRo2 : Ro ρ2 := hR1.1.pre hP2
  show zE zrx zi 57 243 397 lv1 _ h2 u2 lKK
  refine seg wT_ok lC_e_ok 3000 lY2_e_348 (Nat.le_refl _) (nExt.refl ν2) hlen2 (hA2.reb rb) rfl rfl hH2 (by omega) (by omega) ?_
  intro x hx N3 ρ3 ν3 lv3 st3 h3 u3 x3 hA3 hH3 hF3 hP3
  rw [List.mem_singleton.mp hx] at hA3 ⊢
  clear hx x
  dsimp only at hA3 ⊢
  have hS3 : Stc h3 := hS2.fr hRo2 hF3 stW_nil
  have b5 : (h3.length : Int) - h2.length ≤ 0 := Int.le_trans (hA3.cost (by decide +kernel)).1 (by decide +kernel)
  have b6 : (u3 : Int) - u2 ≤ 0 := Int.le_trans (hA3.cost (by decide +kernel)).2 (by decide +kernel)
  have hE : ∀ p, p < h2.length → ∀ k, gF h3 p k = gF h2 p k := fun p hp k => gFr_F0 hF3 hH2.1 hp k
  have hT : gSt ν3 [35, 32, 29, 26, 23, 20, 17, 2] st3 := hA3.2.2.1
  obtain ⟨w0, sb0, eb0, c0, hb0⟩ := hT.inv
  subst eb0
  rw [x3 _ _ (x2 _ _ o1)] at c0
  cases c0
  obtain ⟨w1, sb1, eb1, c1, hb1⟩ := hb0.inv
  subst eb1
  rw [x3 _ _ (x2 _ _ o2)] at c1
  cases c1
  obtain ⟨w2, sb2, eb2, c2, hb2⟩ := hb1.inv
  subst eb2
  rw [x3 _ _ (x2 _ _ o3)] at c2
  cases c2
  obtain ⟨w3, sb3, eb3, c3, hb3⟩ := hb2.inv
  subst eb3
  rw [x3 _ _ (x2 _ _ o4)] at c3
  cases c3
  obtain ⟨w4, sb4, eb4, c4, hb4⟩ := hb3.inv
  subst eb4
  rw [x3 _ _ (x2 _ _ o5)] at c4
  cases c4
  obtain ⟨w5, sb5, eb5, c5, hb5⟩ := hb4.inv
  subst eb5
  rw [x3 _ _ (x2 _ _ o6)] at c5
  cases c5
  obtain ⟨w6, sb6, eb6, c6, hb6⟩ := hb5.inv
  subst eb6
  rw [x3 _ _ (x2 _ _ o7)] at c6
  cases c6
  obtain ⟨w7, sb7, eb7, c7, hb7⟩ := hb6.inv
  subst eb7
  rw [x3 _ _ (x2 _ _ hR1.2.2.1)] at c7
  cases c7
  cases hb7.nil
  have hl1 := hR1.2.2.2.2.1.1
  have hl2 := gFr_len hF2
  have hl3 := gFr_len hF3
  have ro3 : Ro ρ3 := hRo2.pre hP3
  have m2 := (hE 223 (by omega) 2).trans ((gFr_F hF2 (hR1.1 223 45 (by decide +kernel)) (by decide +kernel) (by omega)).trans rc2)
  have m1 := (hE 223 (by omega) 1).trans ((gFr_F hF2 (hR1.1 223 45 (by decide +kernel)) (by decide +kernel) (by omega)).trans rc3)
  obtain ⟨⟨l, l1, l2⟩, l3, l4, l5, l6, l7, l8⟩ := rl_at hH3 ro3 m1 m2
  have l213 : ¬ el = 213 := by omega
  have d3 := (hE 213 (by omega) 1).trans ((gFr_F hF2 (hR1.1 213 40 (by decide +kernel)) (by decide +kernel) (by omega)).trans d2)
  refine call_valn con_X15_rule_L vr_243_444 lV2_e_348 (by decide +kernel) (hA3.reb rc) hH3 (by have : k_X15_rule_L.2.2.2.2.1 = 2 := rfl; omega) (by have : k_X15_rule_L.2.2.2.2.2.1 = 68 := rfl; omega) rfl (fun n => C_mrule n p17 p20 p23 p26 p29 p32 p35 h3 u3 hS3 m2 m1 l1 l2 l3 rc6 l213 d3) ?_
  refine ends2 rfl ?_ ?_
  · intro N4 ρ4 ν4 v h4 u4 n4 x4 hA4 hH4 hF4 hP4 V2
    obtain ⟨nd, rd⟩ := lYd0_e_348n
    obtain ⟨r, hr⟩ : ∃ r : Int32, v = .int r := by
      first
        | (obtain ⟨r, h0, hr, -⟩ := V2; cases hr; exact ⟨r, rfl⟩)
        | (obtain ⟨r, hr, -⟩ := V2; cases hr; exact ⟨r, rfl⟩)
    subst hr
    have b7 : (h4.length : Int) - h3.length ≤ 2 := Int.le_trans (hA4.cost (by decide +kernel)).1 (by decide +kernel)
    have b8 : (u4 : Int) - u3 ≤ 68 := Int.le_trans (hA4.cost (by decide +kernel)).2 (by decide +kernel)
    have z1 := ((⟨⟨sumF_rule rc1 rc2 rc3 rc4 rc5 rc6 rc7 (by obtain ⟨⟨l0, l01, -⟩, -⟩ := rl_at hH1 hR1.1 rc3 rc2; exact gN_lt l01) d1 hl1 hl2 hl3 V1 hE V2, qRDy.fr3 (hR1.2.2.2.2.2.2.1) hR1.2.2.2.2.1 hR1.1 hH1 hF2 (by decide +kernel) hS2 hRo2 hH2 hF3 hS3 (hRo2.pre hP3) hH3 hF4 (by decide +kernel), qRp.fr3 (hR1.2.2.2.2.2.2.2) hR1.2.2.2.2.1 hR1.1 hF2 (by decide +kernel) hS2 hRo2 hF3 hS3 (hRo2.pre hP3) hF4 (by decide +kernel)⟩, trivial⟩ : qRHe h4 ∧ True)).1
    have hR4 : lR ρ4 ν4 h4 := ⟨(hRo2.pre hP3).pre hP4, x4 _ _ (x3 _ _ (x2 _ _ hR1.2.1)), x4 _ _ (x3 _ _ (x2 _ _ hR1.2.2.1)), x4 _ _ (x3 _ _ (x2 _ _ hR1.2.2.2.1)), hS3.fr (hRo2.pre hP3) hF4 stW_X15_rule_L, z1⟩
    have x14 : nExt ν ν4 := x1.trans (x2.trans (x3.trans x4))
    have hA4 := hA4.reb rd
    show zE zrx zi 57 243 447 lv3 _ h4 u4 lKK
    refine seg wT_ok lC_e_ok 3000 lY3_e_348_0 (Nat.le_refl _) x14 hlen hA4 rfl rfl hH4 (by omega) (by omega) ?_
    intro x hx N5 ρ5 ν5 lv5 st5 h5 u5 x5 hA5 hH5 hF5 hP5
    rw [List.mem_singleton.mp hx] at hA5 ⊢
    clear hx x
    dsimp only at hA5 ⊢
    have b9 : (h5.length : Int) - h4.length ≤ 0 := Int.le_trans (hA5.cost (by decide +kernel)).1 (by decide +kernel)
    have c1 : (u5 : Int) - u4 ≤ 0 := Int.le_trans (hA5.cost (by decide +kernel)).2 (by decide +kernel)
    obtain ⟨j, j1, j2⟩ := l_i hA5 rfl rfl (x5 _ _ v4)
    obtain ⟨y, y1, y2⟩ := l_one hA5 rfl rfl (x5 _ _ v7)
    exact l_next (g := false) ih [0, 1, 2, 3, 15, 5, 6, 16, 8, 9, 10, 11, 12, 13, 14] (by decide +kernel) (by decide +kernel) hA5 rfl hH5 rfl rfl rfl rfl j1 y1 (x5 _ _ v9) (x5 _ _ v11) (acc.grow (g := false) j2 (by omega) (by omega) (by omega) (by omega) (by omega) (by omega) (by omega)) (by omega) rfl rfl rfl (lR.fr ⟨hR4.1, x5 _ _ (hR.2.1), x5 _ _ (hR.2.2.1), x5 _ _ (hR.2.2.2.1), hR4.2.2.2.2⟩ hH4 hF5 hP5 (nExt.refl ν5) stW_nil rW_nil)
  · intro N4 ρ4 ν4 v h4 u4 n4 x4 hA4 hH4 hF4 hP4 V2
    obtain ⟨nd, rd⟩ := lYd1_e_348n
    obtain ⟨r, hr⟩ : ∃ r : Int32, v = .int r := by
      first
        | (obtain ⟨r, h0, hr, -⟩ := V2; cases hr; exact ⟨r, rfl⟩)
        | (obtain ⟨r, hr, -⟩ := V2; cases hr; exact ⟨r, rfl⟩)
    subst hr
    have b7 : (h4.length : Int) - h3.length ≤ 2 := Int.le_trans (hA4.cost (by decide +kernel)).1 (by decide +kernel)
    have b8 : (u4 : Int) - u3 ≤ 68 := Int.le_trans (hA4.cost (by decide +kernel)).2 (by decide +kernel)
    have z1 := ((⟨⟨sumF_rule rc1 rc2 rc3 rc4 rc5 rc6 rc7 (by obtain ⟨⟨l0, l01, -⟩, -⟩ := rl_at hH1 hR1.1 rc3 rc2; exact gN_lt l01) d1 hl1 hl2 hl3 V1 hE V2, qRDy.fr3 (hR1.2.2.2.2.2.2.1) hR1.2.2.2.2.1 hR1.1 hH1 hF2 (by decide +kernel) hS2 hRo2 hH2 hF3 hS3 (hRo2.pre hP3) hH3 hF4 (by decide +kernel), qRp.fr3 (hR1.2.2.2.2.2.2.2) hR1.2.2.2.2.1 hR1.1 hF2 (by decide +kernel) hS2 hRo2 hF3 hS3 (hRo2.pre hP3) hF4 (by decide +kernel)⟩, trivial⟩ : qRHe h4 ∧ True)).1
    have hR4 : lR ρ4 ν4 h4 := ⟨(hRo2.pre hP3).pre hP4, x4 _ _ (x3 _ _ (x2 _ _ hR1.2.1)), x4 _ _ (x3 _ _ (x2 _ _ hR1.2.2.1)), x4 _ _ (x3 _ _ (x2 _ _ hR1.2.2.2.1)), hS3.fr (hRo2.pre hP3) hF4 stW_X15_rule_L, z1⟩
    have x14 : nExt ν ν4 := x1.trans (x2.trans (x3.trans x4))
    have hA4 := hA4.reb rd
    show zE zrx zi 57 243 447 lv3 _ h4 u4 lKK
    refine seg wT_ok lC_e_ok 3000 lY3_e_348_1 (Nat.le_refl _) x14 hlen hA4 rfl rfl hH4 (by omega) (by omega) ?_
    intro x hx N5 ρ5 ν5 lv5 st5 h5 u5 x5 hA5 hH5 hF5 hP5
    rw [List.mem_singleton.mp hx] at hA5 ⊢
    clear hx x
    dsimp only at hA5 ⊢
    have b9 : (h5.length : Int) - h4.length ≤ 0 := Int.le_trans (hA5.cost (by decide +kernel)).1 (by decide +kernel)
    have c1 : (u5 : Int) - u4 ≤ 0 := Int.le_trans (hA5.cost (by decide +kernel)).2 (by decide +kernel)
    obtain ⟨j, j1, j2⟩ := l_i hA5 rfl rfl (x5 _ _ v4)
    exact l_next (g := false) ih [0, 1, 2, 3, 15, 5, 6, 7, 8, 9, 10, 11, 12, 13, 14] (by decide +kernel) (by decide +kernel) hA5 rfl hH5 rfl rfl rfl rfl j1 (x5 _ _ v7) (x5 _ _ v9) (x5 _ _ v11) (acc.dear j2 (by omega) (by omega) false (fun z => z)) (by omega) rfl rfl rfl (lR.fr ⟨hR4.1, x5 _ _ (hR.2.1), x5 _ _ (hR.2.2.1), x5 _ _ (hR.2.2.2.1), hR4.2.2.2.2⟩ hH4 hF5 hP5 (nExt.refl ν5) stW_nil rW_nil)
def lYa_e_452 : sS := ([(3, 0, 0), (3, 8, 0), (3, 40, 0), (3, 36, 0), (0, 0, 4088), (0, 8, 4096), (3, 45, 0), (0, 0, 40), (3, 48, 0), (0, 0, 24), (3, 51, 0), (0, 0, 24), (0, 0, 4088), (0, 0, 4088), (3, 1, 0), (0, 1, 1), (0, 1, 4089), (0, -2147483648, 2147483647), (0, 2, 2), (0, 2, 4090), (0, -2147483648, 2147483647), (0, 3, 3), (0, 3, 4091), (0, -2147483648, 2147483647)], [(0, 0), (1, 1), (2, 2), (3, 3), (4, 4)], [3, 23, 20, 17, 1], [(4, 0, 22, 23, 0), (0, 22, 4, 0, 3), (0, 4, 22, 0, -3), (4, 0, 19, 20, 0), (0, 19, 4, 0, 2), (0, 4, 19, 0, -2), (4, 0, 16, 17, 0), (0, 16, 4, 0, 1), (0, 4, 16, 0, -1), (0, 4, 5, 0, -8), (3, 0, 5, 0, 0), (2, 2, 7, 6, 0), (2, 6, 2, 7, 0), (2, 2, 8, 8, 0), (2, 8, 2, 9, 0), (2, 2, 9, 10, 0), (2, 10, 2, 11, 0), (2, 1, 1, 12, 0), (2, 2, 3, 13, 0), (0, 12, 13, 0, 0), (0, 13, 12, 0, 0), (2, 2, 10, 14, 0), (0, 12, 4, 0, 0), (0, 13, 4, 0, 0)], 0, 0, [])
def lYb_e_452 : sS := vZ (cvS zi lYa_e_452 k_L_limit (cx1 k_L_limit))
def lYc_e_452 : sS := ([(3, 0, 0), (3, 8, 0), (3, 40, 0), (3, 36, 0), (0, 0, 4088), (0, 8, 4096), (3, 45, 0), (0, 0, 40), (3, 48, 0), (0, 0, 24), (3, 51, 0), (0, 0, 24), (0, 0, 4088), (0, 0, 4088), (3, 1, 0), (0, 1, 1), (0, 1, 4089), (0, -2147483648, 2147483647), (0, 2, 2), (0, 2, 4090), (0, -2147483648, 2147483647), (0, 3, 3), (0, 3, 4091), (0, -2147483648, 2147483647), (0, 0, 2), (0, 1, 1), (0, 2, 2), (0, 3, 3)], [(5, 24), (0, 0), (1, 1), (2, 2), (3, 3), (4, 4)], [23, 20, 17, 2], [(4, 0, 22, 23, 0), (0, 22, 4, 0, 3), (0, 4, 22, 0, -3), (4, 0, 19, 20, 0), (0, 19, 4, 0, 2), (0, 4, 19, 0, -2), (4, 0, 16, 17, 0), (0, 16, 4, 0, 1), (0, 4, 16, 0, -1), (0, 4, 5, 0, -8), (3, 0, 5, 0, 0), (2, 2, 7, 6, 0), (2, 6, 2, 7, 0), (2, 2, 8, 8, 0), (2, 8, 2, 9, 0), (2, 2, 9, 10, 0), (2, 10, 2, 11, 0), (2, 1, 1, 12, 0), (2, 2, 3, 13, 0), (0, 12, 13, 0, 0), (0, 13, 12, 0, 0), (2, 2, 10, 14, 0), (0, 12, 4, 0, 0), (0, 13, 4, 0, 0)], 0, 0, [])
theorem lY1_e_452 : chk zrx zi wT (wRo wSites_15) (wRo wTags_15) lC_e [] 0 0 15 3000 false [(472, lYa_e_452, [])] none 57 243 452 (vZ lM_e) (fun _ _ => false) = true := by decide +kernel
theorem lY2_e_452 : chk zrx zi wT (wRo wSites_15) (wRo wTags_15) lC_e [] 0 0 25 3000 false [(496, lYc_e_452, [])] none 57 243 475 lYb_e_452 (fun _ _ => false) = true := by decide +kernel
theorem lV1_e_452 : cvOk zrx zi wT 243 472 56 lYa_e_452 k_L_limit = true := by decide +kernel
theorem lV2_e_452 : cvOk zrx zi wT 243 496 56 lYc_e_452 k_X15_limit = true := by decide +kernel
theorem lYn_e_452 : lYb_e_452.1.length = 25 := by decide +kernel
theorem lYr_e_452 : (vZ lM_e).2.2.2.1.all (fun f => !(f.1 == 7)) = true ∧ lYa_e_452.2.2.2.1.all (fun f => !(f.1 == 7)) = true ∧ (cvS zi lYa_e_452 k_L_limit (cx1 k_L_limit)).2.2.2.1.all (fun f => !(f.1 == 7)) = true ∧ lYc_e_452.2.2.2.1.all (fun f => !(f.1 == 7)) = true := by decide +kernel
def lYd0_e_452 : sS := vZ (cvS zi lYc_e_452 k_X15_limit (cxi k_X15_limit 0))
theorem lYd0_e_452n : lYd0_e_452.1.length = 29 ∧ (cvS zi lYc_e_452 k_X15_limit (cxi k_X15_limit 0)).2.2.2.1.all (fun f => !(f.1 == 7)) = true := by decide +kernel
theorem lY3_e_452_0 : chk zrx zi wT (wRo wSites_15) (wRo wTags_15) lC_e [] 0 0 15 3000 false [(27, lT_eza, [])] none 57 243 499 lYd0_e_452 (fun _ _ => false) = true := by decide +kernel
set_option maxRecDepth 20000 in
theorem lA_e_452 {n : Nat} (ih : lIH n) {hb ub : Nat} {N : Int} {ρ : List Nat} {ν : List Value} {lv : List (Nat × Value)} {st : List Value} {h : List zC} {u : Nat} {i R C A : Int32} {F : Int} (hA : gA hb ub ρ ν lM_e lv st h u) (hH : tHeap wT N ρ h) (v4 : ν[4]? = some (.int i)) (v7 : ν[7]? = some (.int R)) (v9 : ν[9]? = some (.int C)) (v11 : ν[11]? = some (.int A))
    (i4 : i.toInt ≤ 4096) (acc : lAcc false hb ub i.toInt R.toInt C.toInt A.toInt F) (rm1 : (ub : Int) + 17920 ≤ zSN) (rm2 : (hb : Int) + 1152 ≤ zCM) (hn : 4104 - i.toInt ≤ (n + 1 : Nat)) (hR : lR ρ ν h) : zE zrx zi 57 243 452 lv st h u lKK := by
  obtain ⟨dl1, dl2, dl3, dl4⟩ := lD_lo R.toInt C.toInt A.toInt
  obtain ⟨r0, ra, rb, rc⟩ := lYr_e_452
  have q0 : (h.length : Int) - hb ≤ 0 := hA.2.2.2.2.1
  have q1 : (u : Int) - ub ≤ 0 := hA.2.2.2.2.2
  have hlen : ν.length ≤ 15 := by
    rw [← hA.1.1]
    exact Nat.le_of_eq rfl
  refine seg wT_ok lC_e_ok 3000 lY1_e_452 (Nat.le_refl _) (nExt.refl ν) hlen (hA.reb r0) rfl rfl hH (by omega) (by omega) ?_
  intro x hx N1 ρ1 ν1 lv1 st1 h1 u1 x1 hA1 hH1 hF1 hP1
  rw [List.mem_singleton.mp hx] at hA1 ⊢
  clear hx x
  dsimp only at hA1 ⊢
  have hR1 := hR.fr hH hF1 hP1 x1 stW_nil rW_nil
  have b1 : (h1.length : Int) - h.length ≤ 0 := Int.le_trans (hA1.cost (by decide +kernel)).1 (by decide +kernel)
  have b2 : (u1 : Int) - u ≤ 0 := Int.le_trans (hA1.cost (by decide +kernel)).2 (by decide +kernel)
  have hT : gSt ν1 [3, 23, 20, 17, 1] st1 := hA1.2.2.1
  obtain ⟨w0, sa0, ea0, o0, ha0⟩ := hT.inv
  subst ea0
  rw [hR1.2.2.2.1] at o0
  cases o0
  obtain ⟨w1, sa1, ea1, o1, ha1⟩ := ha0.inv
  subst ea1
  obtain ⟨p23, rfl, -⟩ := hA1.int o1 rfl
  obtain ⟨w2, sa2, ea2, o2, ha2⟩ := ha1.inv
  subst ea2
  obtain ⟨p20, rfl, -⟩ := hA1.int o2 rfl
  obtain ⟨w3, sa3, ea3, o3, ha3⟩ := ha2.inv
  subst ea3
  obtain ⟨p17, rfl, -⟩ := hA1.int o3 rfl
  obtain ⟨w4, sa4, ea4, o4, ha4⟩ := ha3.inv
  subst ea4
  rw [hR1.2.1] at o4
  cases o4
  cases ha4.nil
  obtain ⟨⟨cnt, el, rc1, rc2, rc3, rc4, rc5, rc6, rc7⟩, ⟨dd, d1, d2⟩, hp⟩ := hR1.2.2.2.2.2
  refine call_val con_L_limit vr_243_472 lV1_e_452 rfl rfl (hA1.reb ra) hH1 (by have : k_L_limit.2.2.2.2.1 = 1 := rfl; omega) (by have : k_L_limit.2.2.2.2.2.1 = 6 := rfl; omega) rfl (fun n => C_Llimit n p17 p20 p23 h1 u1 hR1.2.2.2.2.1 rc1 rc6) ?_
  intro N2 ρ2 ν2 v h2 u2 n2 x2 hA2 hH2 hF2 hP2 V1
  obtain ⟨k, hk, V1⟩ := V1
  cases hk
  have V1 : Q_Llimit cnt p17 p20 p23 h1 (.inl (some (.int k))) h2 u2 := ⟨k, rfl, V1⟩
  have b3 : (h2.length : Int) - h1.length ≤ 1 := Int.le_trans (hA2.cost (by decide +kernel)).1 (by decide +kernel)
  have b4 : (u2 : Int) - u1 ≤ 6 := Int.le_trans (hA2.cost (by decide +kernel)).2 (by decide +kernel)
  have hTk : ν2[24]? = some (.int k) := gSt_hd hA2.2.2.1 (by decide +kernel)
  have hlen2 : ν2.length ≤ 25 := by
    rw [← hA2.1.1]
    exact Nat.le_of_eq lYn_e_452
  have hS2 : Stc h2 := hR1.2.2.2.2.1.fr hR1.1 hF2 stW_L_limit
  have hRo2 : Ro ρ2 := hR1.1.pre hP2
  show zE zrx zi 57 243 475 lv1 _ h2 u2 lKK
  refine seg wT_ok lC_e_ok 3000 lY2_e_452 (Nat.le_refl _) (nExt.refl ν2) hlen2 (hA2.reb rb) rfl rfl hH2 (by omega) (by omega) ?_
  intro x hx N3 ρ3 ν3 lv3 st3 h3 u3 x3 hA3 hH3 hF3 hP3
  rw [List.mem_singleton.mp hx] at hA3 ⊢
  clear hx x
  dsimp only at hA3 ⊢
  have hS3 : Stc h3 := hS2.fr hRo2 hF3 stW_nil
  have b5 : (h3.length : Int) - h2.length ≤ 0 := Int.le_trans (hA3.cost (by decide +kernel)).1 (by decide +kernel)
  have b6 : (u3 : Int) - u2 ≤ 0 := Int.le_trans (hA3.cost (by decide +kernel)).2 (by decide +kernel)
  have hE : ∀ p, p < h2.length → ∀ k, gF h3 p k = gF h2 p k := fun p hp k => gFr_F0 hF3 hH2.1 hp k
  have hT : gSt ν3 [23, 20, 17, 2] st3 := hA3.2.2.1
  obtain ⟨w0, sb0, eb0, c0, hb0⟩ := hT.inv
  subst eb0
  rw [x3 _ _ (x2 _ _ o1)] at c0
  cases c0
  obtain ⟨w1, sb1, eb1, c1, hb1⟩ := hb0.inv
  subst eb1
  rw [x3 _ _ (x2 _ _ o2)] at c1
  cases c1
  obtain ⟨w2, sb2, eb2, c2, hb2⟩ := hb1.inv
  subst eb2
  rw [x3 _ _ (x2 _ _ o3)] at c2
  cases c2
  obtain ⟨w3, sb3, eb3, c3, hb3⟩ := hb2.inv
  subst eb3
  rw [x3 _ _ (x2 _ _ hR1.2.2.1)] at c3
  cases c3
  cases hb3.nil
  have hl1 := hR1.2.2.2.2.1.1
  have hl2 := gFr_len hF2
  have hl3 := gFr_len hF3
  have ro3 : Ro ρ3 := hRo2.pre hP3
  have m2 := (hE 223 (by omega) 2).trans ((gFr_F hF2 (hR1.1 223 45 (by decide +kernel)) (by decide +kernel) (by omega)).trans rc2)
  have m1 := (hE 223 (by omega) 1).trans ((gFr_F hF2 (hR1.1 223 45 (by decide +kernel)) (by decide +kernel) (by omega)).trans rc3)
  obtain ⟨⟨l, l1, l2⟩, l3, l4, l5, l6, l7, l8⟩ := rl_at hH3 ro3 m1 m2
  have l213 : ¬ el = 213 := by omega
  obtain ⟨-, -, k213, -⟩ := kind_at hH3 (ro3 213 40 (by decide +kernel)) rfl
  obtain ⟨-, -, k223, -⟩ := kind_at hH3 (ro3 223 45 (by decide +kernel)) rfl
  refine call_val con_X15_limit vr_243_496 lV2_e_452 rfl rfl (hA3.reb rc) hH3 (by have : k_X15_limit.2.2.2.2.1 = 0 := rfl; omega) (by have : k_X15_limit.2.2.2.2.2.1 = 0 := rfl; omega) rfl (fun n => C_mlimit n p17 p20 p23 h3 u3 hS3 m2 m1 l3 l213 k213 k223 rc5 (fun hx q hq => by
    obtain ⟨f, f1, f2⟩ := l8 _ (iN_cl rc5 hx)
    rw [hq] at f1
    cases f1
    obtain ⟨fa, ga⟩ := rl_int hH3 f2 (k := 3) (by omega)
    obtain ⟨fb, gb⟩ := rl_int hH3 f2 (k := 4) (by omega)
    obtain ⟨fc, gc⟩ := rl_int hH3 f2 (k := 6) (by omega)
    exact ⟨fa, fb, fc, ga, gb, gc⟩)) ?_
  intro N4 ρ4 ν4 v h4 u4 n4 x4 hA4 hH4 hF4 hP4 V2
  obtain ⟨nd, rd⟩ := lYd0_e_452n
  obtain ⟨r, hr⟩ : ∃ r : Int32, v = .int r := by
    first
      | (obtain ⟨r, h0, hr, -⟩ := V2; cases hr; exact ⟨r, rfl⟩)
      | (obtain ⟨r, hr, -⟩ := V2; cases hr; exact ⟨r, rfl⟩)
  subst hr
  have b7 : (h4.length : Int) - h3.length ≤ 0 := Int.le_trans (hA4.cost (by decide +kernel)).1 (by decide +kernel)
  have b8 : (u4 : Int) - u3 ≤ 0 := Int.le_trans (hA4.cost (by decide +kernel)).2 (by decide +kernel)
  have z1 := ((⟨⟨sumF_limit rc1 rc2 rc3 rc4 rc5 rc6 rc7 (by obtain ⟨⟨l0, l01, -⟩, -⟩ := rl_at hH1 hR1.1 rc3 rc2; exact gN_lt l01) hl1 hl2 hl3 V1 hE V2, qRDy.fr3 (hR1.2.2.2.2.2.2.1) hR1.2.2.2.2.1 hR1.1 hH1 hF2 (by decide +kernel) hS2 hRo2 hH2 hF3 hS3 (hRo2.pre hP3) hH3 hF4 (by decide +kernel), qRp.fr3 (hR1.2.2.2.2.2.2.2) hR1.2.2.2.2.1 hR1.1 hF2 (by decide +kernel) hS2 hRo2 hF3 hS3 (hRo2.pre hP3) hF4 (by decide +kernel)⟩, trivial⟩ : qRHe h4 ∧ True)).1
  have hR4 : lR ρ4 ν4 h4 := ⟨(hRo2.pre hP3).pre hP4, x4 _ _ (x3 _ _ (x2 _ _ hR1.2.1)), x4 _ _ (x3 _ _ (x2 _ _ hR1.2.2.1)), x4 _ _ (x3 _ _ (x2 _ _ hR1.2.2.2.1)), hS3.fr (hRo2.pre hP3) hF4 stW_X15_limit, z1⟩
  have x14 : nExt ν ν4 := x1.trans (x2.trans (x3.trans x4))
  have hA4 := hA4.reb rd
  show zE zrx zi 57 243 499 lv3 _ h4 u4 lKK
  refine seg wT_ok lC_e_ok 3000 lY3_e_452_0 (Nat.le_refl _) x14 hlen hA4 rfl rfl hH4 (by omega) (by omega) ?_
  intro x hx N5 ρ5 ν5 lv5 st5 h5 u5 x5 hA5 hH5 hF5 hP5
  rw [List.mem_singleton.mp hx] at hA5 ⊢
  clear hx x
  dsimp only at hA5 ⊢
  have b9 : (h5.length : Int) - h4.length ≤ 0 := Int.le_trans (hA5.cost (by decide +kernel)).1 (by decide +kernel)
  have c1 : (u5 : Int) - u4 ≤ 0 := Int.le_trans (hA5.cost (by decide +kernel)).2 (by decide +kernel)
  obtain ⟨j, j1, j2⟩ := l_i hA5 rfl rfl (x5 _ _ v4)
  exact l_next (g := false) ih [0, 1, 2, 3, 15, 5, 6, 7, 8, 9, 10, 11, 12, 13, 14] (by decide +kernel) (by decide +kernel) hA5 rfl hH5 rfl rfl rfl rfl j1 (x5 _ _ v7) (x5 _ _ v9) (x5 _ _ v11) (acc.dear j2 (by omega) (by omega) false (fun z => z)) (by omega) rfl rfl rfl (lR.fr ⟨hR4.1, x5 _ _ (hR.2.1), x5 _ _ (hR.2.2.1), x5 _ _ (hR.2.2.2.1), hR4.2.2.2.2⟩ hH4 hF5 hP5 (nExt.refl ν5) stW_nil rW_nil)
def lYa_e_1028 : sS := ([(3, 0, 0), (3, 8, 0), (3, 40, 0), (3, 36, 0), (0, 0, 4088), (0, 8, 4096), (3, 45, 0), (0, 0, 40), (3, 48, 0), (0, 0, 24), (3, 51, 0), (0, 0, 24), (0, 0, 4088), (0, 0, 4088), (3, 1, 0), (0, 1, 1), (0, 1, 4089), (0, -2147483648, 2147483647)], [(0, 0), (1, 1), (2, 2), (3, 3), (4, 4)], [3, 17, 1], [(4, 0, 16, 17, 0), (0, 16, 4, 0, 1), (0, 4, 16, 0, -1), (0, 4, 5, 0, -8), (3, 0, 5, 0, 0), (2, 2, 7, 6, 0), (2, 6, 2, 7, 0), (2, 2, 8, 8, 0), (2, 8, 2, 9, 0), (2, 2, 9, 10, 0), (2, 10, 2, 11, 0), (2, 1, 1, 12, 0), (2, 2, 3, 13, 0), (0, 12, 13, 0, 0), (0, 13, 12, 0, 0), (2, 2, 10, 14, 0), (0, 12, 4, 0, 0), (0, 13, 4, 0, 0)], 0, 0, [])
def lYb_e_1028 : sS := vZ (cvS zi lYa_e_1028 k_L_pass (cx1 k_L_pass))
def lYc_e_1028 : sS := ([(3, 0, 0), (3, 8, 0), (3, 40, 0), (3, 36, 0), (0, 0, 4088), (0, 8, 4096), (3, 45, 0), (0, 0, 40), (3, 48, 0), (0, 0, 24), (3, 51, 0), (0, 0, 24), (0, 0, 4088), (0, 0, 4088), (3, 1, 0), (0, 1, 1), (0, 1, 4089), (0, -2147483648, 2147483647), (0, 0, 2), (0, 1, 1)], [(5, 18), (0, 0), (1, 1), (2, 2), (3, 3), (4, 4)], [17, 2], [(4, 0, 16, 17, 0), (0, 16, 4, 0, 1), (0, 4, 16, 0, -1), (0, 4, 5, 0, -8), (3, 0, 5, 0, 0), (2, 2, 7, 6, 0), (2, 6, 2, 7, 0), (2, 2, 8, 8, 0), (2, 8, 2, 9, 0), (2, 2, 9, 10, 0), (2, 10, 2, 11, 0), (2, 1, 1, 12, 0), (2, 2, 3, 13, 0), (0, 12, 13, 0, 0), (0, 13, 12, 0, 0), (2, 2, 10, 14, 0), (0, 12, 4, 0, 0), (0, 13, 4, 0, 0)], 0, 0, [])
theorem lY1_e_1028 : chk zrx zi wT (wRo wSites_15) (wRo wTags_15) lC_e [] 0 0 15 3000 false [(1036, lYa_e_1028, [])] none 57 243 1028 (vZ lM_e) (fun _ _ => false) = true := by decide +kernel
theorem lY2_e_1028 : chk zrx zi wT (wRo wSites_15) (wRo wTags_15) lC_e [] 0 0 19 3000 false [(1048, lYc_e_1028, [])] none 57 243 1039 lYb_e_1028 (fun _ _ => false) = true := by decide +kernel
theorem lV1_e_1028 : cvOk zrx zi wT 243 1036 56 lYa_e_1028 k_L_pass = true := by decide +kernel
theorem lV2_e_1028 : cvOk zrx zi wT 243 1048 56 lYc_e_1028 k_X15_pass = true := by decide +kernel
theorem lYn_e_1028 : lYb_e_1028.1.length = 19 := by decide +kernel
theorem lYr_e_1028 : (vZ lM_e).2.2.2.1.all (fun f => !(f.1 == 7)) = true ∧ lYa_e_1028.2.2.2.1.all (fun f => !(f.1 == 7)) = true ∧ (cvS zi lYa_e_1028 k_L_pass (cx1 k_L_pass)).2.2.2.1.all (fun f => !(f.1 == 7)) = true ∧ lYc_e_1028.2.2.2.1.all (fun f => !(f.1 == 7)) = true := by decide +kernel
def lYd0_e_1028 : sS := vZ (cvS zi lYc_e_1028 k_X15_pass (cxi k_X15_pass 0))
theorem lYd0_e_1028n : lYd0_e_1028.1.length = 21 ∧ (cvS zi lYc_e_1028 k_X15_pass (cxi k_X15_pass 0)).2.2.2.1.all (fun f => !(f.1 == 7)) = true := by decide +kernel
theorem lY3_e_1028_0 : chk zrx zi wT (wRo wSites_15) (wRo wTags_15) lC_e [] 0 0 15 3000 false [(27, lT_eza, [])] none 57 243 1051 lYd0_e_1028 (fun _ _ => false) = true := by decide +kernel
set_option maxRecDepth 20000 in
theorem lA_e_1028 {n : Nat} (ih : lIH n) {hb ub : Nat} {N : Int} {ρ : List Nat} {ν : List Value} {lv : List (Nat × Value)} {st : List Value} {h : List zC} {u : Nat} {i R C A : Int32} {F : Int} (hA : gA hb ub ρ ν lM_e lv st h u) (hH : tHeap wT N ρ h) (v4 : ν[4]? = some (.int i)) (v7 : ν[7]? = some (.int R)) (v9 : ν[9]? = some (.int C)) (v11 : ν[11]? = some (.int A))
    (i4 : i.toInt ≤ 4096) (acc : lAcc false hb ub i.toInt R.toInt C.toInt A.toInt F) (rm1 : (ub : Int) + 17920 ≤ zSN) (rm2 : (hb : Int) + 1152 ≤ zCM) (hn : 4104 - i.toInt ≤ (n + 1 : Nat)) (hR : lR ρ ν h) : zE zrx zi 57 243 1028 lv st h u lKK := by
  obtain ⟨dl1, dl2, dl3, dl4⟩ := lD_lo R.toInt C.toInt A.toInt
  obtain ⟨r0, ra, rb, rc⟩ := lYr_e_1028
  have q0 : (h.length : Int) - hb ≤ 0 := hA.2.2.2.2.1
  have q1 : (u : Int) - ub ≤ 0 := hA.2.2.2.2.2
  have hlen : ν.length ≤ 15 := by
    rw [← hA.1.1]
    exact Nat.le_of_eq rfl
  refine seg wT_ok lC_e_ok 3000 lY1_e_1028 (Nat.le_refl _) (nExt.refl ν) hlen (hA.reb r0) rfl rfl hH (by omega) (by omega) ?_
  intro x hx N1 ρ1 ν1 lv1 st1 h1 u1 x1 hA1 hH1 hF1 hP1
  rw [List.mem_singleton.mp hx] at hA1 ⊢
  clear hx x
  dsimp only at hA1 ⊢
  have hR1 := hR.fr hH hF1 hP1 x1 stW_nil rW_nil
  have b1 : (h1.length : Int) - h.length ≤ 0 := Int.le_trans (hA1.cost (by decide +kernel)).1 (by decide +kernel)
  have b2 : (u1 : Int) - u ≤ 0 := Int.le_trans (hA1.cost (by decide +kernel)).2 (by decide +kernel)
  have hT : gSt ν1 [3, 17, 1] st1 := hA1.2.2.1
  obtain ⟨w0, sa0, ea0, o0, ha0⟩ := hT.inv
  subst ea0
  rw [hR1.2.2.2.1] at o0
  cases o0
  obtain ⟨w1, sa1, ea1, o1, ha1⟩ := ha0.inv
  subst ea1
  obtain ⟨p17, rfl, -⟩ := hA1.int o1 rfl
  obtain ⟨w2, sa2, ea2, o2, ha2⟩ := ha1.inv
  subst ea2
  rw [hR1.2.1] at o2
  cases o2
  cases ha2.nil
  obtain ⟨⟨cnt, el, rc1, rc2, rc3, rc4, rc5, rc6, rc7⟩, ⟨dd, d1, d2⟩, hp⟩ := hR1.2.2.2.2.2
  refine call_val con_L_pass vr_243_1036 lV1_e_1028 rfl rfl (hA1.reb ra) hH1 (by have : k_L_pass.2.2.2.2.1 = 1 := rfl; omega) (by have : k_L_pass.2.2.2.2.2.1 = 6 := rfl; omega) rfl (fun n => C_Lpass n p17 h1 u1 d1) ?_
  intro N2 ρ2 ν2 v h2 u2 n2 x2 hA2 hH2 hF2 hP2 V1
  obtain ⟨k, hk, V1⟩ := V1
  cases hk
  have V1 : Q_Lpass dd p17 h1 (.inl (some (.int k))) h2 u2 := ⟨k, rfl, V1⟩
  have b3 : (h2.length : Int) - h1.length ≤ 1 := Int.le_trans (hA2.cost (by decide +kernel)).1 (by decide +kernel)
  have b4 : (u2 : Int) - u1 ≤ 6 := Int.le_trans (hA2.cost (by decide +kernel)).2 (by decide +kernel)
  have hTk : ν2[18]? = some (.int k) := gSt_hd hA2.2.2.1 (by decide +kernel)
  have hlen2 : ν2.length ≤ 19 := by
    rw [← hA2.1.1]
    exact Nat.le_of_eq lYn_e_1028
  have hS2 : Stc h2 := hR1.2.2.2.2.1.fr hR1.1 hF2 stW_L_pass
  have hRo2 : Ro ρ2 := hR1.1.pre hP2
  show zE zrx zi 57 243 1039 lv1 _ h2 u2 lKK
  refine seg wT_ok lC_e_ok 3000 lY2_e_1028 (Nat.le_refl _) (nExt.refl ν2) hlen2 (hA2.reb rb) rfl rfl hH2 (by omega) (by omega) ?_
  intro x hx N3 ρ3 ν3 lv3 st3 h3 u3 x3 hA3 hH3 hF3 hP3
  rw [List.mem_singleton.mp hx] at hA3 ⊢
  clear hx x
  dsimp only at hA3 ⊢
  have hS3 : Stc h3 := hS2.fr hRo2 hF3 stW_nil
  have b5 : (h3.length : Int) - h2.length ≤ 0 := Int.le_trans (hA3.cost (by decide +kernel)).1 (by decide +kernel)
  have b6 : (u3 : Int) - u2 ≤ 0 := Int.le_trans (hA3.cost (by decide +kernel)).2 (by decide +kernel)
  have hE : ∀ p, p < h2.length → ∀ k, gF h3 p k = gF h2 p k := fun p hp k => gFr_F0 hF3 hH2.1 hp k
  have hT : gSt ν3 [17, 2] st3 := hA3.2.2.1
  obtain ⟨w0, sb0, eb0, c0, hb0⟩ := hT.inv
  subst eb0
  rw [x3 _ _ (x2 _ _ o1)] at c0
  cases c0
  obtain ⟨w1, sb1, eb1, c1, hb1⟩ := hb0.inv
  subst eb1
  rw [x3 _ _ (x2 _ _ hR1.2.2.1)] at c1
  cases c1
  cases hb1.nil
  have hl1 := hR1.2.2.2.2.1.1
  have hl2 := gFr_len hF2
  have hl3 := gFr_len hF3
  have ro3 : Ro ρ3 := hRo2.pre hP3
  have d3 := (hE 213 (by omega) 1).trans ((gFr_F hF2 (hR1.1 213 40 (by decide +kernel)) (by decide +kernel) (by omega)).trans d2)
  refine call_val con_X15_pass vr_243_1048 lV2_e_1028 rfl rfl (hA3.reb rc) hH3 (by have : k_X15_pass.2.2.2.2.1 = 0 := rfl; omega) (by have : k_X15_pass.2.2.2.2.2.1 = 0 := rfl; omega) rfl (fun n => C_mpass n p17 h3 u3 d3) ?_
  intro N4 ρ4 ν4 v h4 u4 n4 x4 hA4 hH4 hF4 hP4 V2
  obtain ⟨nd, rd⟩ := lYd0_e_1028n
  obtain ⟨r, hr⟩ : ∃ r : Int32, v = .int r := by
    first
      | (obtain ⟨r, h0, hr, -⟩ := V2; cases hr; exact ⟨r, rfl⟩)
      | (obtain ⟨r, hr, -⟩ := V2; cases hr; exact ⟨r, rfl⟩)
  subst hr
  have b7 : (h4.length : Int) - h3.length ≤ 0 := Int.le_trans (hA4.cost (by decide +kernel)).1 (by decide +kernel)
  have b8 : (u4 : Int) - u3 ≤ 0 := Int.le_trans (hA4.cost (by decide +kernel)).2 (by decide +kernel)
  have z1 := ((⟨⟨qRFu.fr3 (hR1.2.2.2.2.2.1) hR1.2.2.2.2.1 hR1.1 hH1 hF2 (by decide +kernel) hS2 hRo2 hH2 hF3 hS3 (hRo2.pre hP3) hH3 hF4 (by decide +kernel), sum_pass d1 d2 hl1 hl2 V1 hE V2, qRp.fr3 (hR1.2.2.2.2.2.2.2) hR1.2.2.2.2.1 hR1.1 hF2 (by decide +kernel) hS2 hRo2 hF3 hS3 (hRo2.pre hP3) hF4 (by decide +kernel)⟩, trivial⟩ : qRHe h4 ∧ True)).1
  have hR4 : lR ρ4 ν4 h4 := ⟨(hRo2.pre hP3).pre hP4, x4 _ _ (x3 _ _ (x2 _ _ hR1.2.1)), x4 _ _ (x3 _ _ (x2 _ _ hR1.2.2.1)), x4 _ _ (x3 _ _ (x2 _ _ hR1.2.2.2.1)), hS3.fr (hRo2.pre hP3) hF4 stW_X15_pass, z1⟩
  have x14 : nExt ν ν4 := x1.trans (x2.trans (x3.trans x4))
  have hA4 := hA4.reb rd
  show zE zrx zi 57 243 1051 lv3 _ h4 u4 lKK
  refine seg wT_ok lC_e_ok 3000 lY3_e_1028_0 (Nat.le_refl _) x14 hlen hA4 rfl rfl hH4 (by omega) (by omega) ?_
  intro x hx N5 ρ5 ν5 lv5 st5 h5 u5 x5 hA5 hH5 hF5 hP5
  rw [List.mem_singleton.mp hx] at hA5 ⊢
  clear hx x
  dsimp only at hA5 ⊢
  have b9 : (h5.length : Int) - h4.length ≤ 0 := Int.le_trans (hA5.cost (by decide +kernel)).1 (by decide +kernel)
  have c1 : (u5 : Int) - u4 ≤ 0 := Int.le_trans (hA5.cost (by decide +kernel)).2 (by decide +kernel)
  obtain ⟨j, j1, j2⟩ := l_i hA5 rfl rfl (x5 _ _ v4)
  exact l_next (g := false) ih [0, 1, 2, 3, 15, 5, 6, 7, 8, 9, 10, 11, 12, 13, 14] (by decide +kernel) (by decide +kernel) hA5 rfl hH5 rfl rfl rfl rfl j1 (x5 _ _ v7) (x5 _ _ v9) (x5 _ _ v11) (acc.dear j2 (by omega) (by omega) false (fun z => z)) (by omega) rfl rfl rfl (lR.fr ⟨hR4.1, x5 _ _ (hR.2.1), x5 _ _ (hR.2.2.1), x5 _ _ (hR.2.2.2.1), hR4.2.2.2.2⟩ hH4 hF5 hP5 (nExt.refl ν5) stW_nil rW_nil)
def lYa_e_1469 : sS := ([(3, 0, 0), (3, 8, 0), (3, 40, 0), (3, 36, 0), (0, 0, 4088), (0, 8, 4096), (3, 45, 0), (0, 0, 40), (3, 48, 0), (0, 0, 24), (3, 51, 0), (0, 0, 24), (0, 0, 4088), (0, 0, 4088), (3, 1, 0), (0, 1, 1), (0, 1, 4089), (0, -2147483648, 2147483647), (0, 2, 2), (0, 2, 4090), (0, -2147483648, 2147483647), (0, 3, 3), (0, 3, 4091), (0, -2147483648, 2147483647), (0, 4, 4), (0, 4, 4092), (0, -2147483648, 2147483647), (0, 5, 5), (0, 5, 4093), (0, -2147483648, 2147483647)], [(0, 0), (1, 1), (2, 2), (3, 3), (4, 4)], [3, 29, 26, 23, 20, 17, 1], [(4, 0, 28, 29, 0), (0, 28, 4, 0, 5), (0, 4, 28, 0, -5), (4, 0, 25, 26, 0), (0, 25, 4, 0, 4), (0, 4, 25, 0, -4), (4, 0, 22, 23, 0), (0, 22, 4, 0, 3), (0, 4, 22, 0, -3), (4, 0, 19, 20, 0), (0, 19, 4, 0, 2), (0, 4, 19, 0, -2), (4, 0, 16, 17, 0), (0, 16, 4, 0, 1), (0, 4, 16, 0, -1), (0, 4, 5, 0, -8), (3, 0, 5, 0, 0), (2, 2, 7, 6, 0), (2, 6, 2, 7, 0), (2, 2, 8, 8, 0), (2, 8, 2, 9, 0), (2, 2, 9, 10, 0), (2, 10, 2, 11, 0), (2, 1, 1, 12, 0), (2, 2, 3, 13, 0), (0, 12, 13, 0, 0), (0, 13, 12, 0, 0), (2, 2, 10, 14, 0), (0, 12, 4, 0, 0), (0, 13, 4, 0, 0)], 0, 0, [])
def lYb_e_1469 : sS := vZ (cvS zi lYa_e_1469 k_L_held (cx1 k_L_held))
def lYc_e_1469 : sS := ([(3, 0, 0), (3, 8, 0), (3, 40, 0), (3, 36, 0), (0, 0, 4088), (0, 8, 4096), (3, 45, 0), (0, 0, 40), (3, 48, 0), (0, 0, 24), (3, 51, 0), (0, 0, 24), (0, 0, 4088), (0, 0, 4088), (3, 1, 0), (0, 1, 1), (0, 1, 4089), (0, -2147483648, 2147483647), (0, 2, 2), (0, 2, 4090), (0, -2147483648, 2147483647), (0, 3, 3), (0, 3, 4091), (0, -2147483648, 2147483647), (0, 4, 4), (0, 4, 4092), (0, -2147483648, 2147483647), (0, 5, 5), (0, 5, 4093), (0, -2147483648, 2147483647), (0, 0, 2), (0, 1, 1), (0, 2, 2), (0, 3, 3), (0, 4, 4), (0, 5, 5)], [(5, 30), (0, 0), (1, 1), (2, 2), (3, 3), (4, 4)], [29, 26, 23, 20, 17, 2], [(4, 0, 28, 29, 0), (0, 28, 4, 0, 5), (0, 4, 28, 0, -5), (4, 0, 25, 26, 0), (0, 25, 4, 0, 4), (0, 4, 25, 0, -4), (4, 0, 22, 23, 0), (0, 22, 4, 0, 3), (0, 4, 22, 0, -3), (4, 0, 19, 20, 0), (0, 19, 4, 0, 2), (0, 4, 19, 0, -2), (4, 0, 16, 17, 0), (0, 16, 4, 0, 1), (0, 4, 16, 0, -1), (0, 4, 5, 0, -8), (3, 0, 5, 0, 0), (2, 2, 7, 6, 0), (2, 6, 2, 7, 0), (2, 2, 8, 8, 0), (2, 8, 2, 9, 0), (2, 2, 9, 10, 0), (2, 10, 2, 11, 0), (2, 1, 1, 12, 0), (2, 2, 3, 13, 0), (0, 12, 13, 0, 0), (0, 13, 12, 0, 0), (2, 2, 10, 14, 0), (0, 12, 4, 0, 0), (0, 13, 4, 0, 0)], 0, 0, [])
theorem lY1_e_1469 : chk zrx zi wT (wRo wSites_15) (wRo wTags_15) lC_e [] 0 0 15 3000 false [(1501, lYa_e_1469, [])] none 57 243 1469 (vZ lM_e) (fun _ _ => false) = true := by decide +kernel
theorem lY2_e_1469 : chk zrx zi wT (wRo wSites_15) (wRo wTags_15) lC_e [] 0 0 31 3000 false [(1537, lYc_e_1469, [])] none 57 243 1504 lYb_e_1469 (fun _ _ => false) = true := by decide +kernel
theorem lV1_e_1469 : cvOk zrx zi wT 243 1501 56 lYa_e_1469 k_L_held = true := by decide +kernel
theorem lV2_e_1469 : cvOk zrx zi wT 243 1537 56 lYc_e_1469 k_X15_held = true := by decide +kernel
theorem lYk_e_1469 : sGet lYb_e_1469.1 30 = (0, 0, 2) := by decide +kernel
theorem lYn_e_1469 : lYb_e_1469.1.length = 31 := by decide +kernel
theorem lYr_e_1469 : (vZ lM_e).2.2.2.1.all (fun f => !(f.1 == 7)) = true ∧ lYa_e_1469.2.2.2.1.all (fun f => !(f.1 == 7)) = true ∧ (cvS zi lYa_e_1469 k_L_held (cx1 k_L_held)).2.2.2.1.all (fun f => !(f.1 == 7)) = true ∧ lYc_e_1469.2.2.2.1.all (fun f => !(f.1 == 7)) = true := by decide +kernel
def lYd0_e_1469 : sS := vZ (cvS zi lYc_e_1469 k_X15_held (cxi k_X15_held 0))
theorem lYd0_e_1469n : lYd0_e_1469.1.length = 37 ∧ (cvS zi lYc_e_1469 k_X15_held (cxi k_X15_held 0)).2.2.2.1.all (fun f => !(f.1 == 7)) = true := by decide +kernel
def lYf0_e_1469 : sS := sNw (sFs (sNr lYd0_e_1469 30 0 0) [(2, 2, 0, 30, 0)]) (1, 0, 0) [(2, 3, 0, 37, 0), (17, 37, 36, 0, 0)]
def lYg0_e_1469 : sS := sFs (sNr lYd0_e_1469 30 1 2) [(2, 2, 0, 30, 0)]
theorem lY3_e_1469_0 : chk zrx zi wT (wRo wSites_15) (wRo wTags_15) lC_e [] 0 0 15 3000 false [(27, lT_eza, [])] none 57 243 1540 lYf0_e_1469 (fun _ _ => false) = true := by decide +kernel
theorem lY4_e_1469_0 : chk zrx zi wT (wRo wSites_15) (wRo wTags_15) lC_e [] 0 0 15 3000 false [(27, lT_eza, [])] none 57 243 1540 lYg0_e_1469 (fun _ _ => false) = true := by decide +kernel
set_option maxRecDepth 20000 in
theorem lA_e_1469 {n : Nat} (ih : lIH n) {hb ub : Nat} {N : Int} {ρ : List Nat} {ν : List Value} {lv : List (Nat × Value)} {st : List Value} {h : List zC} {u : Nat} {i R C A : Int32} {F : Int} (hA : gA hb ub ρ ν lM_e lv st h u) (hH : tHeap wT N ρ h) (v4 : ν[4]? = some (.int i)) (v7 : ν[7]? = some (.int R)) (v9 : ν[9]? = some (.int C)) (v11 : ν[11]? = some (.int A))
    (i4 : i.toInt ≤ 4096) (acc : lAcc false hb ub i.toInt R.toInt C.toInt A.toInt F) (rm1 : (ub : Int) + 17920 ≤ zSN) (rm2 : (hb : Int) + 1152 ≤ zCM) (hn : 4104 - i.toInt ≤ (n + 1 : Nat)) (hR : lR ρ ν h) : zE zrx zi 57 243 1469 lv st h u lKK := by
  obtain ⟨dl1, dl2, dl3, dl4⟩ := lD_lo R.toInt C.toInt A.toInt
  obtain ⟨r0, ra, rb, rc⟩ := lYr_e_1469
  have q0 : (h.length : Int) - hb ≤ 0 := hA.2.2.2.2.1
  have q1 : (u : Int) - ub ≤ 0 := hA.2.2.2.2.2
  have hlen : ν.length ≤ 15 := by
    rw [← hA.1.1]
    exact Nat.le_of_eq rfl
  refine seg wT_ok lC_e_ok 3000 lY1_e_1469 (Nat.le_refl _) (nExt.refl ν) hlen (hA.reb r0) rfl rfl hH (by omega) (by omega) ?_
  intro x hx N1 ρ1 ν1 lv1 st1 h1 u1 x1 hA1 hH1 hF1 hP1
  rw [List.mem_singleton.mp hx] at hA1 ⊢
  clear hx x
  dsimp only at hA1 ⊢
  have hR1 := hR.fr hH hF1 hP1 x1 stW_nil rW_nil
  have b1 : (h1.length : Int) - h.length ≤ 0 := Int.le_trans (hA1.cost (by decide +kernel)).1 (by decide +kernel)
  have b2 : (u1 : Int) - u ≤ 0 := Int.le_trans (hA1.cost (by decide +kernel)).2 (by decide +kernel)
  have hT : gSt ν1 [3, 29, 26, 23, 20, 17, 1] st1 := hA1.2.2.1
  obtain ⟨w0, sa0, ea0, o0, ha0⟩ := hT.inv
  subst ea0
  rw [hR1.2.2.2.1] at o0
  cases o0
  obtain ⟨w1, sa1, ea1, o1, ha1⟩ := ha0.inv
  subst ea1
  obtain ⟨p29, rfl, -⟩ := hA1.int o1 rfl
  obtain ⟨w2, sa2, ea2, o2, ha2⟩ := ha1.inv
  subst ea2
  obtain ⟨p26, rfl, -⟩ := hA1.int o2 rfl
  obtain ⟨w3, sa3, ea3, o3, ha3⟩ := ha2.inv
  subst ea3
  obtain ⟨p23, rfl, -⟩ := hA1.int o3 rfl
  obtain ⟨w4, sa4, ea4, o4, ha4⟩ := ha3.inv
  subst ea4
  obtain ⟨p20, rfl, -⟩ := hA1.int o4 rfl
  obtain ⟨w5, sa5, ea5, o5, ha5⟩ := ha4.inv
  subst ea5
  obtain ⟨p17, rfl, -⟩ := hA1.int o5 rfl
  obtain ⟨w6, sa6, ea6, o6, ha6⟩ := ha5.inv
  subst ea6
  rw [hR1.2.1] at o6
  cases o6
  cases ha6.nil
  obtain ⟨⟨cnt, el, rc1, rc2, rc3, rc4, rc5, rc6, rc7⟩, ⟨dd, d1, d2⟩, hp⟩ := hR1.2.2.2.2.2
  refine call_val con_L_held vr_243_1501 lV1_e_1469 rfl rfl (hA1.reb ra) hH1 (by have : k_L_held.2.2.2.2.1 = 1 := rfl; omega) (by have : k_L_held.2.2.2.2.2.1 = 6 := rfl; omega) rfl (fun n => C_Lheld n p17 p20 p23 p26 p29 h1 u1 hR1.2.2.2.2.1 rc1 rc5 rc6 d1) ?_
  intro N2 ρ2 ν2 v h2 u2 n2 x2 hA2 hH2 hF2 hP2 V1
  obtain ⟨k, hk, V1⟩ := V1
  cases hk
  have V1 : Q_Lheld cnt dd p17 p20 p23 p26 p29 h1 (.inl (some (.int k))) h2 u2 := ⟨k, rfl, V1⟩
  have b3 : (h2.length : Int) - h1.length ≤ 1 := Int.le_trans (hA2.cost (by decide +kernel)).1 (by decide +kernel)
  have b4 : (u2 : Int) - u1 ≤ 6 := Int.le_trans (hA2.cost (by decide +kernel)).2 (by decide +kernel)
  have hTk : ν2[30]? = some (.int k) := gSt_hd hA2.2.2.1 (by decide +kernel)
  have hB2 : gA h2.length u2 ρ2 ν2 lYb_e_1469 lv1 _ h2 u2 := hA2.reb rb
  obtain ⟨k', ek, kk1, kk2⟩ := hB2.int hTk (by rw [lYk_e_1469])
  cases ek
  rw [lYk_e_1469] at kk1 kk2
  have hlen2 : ν2.length ≤ 31 := by
    rw [← hA2.1.1]
    exact Nat.le_of_eq lYn_e_1469
  have hS2 : Stc h2 := hR1.2.2.2.2.1.fr hR1.1 hF2 stW_L_held
  have hRo2 : Ro ρ2 := hR1.1.pre hP2
  show zE zrx zi 57 243 1504 lv1 _ h2 u2 lKK
  refine seg wT_ok lC_e_ok 3000 lY2_e_1469 (Nat.le_refl _) (nExt.refl ν2) hlen2 (hA2.reb rb) rfl rfl hH2 (by omega) (by omega) ?_
  intro x hx N3 ρ3 ν3 lv3 st3 h3 u3 x3 hA3 hH3 hF3 hP3
  rw [List.mem_singleton.mp hx] at hA3 ⊢
  clear hx x
  dsimp only at hA3 ⊢
  have hS3 : Stc h3 := hS2.fr hRo2 hF3 stW_nil
  have b5 : (h3.length : Int) - h2.length ≤ 0 := Int.le_trans (hA3.cost (by decide +kernel)).1 (by decide +kernel)
  have b6 : (u3 : Int) - u2 ≤ 0 := Int.le_trans (hA3.cost (by decide +kernel)).2 (by decide +kernel)
  have hE : ∀ p, p < h2.length → ∀ k, gF h3 p k = gF h2 p k := fun p hp k => gFr_F0 hF3 hH2.1 hp k
  have hT : gSt ν3 [29, 26, 23, 20, 17, 2] st3 := hA3.2.2.1
  obtain ⟨w0, sb0, eb0, c0, hb0⟩ := hT.inv
  subst eb0
  rw [x3 _ _ (x2 _ _ o1)] at c0
  cases c0
  obtain ⟨w1, sb1, eb1, c1, hb1⟩ := hb0.inv
  subst eb1
  rw [x3 _ _ (x2 _ _ o2)] at c1
  cases c1
  obtain ⟨w2, sb2, eb2, c2, hb2⟩ := hb1.inv
  subst eb2
  rw [x3 _ _ (x2 _ _ o3)] at c2
  cases c2
  obtain ⟨w3, sb3, eb3, c3, hb3⟩ := hb2.inv
  subst eb3
  rw [x3 _ _ (x2 _ _ o4)] at c3
  cases c3
  obtain ⟨w4, sb4, eb4, c4, hb4⟩ := hb3.inv
  subst eb4
  rw [x3 _ _ (x2 _ _ o5)] at c4
  cases c4
  obtain ⟨w5, sb5, eb5, c5, hb5⟩ := hb4.inv
  subst eb5
  rw [x3 _ _ (x2 _ _ hR1.2.2.1)] at c5
  cases c5
  cases hb5.nil
  have hl1 := hR1.2.2.2.2.1.1
  have hl2 := gFr_len hF2
  have hl3 := gFr_len hF3
  have ro3 : Ro ρ3 := hRo2.pre hP3
  have m2 := (hE 223 (by omega) 2).trans ((gFr_F hF2 (hR1.1 223 45 (by decide +kernel)) (by decide +kernel) (by omega)).trans rc2)
  have m1 := (hE 223 (by omega) 1).trans ((gFr_F hF2 (hR1.1 223 45 (by decide +kernel)) (by decide +kernel) (by omega)).trans rc3)
  obtain ⟨⟨l, l1, l2⟩, l3, l4, l5, l6, l7, l8⟩ := rl_at hH3 ro3 m1 m2
  have l213 : ¬ el = 213 := by omega
  have d3 := (hE 213 (by omega) 1).trans ((gFr_F hF2 (hR1.1 213 40 (by decide +kernel)) (by decide +kernel) (by omega)).trans d2)
  refine call_val con_X15_held vr_243_1537 lV2_e_1469 rfl rfl (hA3.reb rc) hH3 (by have : k_X15_held.2.2.2.2.1 = 7 := rfl; omega) (by have : k_X15_held.2.2.2.2.2.1 = 158 := rfl; omega) rfl (fun n => C_mheld n p17 p20 p23 p26 p29 h3 u3 hS3 m2 m1 rc5 rc6 d3 (gN_lt l1) (fun k hk => by
    obtain ⟨v, v1, v2, -, v4⟩ := rc7.1 k hk
    have hrow := (gFr_F0 hF3 hH2.1 (Nat.lt_of_lt_of_le (gF_lt v1) hl2) _).trans (Eq.trans (by rcases (rl_at hH1 hR1.1 rc3 rc2).2.2.2.2.2.1 with z | z; exact gFr_F hF2 z (wNo (by decide +kernel)) (gF_lt v1); exact gFr_F hF2 z (wNo (by decide +kernel)) (gF_lt v1)) v1)
    obtain ⟨w, w1, w2⟩ := (rl_at hH1 hR1.1 rc3 rc2).2.2.2.2.2.2 _ hk
    rw [v1] at w1
    cases w1
    obtain ⟨a, b, c, ⟨-, a2⟩, ⟨-, b2⟩, ⟨-, c2⟩, -, ra, rb, -⟩ := v4.1
    have fq : ∀ k, gF h3 v k = gF h1 v k := fun k => (gFr_F0 hF3 hH2.1 (Nat.lt_of_lt_of_le v4.lt.2 hl2) k).trans (gFr_F hF2 w2 (wNo (by decide +kernel)) v4.lt.2)
    obtain ⟨f, f1, f2⟩ := l8 k hk
    rw [hrow] at f1
    cases f1
    exact ⟨v, v2, hrow, rul_ints hH3 f2, a, b, c, (fq 3).trans a2, (fq 4).trans b2, (fq 6).trans c2, ra, rb⟩) l213) ?_
  intro N4 ρ4 ν4 v h4 u4 n4 x4 hA4 hH4 hF4 hP4 V2
  obtain ⟨nd, rd⟩ := lYd0_e_1469n
  obtain ⟨r, hr⟩ : ∃ r : Int32, v = .int r := by
    first
      | (obtain ⟨r, h0, hr, -⟩ := V2; cases hr; exact ⟨r, rfl⟩)
      | (obtain ⟨r, hr, -⟩ := V2; cases hr; exact ⟨r, rfl⟩)
  subst hr
  have b7 : (h4.length : Int) - h3.length ≤ 7 := Int.le_trans (hA4.cost (by decide +kernel)).1 (by decide +kernel)
  have b8 : (u4 : Int) - u3 ≤ 158 := Int.le_trans (hA4.cost (by decide +kernel)).2 (by decide +kernel)
  obtain ⟨z1, z2, z3, z4⟩ := (by
    obtain ⟨y2, y3, y4⟩ := sum_held rc4 rc6 rc7 (by obtain ⟨⟨l0, l01, -⟩, -⟩ := rl_at hH1 hR1.1 rc3 rc2; exact gN_lt l01) hp hl1 hl2 hl3 V1 hE V2
    exact ⟨⟨qRFu.fr3 (hR1.2.2.2.2.2.1) hR1.2.2.2.2.1 hR1.1 hH1 hF2 (by decide +kernel) hS2 hRo2 hH2 hF3 hS3 (hRo2.pre hP3) hH3 hF4 (by decide +kernel), qRDy.fr3 (hR1.2.2.2.2.2.2.1) hR1.2.2.2.2.1 hR1.1 hH1 hF2 (by decide +kernel) hS2 hRo2 hH2 hF3 hS3 (hRo2.pre hP3) hH3 hF4 (by decide +kernel), qRp.fr3 (hR1.2.2.2.2.2.2.2) hR1.2.2.2.2.1 hR1.1 hF2 (by decide +kernel) hS2 hRo2 hF3 hS3 (hRo2.pre hP3) hF4 (by decide +kernel)⟩, y2, y3, y4⟩ : qRHe h4 ∧ gF h4 213 0 = some (.int k) ∧ (k = 0 → gF h4 238 0 = some (.long r.toInt64)) ∧ (k = 0 ∨ k = 1 ∨ k = 2))
  have hR4 : lR ρ4 ν4 h4 := ⟨(hRo2.pre hP3).pre hP4, x4 _ _ (x3 _ _ (x2 _ _ hR1.2.1)), x4 _ _ (x3 _ _ (x2 _ _ hR1.2.2.1)), x4 _ _ (x3 _ _ (x2 _ _ hR1.2.2.2.1)), hS3.fr (hRo2.pre hP3) hF4 stW_X15_held, z1⟩
  have x14 : nExt ν ν4 := x1.trans (x2.trans (x3.trans x4))
  have vk : ν4[30]? = some (.int k) := x4 _ _ (x3 _ _ hTk)
  have vr : ν4[36]? = some (.int r) := gSt_hd hA4.2.2.1 (by decide +kernel)
  have hA4 := hA4.reb rd
  show zE zrx zi 57 243 1540 lv3 _ h4 u4 lKK
  by_cases hk : k = 0
  · subst hk
    have hA6 := (((hA4.nr (lo := 0) (hi := 0) vk (by decide) (by decide)).fs (G := [(2, 2, 0, 30, 0)]) (fun f hf => by
      rw [List.mem_singleton.mp hf]
      exact fH2 hR4.2.2.1 z2 vk)).nw (t := (1, 0, 0)) (v := .long r.toInt64) (G := [(2, 3, 0, 37, 0), (17, 37, 36, 0, 0)]) ⟨_, rfl⟩ (fun f hf => by
      have hl : ν4.length = 37 := by
        rw [← hA4.1.1]
        exact nd
      have vl : (ν4 ++ [Value.long r.toInt64])[37]? = some (.long r.toInt64) := by
        rw [← hl]
        exact nNew _ _
      rcases List.mem_cons.mp hf with rfl | hf
      · exact fH2 (nExt_app _ _ _ _ hR4.2.2.2.1) (z3 rfl) vl
      · rw [List.mem_singleton.mp hf]
        exact ⟨r, nExt_app _ _ _ _ vr, vl⟩))
    refine seg wT_ok lC_e_ok 3000 lY3_e_1469_0 (Nat.le_refl _) (x14.trans (nExt_app _ _)) hlen hA6 rfl rfl hH4 (by omega) (by omega) ?_
    intro x hx N5 ρ5 ν5 lv5 st5 h5 u5 x5 hA5 hH5 hF5 hP5
    rw [List.mem_singleton.mp hx] at hA5 ⊢
    clear hx x
    dsimp only at hA5 ⊢
    have b9 : (h5.length : Int) - h4.length ≤ 0 := Int.le_trans (hA5.cost (by decide +kernel)).1 (by decide +kernel)
    have c1 : (u5 : Int) - u4 ≤ 0 := Int.le_trans (hA5.cost (by decide +kernel)).2 (by decide +kernel)
    obtain ⟨j, j1, j2⟩ := l_i hA5 rfl rfl (x5 _ _ v4)
    exact l_next (g := false) ih [0, 1, 2, 3, 15, 5, 6, 7, 8, 9, 10, 11, 12, 13, 14] (by decide +kernel) (by decide +kernel) hA5 rfl hH5 rfl rfl rfl rfl j1 (x5 _ _ v7) (x5 _ _ v9) (x5 _ _ v11) (acc.dear j2 (by omega) (by omega) false (fun z => z)) (by omega) rfl rfl rfl (lR.fr ⟨hR4.1, x5 _ _ (hR.2.1), x5 _ _ (hR.2.2.1), x5 _ _ (hR.2.2.2.1), hR4.2.2.2.2⟩ hH4 hF5 hP5 (nExt.refl ν5) stW_nil rW_nil)
  · have hk2 : 1 ≤ k.toInt ∧ k.toInt ≤ 2 := by
      have kk1 : 0 ≤ k.toInt := kk1
      have kk2 : k.toInt ≤ 2 := kk2
      have : ¬ k.toInt = 0 := fun z => hk (Int32.toInt_inj.mp z)
      omega
    have hA6 := (hA4.nr (lo := 1) (hi := 2) vk hk2.1 hk2.2).fs (G := [(2, 2, 0, 30, 0)]) (fun f hf => by
      rw [List.mem_singleton.mp hf]
      exact fH2 hR4.2.2.1 z2 vk)
    refine seg wT_ok lC_e_ok 3000 lY4_e_1469_0 (Nat.le_refl _) x14 hlen hA6 rfl rfl hH4 (by omega) (by omega) ?_
    intro x hx N5 ρ5 ν5 lv5 st5 h5 u5 x5 hA5 hH5 hF5 hP5
    rw [List.mem_singleton.mp hx] at hA5 ⊢
    clear hx x
    dsimp only at hA5 ⊢
    have b9 : (h5.length : Int) - h4.length ≤ 0 := Int.le_trans (hA5.cost (by decide +kernel)).1 (by decide +kernel)
    have c1 : (u5 : Int) - u4 ≤ 0 := Int.le_trans (hA5.cost (by decide +kernel)).2 (by decide +kernel)
    obtain ⟨j, j1, j2⟩ := l_i hA5 rfl rfl (x5 _ _ v4)
    exact l_next (g := false) ih [0, 1, 2, 3, 15, 5, 6, 7, 8, 9, 10, 11, 12, 13, 14] (by decide +kernel) (by decide +kernel) hA5 rfl hH5 rfl rfl rfl rfl j1 (x5 _ _ v7) (x5 _ _ v9) (x5 _ _ v11) (acc.dear j2 (by omega) (by omega) false (fun z => z)) (by omega) rfl rfl rfl (lR.fr ⟨hR4.1, x5 _ _ (hR.2.1), x5 _ _ (hR.2.2.1), x5 _ _ (hR.2.2.2.1), hR4.2.2.2.2⟩ hH4 hF5 hP5 (nExt.refl ν5) stW_nil rW_nil)
def lT_fza : sS := ([(3, 0, 0), (3, 8, 0), (3, 40, 0), (3, 36, 0), (0, 0, 4096), (0, 0, 4096), (3, 45, 0), (0, 0, 40), (3, 48, 0), (0, 0, 24), (3, 51, 0), (0, 0, 24), (0, 0, 4096), (0, 0, 4096), (3, 56, 0), (0, 0, 4096)], [(0, 0), (1, 1), (2, 2), (3, 3), (4, 15)], [], [(3, 0, 5, 0, 0), (2, 2, 7, 6, 0), (2, 6, 2, 7, 0), (2, 2, 8, 8, 0), (2, 8, 2, 9, 0), (2, 2, 9, 10, 0), (2, 10, 2, 11, 0), (2, 1, 1, 12, 0), (2, 2, 3, 13, 0), (0, 12, 13, 0, 0), (0, 13, 12, 0, 0), (2, 2, 10, 14, 0), (0, 15, 5, 0, 0), (0, 15, 4, 0, 8), (0, 4, 15, 0, -8), (0, 12, 15, 0, 0), (0, 13, 15, 0, 0)], 0, 0, [])
def lT_fzr : sS := ([(3, 0, 0), (3, 8, 0), (3, 40, 0), (3, 36, 0), (0, 0, 4096), (0, 0, 4096), (3, 45, 0), (0, 0, 40), (3, 48, 0), (0, 0, 24), (3, 51, 0), (0, 0, 24), (0, 0, 4096), (0, 0, 4096), (3, 56, 0), (0, 0, 4096), (0, 0, 40)], [(0, 0), (1, 1), (2, 2), (3, 3), (4, 15)], [], [(3, 0, 5, 0, 0), (2, 2, 7, 6, 0), (2, 6, 2, 16, 0), (2, 2, 8, 8, 0), (2, 8, 2, 9, 0), (2, 2, 9, 10, 0), (2, 10, 2, 11, 0), (2, 1, 1, 12, 0), (2, 2, 3, 13, 0), (0, 12, 13, 0, 0), (0, 13, 12, 0, 0), (2, 2, 10, 14, 0), (0, 15, 5, 0, 0), (0, 15, 4, 0, 8), (0, 4, 15, 0, -8), (0, 12, 15, 0, 0), (0, 16, 7, 0, 1), (0, 7, 16, 0, -1), (0, 13, 15, 0, 0)], 0, 0, [])
def lYa_f_216 : sS := ([(3, 0, 0), (3, 8, 0), (3, 40, 0), (3, 36, 0), (0, 0, 4088), (0, 8, 4096), (3, 45, 0), (0, 0, 40), (3, 48, 0), (0, 0, 24), (3, 51, 0), (0, 0, 24), (0, 0, 4088), (0, 0, 4088), (3, 56, 0), (0, 1, 1), (0, 1, 4089), (0, -2147483648, 2147483647), (0, 2, 2), (0, 2, 4090), (0, -2147483648, 2147483647)], [(0, 0), (1, 1), (2, 2), (3, 3), (4, 4)], [3, 20, 17, 1], [(4, 0, 19, 20, 0), (0, 19, 4, 0, 2), (0, 4, 19, 0, -2), (4, 0, 16, 17, 0), (0, 16, 4, 0, 1), (0, 4, 16, 0, -1), (0, 4, 5, 0, -8), (3, 0, 5, 0, 0), (2, 2, 7, 6, 0), (2, 6, 2, 7, 0), (2, 2, 8, 8, 0), (2, 8, 2, 9, 0), (2, 2, 9, 10, 0), (2, 10, 2, 11, 0), (2, 1, 1, 12, 0), (2, 2, 3, 13, 0), (0, 12, 13, 0, 0), (0, 13, 12, 0, 0), (2, 2, 10, 14, 0), (0, 12, 4, 0, 0), (0, 13, 4, 0, 0)], 0, 0, [])
def lYb_f_216 : sS := vZ (cvS zi lYa_f_216 k_L_people (cx1 k_L_people))
def lYc_f_216 : sS := ([(3, 0, 0), (3, 8, 0), (3, 40, 0), (3, 36, 0), (0, 0, 4088), (0, 8, 4096), (3, 45, 0), (0, 0, 40), (3, 48, 0), (0, 0, 24), (3, 51, 0), (0, 0, 24), (0, 0, 4088), (0, 0, 4088), (3, 56, 0), (0, 1, 1), (0, 1, 4089), (0, -2147483648, 2147483647), (0, 2, 2), (0, 2, 4090), (0, -2147483648, 2147483647), (0, 0, 2), (0, 1, 1), (0, 2, 2)], [(5, 21), (0, 0), (1, 1), (2, 2), (3, 3), (4, 4)], [20, 17, 2], [(4, 0, 19, 20, 0), (0, 19, 4, 0, 2), (0, 4, 19, 0, -2), (4, 0, 16, 17, 0), (0, 16, 4, 0, 1), (0, 4, 16, 0, -1), (0, 4, 5, 0, -8), (3, 0, 5, 0, 0), (2, 2, 7, 6, 0), (2, 6, 2, 7, 0), (2, 2, 8, 8, 0), (2, 8, 2, 9, 0), (2, 2, 9, 10, 0), (2, 10, 2, 11, 0), (2, 1, 1, 12, 0), (2, 2, 3, 13, 0), (0, 12, 13, 0, 0), (0, 13, 12, 0, 0), (2, 2, 10, 14, 0), (0, 12, 4, 0, 0), (0, 13, 4, 0, 0)], 0, 0, [])
theorem lY1_f_216 : chk zrx zi wT (wRo wSites_15) (wRo wTags_15) lC_f [] 0 0 15 3000 false [(230, lYa_f_216, [])] none 57 243 216 (vZ lM_f) (fun _ _ => false) = true := by decide +kernel
theorem lY2_f_216 : chk zrx zi wT (wRo wSites_15) (wRo wTags_15) lC_f [] 0 0 22 3000 false [(248, lYc_f_216, [])] none 57 243 233 lYb_f_216 (fun _ _ => false) = true := by decide +kernel
theorem lV1_f_216 : cvOk zrx zi wT 243 230 56 lYa_f_216 k_L_people = true := by decide +kernel
theorem lV2_f_216 : cvOk zrx zi wT 243 248 56 lYc_f_216 k_X15_people = true := by decide +kernel
theorem lYn_f_216 : lYb_f_216.1.length = 22 := by decide +kernel
theorem lYr_f_216 : (vZ lM_f).2.2.2.1.all (fun f => !(f.1 == 7)) = true ∧ lYa_f_216.2.2.2.1.all (fun f => !(f.1 == 7)) = true ∧ (cvS zi lYa_f_216 k_L_people (cx1 k_L_people)).2.2.2.1.all (fun f => !(f.1 == 7)) = true ∧ lYc_f_216.2.2.2.1.all (fun f => !(f.1 == 7)) = true := by decide +kernel
def lYd0_f_216 : sS := vZ (cvS zi lYc_f_216 k_X15_people (cxi k_X15_people 0))
theorem lYd0_f_216n : lYd0_f_216.1.length = 25 ∧ (cvS zi lYc_f_216 k_X15_people (cxi k_X15_people 0)).2.2.2.1.all (fun f => !(f.1 == 7)) = true := by decide +kernel
theorem lY3_f_216_0 : chk zrx zi wT (wRo wSites_15) (wRo wTags_15) lC_f [] 0 0 15 3000 false [(27, lT_fza, [])] none 57 243 251 lYd0_f_216 (fun _ _ => false) = true := by decide +kernel
set_option maxRecDepth 20000 in
theorem lA_f_216 {n : Nat} (ih : lIH n) {hb ub : Nat} {N : Int} {ρ : List Nat} {ν : List Value} {lv : List (Nat × Value)} {st : List Value} {h : List zC} {u : Nat} {i R C A : Int32} {F : Int} (hA : gA hb ub ρ ν lM_f lv st h u) (hH : tHeap wT N ρ h) (v4 : ν[4]? = some (.int i)) (v7 : ν[7]? = some (.int R)) (v9 : ν[9]? = some (.int C)) (v11 : ν[11]? = some (.int A))
    (i4 : i.toInt ≤ 4096) (acc : lAcc true hb ub i.toInt R.toInt C.toInt A.toInt F) (rm1 : (ub : Int) + 17920 ≤ zSN) (rm2 : (hb : Int) + 1152 ≤ zCM) (hn : 4104 - i.toInt ≤ (n + 1 : Nat)) (hR : lR ρ ν h) : zE zrx zi 57 243 216 lv st h u lKK := by
  obtain ⟨dl1, dl2, dl3, dl4⟩ := lD_lo R.toInt C.toInt A.toInt
  obtain ⟨r0, ra, rb, rc⟩ := lYr_f_216
  have q0 : (h.length : Int) - hb ≤ 0 := hA.2.2.2.2.1
  have q1 : (u : Int) - ub ≤ 0 := hA.2.2.2.2.2
  have hlen : ν.length ≤ 15 := by
    rw [← hA.1.1]
    exact Nat.le_of_eq rfl
  refine seg wT_ok lC_f_ok 3000 lY1_f_216 (Nat.le_refl _) (nExt.refl ν) hlen (hA.reb r0) rfl rfl hH (by omega) (by omega) ?_
  intro x hx N1 ρ1 ν1 lv1 st1 h1 u1 x1 hA1 hH1 hF1 hP1
  rw [List.mem_singleton.mp hx] at hA1 ⊢
  clear hx x
  dsimp only at hA1 ⊢
  have hR1 := hR.fr hH hF1 hP1 x1 stW_nil rW_nil
  have b1 : (h1.length : Int) - h.length ≤ 0 := Int.le_trans (hA1.cost (by decide +kernel)).1 (by decide +kernel)
  have b2 : (u1 : Int) - u ≤ 0 := Int.le_trans (hA1.cost (by decide +kernel)).2 (by decide +kernel)
  have hT : gSt ν1 [3, 20, 17, 1] st1 := hA1.2.2.1
  obtain ⟨w0, sa0, ea0, o0, ha0⟩ := hT.inv
  subst ea0
  rw [hR1.2.2.2.1] at o0
  cases o0
  obtain ⟨w1, sa1, ea1, o1, ha1⟩ := ha0.inv
  subst ea1
  obtain ⟨p20, rfl, -⟩ := hA1.int o1 rfl
  obtain ⟨w2, sa2, ea2, o2, ha2⟩ := ha1.inv
  subst ea2
  obtain ⟨p17, rfl, -⟩ := hA1.int o2 rfl
  obtain ⟨w3, sa3, ea3, o3, ha3⟩ := ha2.inv
  subst ea3
  rw [hR1.2.1] at o3
  cases o3
  cases ha3.nil
  obtain ⟨⟨cnt, el, rc1, rc2, rc3, rc4, rc5, rc6, rc7⟩, ⟨dd, d1, d2⟩, hp⟩ := hR1.2.2.2.2.2
  refine call_val con_L_people vr_243_230 lV1_f_216 rfl rfl (hA1.reb ra) hH1 (by have : k_L_people.2.2.2.2.1 = 1 := rfl; omega) (by have : k_L_people.2.2.2.2.2.1 = 6 := rfl; omega) rfl (fun n => C_Lpeople n p17 p20 h1 u1 hR1.2.2.2.2.1) ?_
  intro N2 ρ2 ν2 v h2 u2 n2 x2 hA2 hH2 hF2 hP2 V1
  obtain ⟨k, hk, V1⟩ := V1
  cases hk
  have V1 : Q_Lpeople p17 p20 h1 (.inl (some (.int k))) h2 u2 := ⟨k, rfl, V1⟩
  have b3 : (h2.length : Int) - h1.length ≤ 1 := Int.le_trans (hA2.cost (by decide +kernel)).1 (by decide +kernel)
  have b4 : (u2 : Int) - u1 ≤ 6 := Int.le_trans (hA2.cost (by decide +kernel)).2 (by decide +kernel)
  have hTk : ν2[21]? = some (.int k) := gSt_hd hA2.2.2.1 (by decide +kernel)
  have hlen2 : ν2.length ≤ 22 := by
    rw [← hA2.1.1]
    exact Nat.le_of_eq lYn_f_216
  have hS2 : Stc h2 := hR1.2.2.2.2.1.fr hR1.1 hF2 stW_L_people
  have hRo2 : Ro ρ2 := hR1.1.pre hP2
  show zE zrx zi 57 243 233 lv1 _ h2 u2 lKK
  refine seg wT_ok lC_f_ok 3000 lY2_f_216 (Nat.le_refl _) (nExt.refl ν2) hlen2 (hA2.reb rb) rfl rfl hH2 (by omega) (by omega) ?_
  intro x hx N3 ρ3 ν3 lv3 st3 h3 u3 x3 hA3 hH3 hF3 hP3
  rw [List.mem_singleton.mp hx] at hA3 ⊢
  clear hx x
  dsimp only at hA3 ⊢
  have hS3 : Stc h3 := hS2.fr hRo2 hF3 stW_nil
  have b5 : (h3.length : Int) - h2.length ≤ 0 := Int.le_trans (hA3.cost (by decide +kernel)).1 (by decide +kernel)
  have b6 : (u3 : Int) - u2 ≤ 0 := Int.le_trans (hA3.cost (by decide +kernel)).2 (by decide +kernel)
  have hE : ∀ p, p < h2.length → ∀ k, gF h3 p k = gF h2 p k := fun p hp k => gFr_F0 hF3 hH2.1 hp k
  have hT : gSt ν3 [20, 17, 2] st3 := hA3.2.2.1
  obtain ⟨w0, sb0, eb0, c0, hb0⟩ := hT.inv
  subst eb0
  rw [x3 _ _ (x2 _ _ o1)] at c0
  cases c0
  obtain ⟨w1, sb1, eb1, c1, hb1⟩ := hb0.inv
  subst eb1
  rw [x3 _ _ (x2 _ _ o2)] at c1
  cases c1
  obtain ⟨w2, sb2, eb2, c2, hb2⟩ := hb1.inv
  subst eb2
  rw [x3 _ _ (x2 _ _ hR1.2.2.1)] at c2
  cases c2
  cases hb2.nil
  have hl1 := hR1.2.2.2.2.1.1
  have hl2 := gFr_len hF2
  have hl3 := gFr_len hF3
  have ro3 : Ro ρ3 := hRo2.pre hP3
  refine call_val con_X15_people vr_243_248 lV2_f_216 rfl rfl (hA3.reb rc) hH3 (by have : k_X15_people.2.2.2.2.1 = 0 := rfl; omega) (by have : k_X15_people.2.2.2.2.2.1 = 0 := rfl; omega) rfl (fun n => C_mpeople n p17 p20 h3 u3 hS3) ?_
  intro N4 ρ4 ν4 v h4 u4 n4 x4 hA4 hH4 hF4 hP4 V2
  obtain ⟨nd, rd⟩ := lYd0_f_216n
  obtain ⟨r, hr⟩ : ∃ r : Int32, v = .int r := by
    first
      | (obtain ⟨r, h0, hr, -⟩ := V2; cases hr; exact ⟨r, rfl⟩)
      | (obtain ⟨r, hr, -⟩ := V2; cases hr; exact ⟨r, rfl⟩)
  subst hr
  have b7 : (h4.length : Int) - h3.length ≤ 0 := Int.le_trans (hA4.cost (by decide +kernel)).1 (by decide +kernel)
  have b8 : (u4 : Int) - u3 ≤ 0 := Int.le_trans (hA4.cost (by decide +kernel)).2 (by decide +kernel)
  have z1 := ((⟨⟨qRFu.fr3 (hR1.2.2.2.2.2.1) hR1.2.2.2.2.1 hR1.1 hH1 hF2 (by decide +kernel) hS2 hRo2 hH2 hF3 hS3 (hRo2.pre hP3) hH3 hF4 (by decide +kernel), qRDy.fr3 (hR1.2.2.2.2.2.2.1) hR1.2.2.2.2.1 hR1.1 hH1 hF2 (by decide +kernel) hS2 hRo2 hH2 hF3 hS3 (hRo2.pre hP3) hH3 hF4 (by decide +kernel), sum_people hp hl1 hl2 V1 hE V2⟩, trivial⟩ : qRHe h4 ∧ True)).1
  have hR4 : lR ρ4 ν4 h4 := ⟨(hRo2.pre hP3).pre hP4, x4 _ _ (x3 _ _ (x2 _ _ hR1.2.1)), x4 _ _ (x3 _ _ (x2 _ _ hR1.2.2.1)), x4 _ _ (x3 _ _ (x2 _ _ hR1.2.2.2.1)), hS3.fr (hRo2.pre hP3) hF4 stW_X15_people, z1⟩
  have x14 : nExt ν ν4 := x1.trans (x2.trans (x3.trans x4))
  have hA4 := hA4.reb rd
  show zE zrx zi 57 243 251 lv3 _ h4 u4 lKK
  refine seg wT_ok lC_f_ok 3000 lY3_f_216_0 (Nat.le_refl _) x14 hlen hA4 rfl rfl hH4 (by omega) (by omega) ?_
  intro x hx N5 ρ5 ν5 lv5 st5 h5 u5 x5 hA5 hH5 hF5 hP5
  rw [List.mem_singleton.mp hx] at hA5 ⊢
  clear hx x
  dsimp only at hA5 ⊢
  have b9 : (h5.length : Int) - h4.length ≤ 0 := Int.le_trans (hA5.cost (by decide +kernel)).1 (by decide +kernel)
  have c1 : (u5 : Int) - u4 ≤ 0 := Int.le_trans (hA5.cost (by decide +kernel)).2 (by decide +kernel)
  obtain ⟨j, j1, j2⟩ := l_i hA5 rfl rfl (x5 _ _ v4)
  exact l_next (g := true) ih [0, 1, 2, 3, 15, 5, 6, 7, 8, 9, 10, 11, 12, 13, 14] (by decide +kernel) (by decide +kernel) hA5 rfl hH5 rfl rfl rfl rfl j1 (x5 _ _ v7) (x5 _ _ v9) (x5 _ _ v11) (acc.dear j2 (by omega) (by omega) true (fun z => z)) (by omega) rfl rfl rfl (lR.fr ⟨hR4.1, x5 _ _ (hR.2.1), x5 _ _ (hR.2.2.1), x5 _ _ (hR.2.2.2.1), hR4.2.2.2.2⟩ hH4 hF5 hP5 (nExt.refl ν5) stW_nil rW_nil)
def lYa_f_348 : sS := ([(3, 0, 0), (3, 8, 0), (3, 40, 0), (3, 36, 0), (0, 0, 4088), (0, 8, 4096), (3, 45, 0), (0, 0, 40), (3, 48, 0), (0, 0, 24), (3, 51, 0), (0, 0, 24), (0, 0, 4088), (0, 0, 4088), (3, 56, 0), (0, 1, 1), (0, 1, 4089), (0, -2147483648, 2147483647), (0, 2, 2), (0, 2, 4090), (0, -2147483648, 2147483647), (0, 3, 3), (0, 3, 4091), (0, -2147483648, 2147483647), (0, 4, 4), (0, 4, 4092), (0, -2147483648, 2147483647), (0, 5, 5), (0, 5, 4093), (0, -2147483648, 2147483647), (0, 6, 6), (0, 6, 4094), (0, -2147483648, 2147483647), (0, 7, 7), (0, 7, 4095), (0, -2147483648, 2147483647)], [(0, 0), (1, 1), (2, 2), (3, 3), (4, 4)], [3, 35, 32, 29, 26, 23, 20, 17, 1], [(4, 0, 34, 35, 0), (0, 34, 4, 0, 7), (0, 4, 34, 0, -7), (4, 0, 31, 32, 0), (0, 31, 4, 0, 6), (0, 4, 31, 0, -6), (4, 0, 28, 29, 0), (0, 28, 4, 0, 5), (0, 4, 28, 0, -5), (4, 0, 25, 26, 0), (0, 25, 4, 0, 4), (0, 4, 25, 0, -4), (4, 0, 22, 23, 0), (0, 22, 4, 0, 3), (0, 4, 22, 0, -3), (4, 0, 19, 20, 0), (0, 19, 4, 0, 2), (0, 4, 19, 0, -2), (4, 0, 16, 17, 0), (0, 16, 4, 0, 1), (0, 4, 16, 0, -1), (0, 4, 5, 0, -8), (3, 0, 5, 0, 0), (2, 2, 7, 6, 0), (2, 6, 2, 7, 0), (2, 2, 8, 8, 0), (2, 8, 2, 9, 0), (2, 2, 9, 10, 0), (2, 10, 2, 11, 0), (2, 1, 1, 12, 0), (2, 2, 3, 13, 0), (0, 12, 13, 0, 0), (0, 13, 12, 0, 0), (2, 2, 10, 14, 0), (0, 12, 4, 0, 0), (0, 13, 4, 0, 0)], 0, 0, [])
def lYb_f_348 : sS := vZ (cvS zi lYa_f_348 k_L_rule (cx1 k_L_rule))
def lYc_f_348 : sS := ([(3, 0, 0), (3, 8, 0), (3, 40, 0), (3, 36, 0), (0, 0, 4088), (0, 8, 4096), (3, 45, 0), (0, 0, 40), (3, 48, 0), (0, 0, 24), (3, 51, 0), (0, 0, 24), (0, 0, 4088), (0, 0, 4088), (3, 56, 0), (0, 1, 1), (0, 1, 4089), (0, -2147483648, 2147483647), (0, 2, 2), (0, 2, 4090), (0, -2147483648, 2147483647), (0, 3, 3), (0, 3, 4091), (0, -2147483648, 2147483647), (0, 4, 4), (0, 4, 4092), (0, -2147483648, 2147483647), (0, 5, 5), (0, 5, 4093), (0, -2147483648, 2147483647), (0, 6, 6), (0, 6, 4094), (0, -2147483648, 2147483647), (0, 7, 7), (0, 7, 4095), (0, -2147483648, 2147483647), (0, 0, 3), (0, 1, 1), (0, 2, 2), (0, 3, 3), (0, 4, 4), (0, 5, 5), (0, 6, 6), (0, 7, 7)], [(5, 36), (0, 0), (1, 1), (2, 2), (3, 3), (4, 4)], [35, 32, 29, 26, 23, 20, 17, 2], [(4, 0, 34, 35, 0), (0, 34, 4, 0, 7), (0, 4, 34, 0, -7), (4, 0, 31, 32, 0), (0, 31, 4, 0, 6), (0, 4, 31, 0, -6), (4, 0, 28, 29, 0), (0, 28, 4, 0, 5), (0, 4, 28, 0, -5), (4, 0, 25, 26, 0), (0, 25, 4, 0, 4), (0, 4, 25, 0, -4), (4, 0, 22, 23, 0), (0, 22, 4, 0, 3), (0, 4, 22, 0, -3), (4, 0, 19, 20, 0), (0, 19, 4, 0, 2), (0, 4, 19, 0, -2), (4, 0, 16, 17, 0), (0, 16, 4, 0, 1), (0, 4, 16, 0, -1), (0, 4, 5, 0, -8), (3, 0, 5, 0, 0), (2, 2, 7, 6, 0), (2, 6, 2, 7, 0), (2, 2, 8, 8, 0), (2, 8, 2, 9, 0), (2, 2, 9, 10, 0), (2, 10, 2, 11, 0), (2, 1, 1, 12, 0), (2, 2, 3, 13, 0), (0, 12, 13, 0, 0), (0, 13, 12, 0, 0), (2, 2, 10, 14, 0), (0, 12, 4, 0, 0), (0, 13, 4, 0, 0)], 0, 0, [])
theorem lY1_f_348 : chk zrx zi wT (wRo wSites_15) (wRo wTags_15) lC_f [] 0 0 15 3000 false [(394, lYa_f_348, [])] none 57 243 348 (vZ lM_f) (fun _ _ => false) = true := by decide +kernel
theorem lY2_f_348 : chk zrx zi wT (wRo wSites_15) (wRo wTags_15) lC_f [] 0 0 37 3000 false [(444, lYc_f_348, [])] none 57 243 397 lYb_f_348 (fun _ _ => false) = true := by decide +kernel
theorem lV1_f_348 : cvOk zrx zi wT 243 394 56 lYa_f_348 k_L_rule = true := by decide +kernel
theorem lV2_f_348 : cvOk zrx zi wT 243 444 56 lYc_f_348 k_X15_rule_L = true := by decide +kernel
theorem lYn_f_348 : lYb_f_348.1.length = 37 := by decide +kernel
theorem lYr_f_348 : (vZ lM_f).2.2.2.1.all (fun f => !(f.1 == 7)) = true ∧ lYa_f_348.2.2.2.1.all (fun f => !(f.1 == 7)) = true ∧ (cvS zi lYa_f_348 k_L_rule (cx1 k_L_rule)).2.2.2.1.all (fun f => !(f.1 == 7)) = true ∧ lYc_f_348.2.2.2.1.all (fun f => !(f.1 == 7)) = true := by decide +kernel
def lYd0_f_348 : sS := vZ (cvS zi lYc_f_348 k_X15_rule_L (cxi k_X15_rule_L 0))
theorem lYd0_f_348n : lYd0_f_348.1.length = 47 ∧ (cvS zi lYc_f_348 k_X15_rule_L (cxi k_X15_rule_L 0)).2.2.2.1.all (fun f => !(f.1 == 7)) = true := by decide +kernel
theorem lY3_f_348_0 : chk zrx zi wT (wRo wSites_15) (wRo wTags_15) lC_f [] 0 0 15 3000 false [(27, lT_fzr, [])] none 57 243 447 lYd0_f_348 (fun _ _ => false) = true := by decide +kernel
def lYd1_f_348 : sS := vZ (cvS zi lYc_f_348 k_X15_rule_L (cxi k_X15_rule_L 1))
theorem lYd1_f_348n : lYd1_f_348.1.length = 46 ∧ (cvS zi lYc_f_348 k_X15_rule_L (cxi k_X15_rule_L 1)).2.2.2.1.all (fun f => !(f.1 == 7)) = true := by decide +kernel
theorem lY3_f_348_1 : chk zrx zi wT (wRo wSites_15) (wRo wTags_15) lC_f [] 0 0 15 3000 false [(27, lT_fza, [])] none 57 243 447 lYd1_f_348 (fun _ _ => false) = true := by decide +kernel
set_option maxRecDepth 20000 in
theorem lA_f_348 {n : Nat} (ih : lIH n) {hb ub : Nat} {N : Int} {ρ : List Nat} {ν : List Value} {lv : List (Nat × Value)} {st : List Value} {h : List zC} {u : Nat} {i R C A : Int32} {F : Int} (hA : gA hb ub ρ ν lM_f lv st h u) (hH : tHeap wT N ρ h) (v4 : ν[4]? = some (.int i)) (v7 : ν[7]? = some (.int R)) (v9 : ν[9]? = some (.int C)) (v11 : ν[11]? = some (.int A))
    (i4 : i.toInt ≤ 4096) (acc : lAcc true hb ub i.toInt R.toInt C.toInt A.toInt F) (rm1 : (ub : Int) + 17920 ≤ zSN) (rm2 : (hb : Int) + 1152 ≤ zCM) (hn : 4104 - i.toInt ≤ (n + 1 : Nat)) (hR : lR ρ ν h) : zE zrx zi 57 243 348 lv st h u lKK := by
  obtain ⟨dl1, dl2, dl3, dl4⟩ := lD_lo R.toInt C.toInt A.toInt
  obtain ⟨r0, ra, rb, rc⟩ := lYr_f_348
  have q0 : (h.length : Int) - hb ≤ 0 := hA.2.2.2.2.1
  have q1 : (u : Int) - ub ≤ 0 := hA.2.2.2.2.2
  have hlen : ν.length ≤ 15 := by
    rw [← hA.1.1]
    exact Nat.le_of_eq rfl
  refine seg wT_ok lC_f_ok 3000 lY1_f_348 (Nat.le_refl _) (nExt.refl ν) hlen (hA.reb r0) rfl rfl hH (by omega) (by omega) ?_
  intro x hx N1 ρ1 ν1 lv1 st1 h1 u1 x1 hA1 hH1 hF1 hP1
  rw [List.mem_singleton.mp hx] at hA1 ⊢
  clear hx x
  dsimp only at hA1 ⊢
  have hR1 := hR.fr hH hF1 hP1 x1 stW_nil rW_nil
  have b1 : (h1.length : Int) - h.length ≤ 0 := Int.le_trans (hA1.cost (by decide +kernel)).1 (by decide +kernel)
  have b2 : (u1 : Int) - u ≤ 0 := Int.le_trans (hA1.cost (by decide +kernel)).2 (by decide +kernel)
  have hT : gSt ν1 [3, 35, 32, 29, 26, 23, 20, 17, 1] st1 := hA1.2.2.1
  obtain ⟨w0, sa0, ea0, o0, ha0⟩ := hT.inv
  subst ea0
  rw [hR1.2.2.2.1] at o0
  cases o0
  obtain ⟨w1, sa1, ea1, o1, ha1⟩ := ha0.inv
  subst ea1
  obtain ⟨p35, rfl, -⟩ := hA1.int o1 rfl
  obtain ⟨w2, sa2, ea2, o2, ha2⟩ := ha1.inv
  subst ea2
  obtain ⟨p32, rfl, -⟩ := hA1.int o2 rfl
  obtain ⟨w3, sa3, ea3, o3, ha3⟩ := ha2.inv
  subst ea3
  obtain ⟨p29, rfl, -⟩ := hA1.int o3 rfl
  obtain ⟨w4, sa4, ea4, o4, ha4⟩ := ha3.inv
  subst ea4
  obtain ⟨p26, rfl, -⟩ := hA1.int o4 rfl
  obtain ⟨w5, sa5, ea5, o5, ha5⟩ := ha4.inv
  subst ea5
  obtain ⟨p23, rfl, -⟩ := hA1.int o5 rfl
  obtain ⟨w6, sa6, ea6, o6, ha6⟩ := ha5.inv
  subst ea6
  obtain ⟨p20, rfl, -⟩ := hA1.int o6 rfl
  obtain ⟨w7, sa7, ea7, o7, ha7⟩ := ha6.inv
  subst ea7
  obtain ⟨p17, rfl, -⟩ := hA1.int o7 rfl
  obtain ⟨w8, sa8, ea8, o8, ha8⟩ := ha7.inv
  subst ea8
  rw [hR1.2.1] at o8
  cases o8
  cases ha8.nil
  obtain ⟨⟨cnt, el, rc1, rc2, rc3, rc4, rc5, rc6, rc7⟩, ⟨dd, d1, d2⟩, hp⟩ := hR1.2.2.2.2.2
  refine call_val con_L_rule vr_243_394 lV1_f_348 rfl rfl (hA1.reb ra) hH1 (by have : k_L_rule.2.2.2.2.1 = 1 := rfl; omega) (by have : k_L_rule.2.2.2.2.2.1 = 6 := rfl; omega) rfl (fun n => C_Lrule n p17 p20 p23 p26 p29 p32 p35 h1 u1 hR1.2.2.2.2.1 rc1) ?_
  intro N2 ρ2 ν2 v h2 u2 n2 x2 hA2 hH2 hF2 hP2 V1
  obtain ⟨k, hk, V1⟩ := V1
  cases hk
  have V1 : Q_Lrule cnt p17 p20 p23 p26 p29 p32 p35 h1 (.inl (some (.int k))) h2 u2 := ⟨k, rfl, V1⟩
  have b3 : (h2.length : Int) - h1.length ≤ 1 := Int.le_trans (hA2.cost (by decide +kernel)).1 (by decide +kernel)
  have b4 : (u2 : Int) - u1 ≤ 6 := Int.le_trans (hA2.cost (by decide +kernel)).2 (by decide +kernel)
  have hTk : ν2[36]? = some (.int k) := gSt_hd hA2.2.2.1 (by decide +kernel)
  have hlen2 : ν2.length ≤ 37 := by
    rw [← hA2.1.1]
    exact Nat.le_of_eq lYn_f_348
  have hS2 : Stc h2 := hR1.2.2.2.2.1.fr hR1.1 hF2 stW_L_rule
  have hRo2 : Ro ρ2 := hR1.1.pre hP2
  show zE zrx zi 57 243 397 lv1 _ h2 u2 lKK
  refine seg wT_ok lC_f_ok 3000 lY2_f_348 (Nat.le_refl _) (nExt.refl ν2) hlen2 (hA2.reb rb) rfl rfl hH2 (by omega) (by omega) ?_
  intro x hx N3 ρ3 ν3 lv3 st3 h3 u3 x3 hA3 hH3 hF3 hP3
  rw [List.mem_singleton.mp hx] at hA3 ⊢
  clear hx x
  dsimp only at hA3 ⊢
  have hS3 : Stc h3 := hS2.fr hRo2 hF3 stW_nil
  have b5 : (h3.length : Int) - h2.length ≤ 0 := Int.le_trans (hA3.cost (by decide +kernel)).1 (by decide +kernel)
  have b6 : (u3 : Int) - u2 ≤ 0 := Int.le_trans (hA3.cost (by decide +kernel)).2 (by decide +kernel)
  have hE : ∀ p, p < h2.length → ∀ k, gF h3 p k = gF h2 p k := fun p hp k => gFr_F0 hF3 hH2.1 hp k
  have hT : gSt ν3 [35, 32, 29, 26, 23, 20, 17, 2] st3 := hA3.2.2.1
  obtain ⟨w0, sb0, eb0, c0, hb0⟩ := hT.inv
  subst eb0
  rw [x3 _ _ (x2 _ _ o1)] at c0
  cases c0
  obtain ⟨w1, sb1, eb1, c1, hb1⟩ := hb0.inv
  subst eb1
  rw [x3 _ _ (x2 _ _ o2)] at c1
  cases c1
  obtain ⟨w2, sb2, eb2, c2, hb2⟩ := hb1.inv
  subst eb2
  rw [x3 _ _ (x2 _ _ o3)] at c2
  cases c2
  obtain ⟨w3, sb3, eb3, c3, hb3⟩ := hb2.inv
  subst eb3
  rw [x3 _ _ (x2 _ _ o4)] at c3
  cases c3
  obtain ⟨w4, sb4, eb4, c4, hb4⟩ := hb3.inv
  subst eb4
  rw [x3 _ _ (x2 _ _ o5)] at c4
  cases c4
  obtain ⟨w5, sb5, eb5, c5, hb5⟩ := hb4.inv
  subst eb5
  rw [x3 _ _ (x2 _ _ o6)] at c5
  cases c5
  obtain ⟨w6, sb6, eb6, c6, hb6⟩ := hb5.inv
  subst eb6
  rw [x3 _ _ (x2 _ _ o7)] at c6
  cases c6
  obtain ⟨w7, sb7, eb7, c7, hb7⟩ := hb6.inv
  subst eb7
  rw [x3 _ _ (x2 _ _ hR1.2.2.1)] at c7
  cases c7
  cases hb7.nil
  have hl1 := hR1.2.2.2.2.1.1
  have hl2 := gFr_len hF2
  have hl3 := gFr_len hF3
  have ro3 : Ro ρ3 := hRo2.pre hP3
  have m2 := (hE 223 (by omega) 2).trans ((gFr_F hF2 (hR1.1 223 45 (by decide +kernel)) (by decide +kernel) (by omega)).trans rc2)
  have m1 := (hE 223 (by omega) 1).trans ((gFr_F hF2 (hR1.1 223 45 (by decide +kernel)) (by decide +kernel) (by omega)).trans rc3)
  obtain ⟨⟨l, l1, l2⟩, l3, l4, l5, l6, l7, l8⟩ := rl_at hH3 ro3 m1 m2
  have l213 : ¬ el = 213 := by omega
  have d3 := (hE 213 (by omega) 1).trans ((gFr_F hF2 (hR1.1 213 40 (by decide +kernel)) (by decide +kernel) (by omega)).trans d2)
  refine call_valn con_X15_rule_L vr_243_444 lV2_f_348 (by decide +kernel) (hA3.reb rc) hH3 (by have : k_X15_rule_L.2.2.2.2.1 = 2 := rfl; omega) (by have : k_X15_rule_L.2.2.2.2.2.1 = 68 := rfl; omega) rfl (fun n => C_mrule n p17 p20 p23 p26 p29 p32 p35 h3 u3 hS3 m2 m1 l1 l2 l3 rc6 l213 d3) ?_
  refine ends2 rfl ?_ ?_
  · intro N4 ρ4 ν4 v h4 u4 n4 x4 hA4 hH4 hF4 hP4 V2
    obtain ⟨nd, rd⟩ := lYd0_f_348n
    obtain ⟨r, hr⟩ : ∃ r : Int32, v = .int r := by
      first
        | (obtain ⟨r, h0, hr, -⟩ := V2; cases hr; exact ⟨r, rfl⟩)
        | (obtain ⟨r, hr, -⟩ := V2; cases hr; exact ⟨r, rfl⟩)
    subst hr
    have b7 : (h4.length : Int) - h3.length ≤ 2 := Int.le_trans (hA4.cost (by decide +kernel)).1 (by decide +kernel)
    have b8 : (u4 : Int) - u3 ≤ 68 := Int.le_trans (hA4.cost (by decide +kernel)).2 (by decide +kernel)
    have z1 := ((⟨⟨sumF_rule rc1 rc2 rc3 rc4 rc5 rc6 rc7 (by obtain ⟨⟨l0, l01, -⟩, -⟩ := rl_at hH1 hR1.1 rc3 rc2; exact gN_lt l01) d1 hl1 hl2 hl3 V1 hE V2, qRDy.fr3 (hR1.2.2.2.2.2.2.1) hR1.2.2.2.2.1 hR1.1 hH1 hF2 (by decide +kernel) hS2 hRo2 hH2 hF3 hS3 (hRo2.pre hP3) hH3 hF4 (by decide +kernel), qRp.fr3 (hR1.2.2.2.2.2.2.2) hR1.2.2.2.2.1 hR1.1 hF2 (by decide +kernel) hS2 hRo2 hF3 hS3 (hRo2.pre hP3) hF4 (by decide +kernel)⟩, trivial⟩ : qRHe h4 ∧ True)).1
    have hR4 : lR ρ4 ν4 h4 := ⟨(hRo2.pre hP3).pre hP4, x4 _ _ (x3 _ _ (x2 _ _ hR1.2.1)), x4 _ _ (x3 _ _ (x2 _ _ hR1.2.2.1)), x4 _ _ (x3 _ _ (x2 _ _ hR1.2.2.2.1)), hS3.fr (hRo2.pre hP3) hF4 stW_X15_rule_L, z1⟩
    have x14 : nExt ν ν4 := x1.trans (x2.trans (x3.trans x4))
    have hA4 := hA4.reb rd
    show zE zrx zi 57 243 447 lv3 _ h4 u4 lKK
    refine seg wT_ok lC_f_ok 3000 lY3_f_348_0 (Nat.le_refl _) x14 hlen hA4 rfl rfl hH4 (by omega) (by omega) ?_
    intro x hx N5 ρ5 ν5 lv5 st5 h5 u5 x5 hA5 hH5 hF5 hP5
    rw [List.mem_singleton.mp hx] at hA5 ⊢
    clear hx x
    dsimp only at hA5 ⊢
    have b9 : (h5.length : Int) - h4.length ≤ 0 := Int.le_trans (hA5.cost (by decide +kernel)).1 (by decide +kernel)
    have c1 : (u5 : Int) - u4 ≤ 0 := Int.le_trans (hA5.cost (by decide +kernel)).2 (by decide +kernel)
    obtain ⟨j, j1, j2⟩ := l_i hA5 rfl rfl (x5 _ _ v4)
    obtain ⟨y, y1, y2⟩ := l_one hA5 rfl rfl (x5 _ _ v7)
    exact l_next (g := true) ih [0, 1, 2, 3, 15, 5, 6, 16, 8, 9, 10, 11, 12, 13, 14] (by decide +kernel) (by decide +kernel) hA5 rfl hH5 rfl rfl rfl rfl j1 y1 (x5 _ _ v9) (x5 _ _ v11) (acc.grow (g := true) j2 (by omega) (by omega) (by omega) (by omega) (by omega) (by omega) (by omega)) (by omega) rfl rfl rfl (lR.fr ⟨hR4.1, x5 _ _ (hR.2.1), x5 _ _ (hR.2.2.1), x5 _ _ (hR.2.2.2.1), hR4.2.2.2.2⟩ hH4 hF5 hP5 (nExt.refl ν5) stW_nil rW_nil)
  · intro N4 ρ4 ν4 v h4 u4 n4 x4 hA4 hH4 hF4 hP4 V2
    obtain ⟨nd, rd⟩ := lYd1_f_348n
    obtain ⟨r, hr⟩ : ∃ r : Int32, v = .int r := by
      first
        | (obtain ⟨r, h0, hr, -⟩ := V2; cases hr; exact ⟨r, rfl⟩)
        | (obtain ⟨r, hr, -⟩ := V2; cases hr; exact ⟨r, rfl⟩)
    subst hr
    have b7 : (h4.length : Int) - h3.length ≤ 2 := Int.le_trans (hA4.cost (by decide +kernel)).1 (by decide +kernel)
    have b8 : (u4 : Int) - u3 ≤ 68 := Int.le_trans (hA4.cost (by decide +kernel)).2 (by decide +kernel)
    have z1 := ((⟨⟨sumF_rule rc1 rc2 rc3 rc4 rc5 rc6 rc7 (by obtain ⟨⟨l0, l01, -⟩, -⟩ := rl_at hH1 hR1.1 rc3 rc2; exact gN_lt l01) d1 hl1 hl2 hl3 V1 hE V2, qRDy.fr3 (hR1.2.2.2.2.2.2.1) hR1.2.2.2.2.1 hR1.1 hH1 hF2 (by decide +kernel) hS2 hRo2 hH2 hF3 hS3 (hRo2.pre hP3) hH3 hF4 (by decide +kernel), qRp.fr3 (hR1.2.2.2.2.2.2.2) hR1.2.2.2.2.1 hR1.1 hF2 (by decide +kernel) hS2 hRo2 hF3 hS3 (hRo2.pre hP3) hF4 (by decide +kernel)⟩, trivial⟩ : qRHe h4 ∧ True)).1
    have hR4 : lR ρ4 ν4 h4 := ⟨(hRo2.pre hP3).pre hP4, x4 _ _ (x3 _ _ (x2 _ _ hR1.2.1)), x4 _ _ (x3 _ _ (x2 _ _ hR1.2.2.1)), x4 _ _ (x3 _ _ (x2 _ _ hR1.2.2.2.1)), hS3.fr (hRo2.pre hP3) hF4 stW_X15_rule_L, z1⟩
    have x14 : nExt ν ν4 := x1.trans (x2.trans (x3.trans x4))
    have hA4 := hA4.reb rd
    show zE zrx zi 57 243 447 lv3 _ h4 u4 lKK
    refine seg wT_ok lC_f_ok 3000 lY3_f_348_1 (Nat.le_refl _) x14 hlen hA4 rfl rfl hH4 (by omega) (by omega) ?_
    intro x hx N5 ρ5 ν5 lv5 st5 h5 u5 x5 hA5 hH5 hF5 hP5
    rw [List.mem_singleton.mp hx] at hA5 ⊢
    clear hx x
    dsimp only at hA5 ⊢
    have b9 : (h5.length : Int) - h4.length ≤ 0 := Int.le_trans (hA5.cost (by decide +kernel)).1 (by decide +kernel)
    have c1 : (u5 : Int) - u4 ≤ 0 := Int.le_trans (hA5.cost (by decide +kernel)).2 (by decide +kernel)
    obtain ⟨j, j1, j2⟩ := l_i hA5 rfl rfl (x5 _ _ v4)
    exact l_next (g := true) ih [0, 1, 2, 3, 15, 5, 6, 7, 8, 9, 10, 11, 12, 13, 14] (by decide +kernel) (by decide +kernel) hA5 rfl hH5 rfl rfl rfl rfl j1 (x5 _ _ v7) (x5 _ _ v9) (x5 _ _ v11) (acc.dear j2 (by omega) (by omega) true (fun z => z)) (by omega) rfl rfl rfl (lR.fr ⟨hR4.1, x5 _ _ (hR.2.1), x5 _ _ (hR.2.2.1), x5 _ _ (hR.2.2.2.1), hR4.2.2.2.2⟩ hH4 hF5 hP5 (nExt.refl ν5) stW_nil rW_nil)
def lYa_f_452 : sS := ([(3, 0, 0), (3, 8, 0), (3, 40, 0), (3, 36, 0), (0, 0, 4088), (0, 8, 4096), (3, 45, 0), (0, 0, 40), (3, 48, 0), (0, 0, 24), (3, 51, 0), (0, 0, 24), (0, 0, 4088), (0, 0, 4088), (3, 56, 0), (0, 1, 1), (0, 1, 4089), (0, -2147483648, 2147483647), (0, 2, 2), (0, 2, 4090), (0, -2147483648, 2147483647), (0, 3, 3), (0, 3, 4091), (0, -2147483648, 2147483647)], [(0, 0), (1, 1), (2, 2), (3, 3), (4, 4)], [3, 23, 20, 17, 1], [(4, 0, 22, 23, 0), (0, 22, 4, 0, 3), (0, 4, 22, 0, -3), (4, 0, 19, 20, 0), (0, 19, 4, 0, 2), (0, 4, 19, 0, -2), (4, 0, 16, 17, 0), (0, 16, 4, 0, 1), (0, 4, 16, 0, -1), (0, 4, 5, 0, -8), (3, 0, 5, 0, 0), (2, 2, 7, 6, 0), (2, 6, 2, 7, 0), (2, 2, 8, 8, 0), (2, 8, 2, 9, 0), (2, 2, 9, 10, 0), (2, 10, 2, 11, 0), (2, 1, 1, 12, 0), (2, 2, 3, 13, 0), (0, 12, 13, 0, 0), (0, 13, 12, 0, 0), (2, 2, 10, 14, 0), (0, 12, 4, 0, 0), (0, 13, 4, 0, 0)], 0, 0, [])
def lYb_f_452 : sS := vZ (cvS zi lYa_f_452 k_L_limit (cx1 k_L_limit))
def lYc_f_452 : sS := ([(3, 0, 0), (3, 8, 0), (3, 40, 0), (3, 36, 0), (0, 0, 4088), (0, 8, 4096), (3, 45, 0), (0, 0, 40), (3, 48, 0), (0, 0, 24), (3, 51, 0), (0, 0, 24), (0, 0, 4088), (0, 0, 4088), (3, 56, 0), (0, 1, 1), (0, 1, 4089), (0, -2147483648, 2147483647), (0, 2, 2), (0, 2, 4090), (0, -2147483648, 2147483647), (0, 3, 3), (0, 3, 4091), (0, -2147483648, 2147483647), (0, 0, 2), (0, 1, 1), (0, 2, 2), (0, 3, 3)], [(5, 24), (0, 0), (1, 1), (2, 2), (3, 3), (4, 4)], [23, 20, 17, 2], [(4, 0, 22, 23, 0), (0, 22, 4, 0, 3), (0, 4, 22, 0, -3), (4, 0, 19, 20, 0), (0, 19, 4, 0, 2), (0, 4, 19, 0, -2), (4, 0, 16, 17, 0), (0, 16, 4, 0, 1), (0, 4, 16, 0, -1), (0, 4, 5, 0, -8), (3, 0, 5, 0, 0), (2, 2, 7, 6, 0), (2, 6, 2, 7, 0), (2, 2, 8, 8, 0), (2, 8, 2, 9, 0), (2, 2, 9, 10, 0), (2, 10, 2, 11, 0), (2, 1, 1, 12, 0), (2, 2, 3, 13, 0), (0, 12, 13, 0, 0), (0, 13, 12, 0, 0), (2, 2, 10, 14, 0), (0, 12, 4, 0, 0), (0, 13, 4, 0, 0)], 0, 0, [])
theorem lY1_f_452 : chk zrx zi wT (wRo wSites_15) (wRo wTags_15) lC_f [] 0 0 15 3000 false [(472, lYa_f_452, [])] none 57 243 452 (vZ lM_f) (fun _ _ => false) = true := by decide +kernel
theorem lY2_f_452 : chk zrx zi wT (wRo wSites_15) (wRo wTags_15) lC_f [] 0 0 25 3000 false [(496, lYc_f_452, [])] none 57 243 475 lYb_f_452 (fun _ _ => false) = true := by decide +kernel
theorem lV1_f_452 : cvOk zrx zi wT 243 472 56 lYa_f_452 k_L_limit = true := by decide +kernel
theorem lV2_f_452 : cvOk zrx zi wT 243 496 56 lYc_f_452 k_X15_limit = true := by decide +kernel
theorem lYn_f_452 : lYb_f_452.1.length = 25 := by decide +kernel
theorem lYr_f_452 : (vZ lM_f).2.2.2.1.all (fun f => !(f.1 == 7)) = true ∧ lYa_f_452.2.2.2.1.all (fun f => !(f.1 == 7)) = true ∧ (cvS zi lYa_f_452 k_L_limit (cx1 k_L_limit)).2.2.2.1.all (fun f => !(f.1 == 7)) = true ∧ lYc_f_452.2.2.2.1.all (fun f => !(f.1 == 7)) = true := by decide +kernel
def lYd0_f_452 : sS := vZ (cvS zi lYc_f_452 k_X15_limit (cxi k_X15_limit 0))
theorem lYd0_f_452n : lYd0_f_452.1.length = 29 ∧ (cvS zi lYc_f_452 k_X15_limit (cxi k_X15_limit 0)).2.2.2.1.all (fun f => !(f.1 == 7)) = true := by decide +kernel
theorem lY3_f_452_0 : chk zrx zi wT (wRo wSites_15) (wRo wTags_15) lC_f [] 0 0 15 3000 false [(27, lT_fza, [])] none 57 243 499 lYd0_f_452 (fun _ _ => false) = true := by decide +kernel
set_option maxRecDepth 20000 in
theorem lA_f_452 {n : Nat} (ih : lIH n) {hb ub : Nat} {N : Int} {ρ : List Nat} {ν : List Value} {lv : List (Nat × Value)} {st : List Value} {h : List zC} {u : Nat} {i R C A : Int32} {F : Int} (hA : gA hb ub ρ ν lM_f lv st h u) (hH : tHeap wT N ρ h) (v4 : ν[4]? = some (.int i)) (v7 : ν[7]? = some (.int R)) (v9 : ν[9]? = some (.int C)) (v11 : ν[11]? = some (.int A))
    (i4 : i.toInt ≤ 4096) (acc : lAcc true hb ub i.toInt R.toInt C.toInt A.toInt F) (rm1 : (ub : Int) + 17920 ≤ zSN) (rm2 : (hb : Int) + 1152 ≤ zCM) (hn : 4104 - i.toInt ≤ (n + 1 : Nat)) (hR : lR ρ ν h) : zE zrx zi 57 243 452 lv st h u lKK := by
  obtain ⟨dl1, dl2, dl3, dl4⟩ := lD_lo R.toInt C.toInt A.toInt
  obtain ⟨r0, ra, rb, rc⟩ := lYr_f_452
  have q0 : (h.length : Int) - hb ≤ 0 := hA.2.2.2.2.1
  have q1 : (u : Int) - ub ≤ 0 := hA.2.2.2.2.2
  have hlen : ν.length ≤ 15 := by
    rw [← hA.1.1]
    exact Nat.le_of_eq rfl
  refine seg wT_ok lC_f_ok 3000 lY1_f_452 (Nat.le_refl _) (nExt.refl ν) hlen (hA.reb r0) rfl rfl hH (by omega) (by omega) ?_
  intro x hx N1 ρ1 ν1 lv1 st1 h1 u1 x1 hA1 hH1 hF1 hP1
  rw [List.mem_singleton.mp hx] at hA1 ⊢
  clear hx x
  dsimp only at hA1 ⊢
  have hR1 := hR.fr hH hF1 hP1 x1 stW_nil rW_nil
  have b1 : (h1.length : Int) - h.length ≤ 0 := Int.le_trans (hA1.cost (by decide +kernel)).1 (by decide +kernel)
  have b2 : (u1 : Int) - u ≤ 0 := Int.le_trans (hA1.cost (by decide +kernel)).2 (by decide +kernel)
  have hT : gSt ν1 [3, 23, 20, 17, 1] st1 := hA1.2.2.1
  obtain ⟨w0, sa0, ea0, o0, ha0⟩ := hT.inv
  subst ea0
  rw [hR1.2.2.2.1] at o0
  cases o0
  obtain ⟨w1, sa1, ea1, o1, ha1⟩ := ha0.inv
  subst ea1
  obtain ⟨p23, rfl, -⟩ := hA1.int o1 rfl
  obtain ⟨w2, sa2, ea2, o2, ha2⟩ := ha1.inv
  subst ea2
  obtain ⟨p20, rfl, -⟩ := hA1.int o2 rfl
  obtain ⟨w3, sa3, ea3, o3, ha3⟩ := ha2.inv
  subst ea3
  obtain ⟨p17, rfl, -⟩ := hA1.int o3 rfl
  obtain ⟨w4, sa4, ea4, o4, ha4⟩ := ha3.inv
  subst ea4
  rw [hR1.2.1] at o4
  cases o4
  cases ha4.nil
  obtain ⟨⟨cnt, el, rc1, rc2, rc3, rc4, rc5, rc6, rc7⟩, ⟨dd, d1, d2⟩, hp⟩ := hR1.2.2.2.2.2
  refine call_val con_L_limit vr_243_472 lV1_f_452 rfl rfl (hA1.reb ra) hH1 (by have : k_L_limit.2.2.2.2.1 = 1 := rfl; omega) (by have : k_L_limit.2.2.2.2.2.1 = 6 := rfl; omega) rfl (fun n => C_Llimit n p17 p20 p23 h1 u1 hR1.2.2.2.2.1 rc1 rc6) ?_
  intro N2 ρ2 ν2 v h2 u2 n2 x2 hA2 hH2 hF2 hP2 V1
  obtain ⟨k, hk, V1⟩ := V1
  cases hk
  have V1 : Q_Llimit cnt p17 p20 p23 h1 (.inl (some (.int k))) h2 u2 := ⟨k, rfl, V1⟩
  have b3 : (h2.length : Int) - h1.length ≤ 1 := Int.le_trans (hA2.cost (by decide +kernel)).1 (by decide +kernel)
  have b4 : (u2 : Int) - u1 ≤ 6 := Int.le_trans (hA2.cost (by decide +kernel)).2 (by decide +kernel)
  have hTk : ν2[24]? = some (.int k) := gSt_hd hA2.2.2.1 (by decide +kernel)
  have hlen2 : ν2.length ≤ 25 := by
    rw [← hA2.1.1]
    exact Nat.le_of_eq lYn_f_452
  have hS2 : Stc h2 := hR1.2.2.2.2.1.fr hR1.1 hF2 stW_L_limit
  have hRo2 : Ro ρ2 := hR1.1.pre hP2
  show zE zrx zi 57 243 475 lv1 _ h2 u2 lKK
  refine seg wT_ok lC_f_ok 3000 lY2_f_452 (Nat.le_refl _) (nExt.refl ν2) hlen2 (hA2.reb rb) rfl rfl hH2 (by omega) (by omega) ?_
  intro x hx N3 ρ3 ν3 lv3 st3 h3 u3 x3 hA3 hH3 hF3 hP3
  rw [List.mem_singleton.mp hx] at hA3 ⊢
  clear hx x
  dsimp only at hA3 ⊢
  have hS3 : Stc h3 := hS2.fr hRo2 hF3 stW_nil
  have b5 : (h3.length : Int) - h2.length ≤ 0 := Int.le_trans (hA3.cost (by decide +kernel)).1 (by decide +kernel)
  have b6 : (u3 : Int) - u2 ≤ 0 := Int.le_trans (hA3.cost (by decide +kernel)).2 (by decide +kernel)
  have hE : ∀ p, p < h2.length → ∀ k, gF h3 p k = gF h2 p k := fun p hp k => gFr_F0 hF3 hH2.1 hp k
  have hT : gSt ν3 [23, 20, 17, 2] st3 := hA3.2.2.1
  obtain ⟨w0, sb0, eb0, c0, hb0⟩ := hT.inv
  subst eb0
  rw [x3 _ _ (x2 _ _ o1)] at c0
  cases c0
  obtain ⟨w1, sb1, eb1, c1, hb1⟩ := hb0.inv
  subst eb1
  rw [x3 _ _ (x2 _ _ o2)] at c1
  cases c1
  obtain ⟨w2, sb2, eb2, c2, hb2⟩ := hb1.inv
  subst eb2
  rw [x3 _ _ (x2 _ _ o3)] at c2
  cases c2
  obtain ⟨w3, sb3, eb3, c3, hb3⟩ := hb2.inv
  subst eb3
  rw [x3 _ _ (x2 _ _ hR1.2.2.1)] at c3
  cases c3
  cases hb3.nil
  have hl1 := hR1.2.2.2.2.1.1
  have hl2 := gFr_len hF2
  have hl3 := gFr_len hF3
  have ro3 : Ro ρ3 := hRo2.pre hP3
  have m2 := (hE 223 (by omega) 2).trans ((gFr_F hF2 (hR1.1 223 45 (by decide +kernel)) (by decide +kernel) (by omega)).trans rc2)
  have m1 := (hE 223 (by omega) 1).trans ((gFr_F hF2 (hR1.1 223 45 (by decide +kernel)) (by decide +kernel) (by omega)).trans rc3)
  obtain ⟨⟨l, l1, l2⟩, l3, l4, l5, l6, l7, l8⟩ := rl_at hH3 ro3 m1 m2
  have l213 : ¬ el = 213 := by omega
  obtain ⟨-, -, k213, -⟩ := kind_at hH3 (ro3 213 40 (by decide +kernel)) rfl
  obtain ⟨-, -, k223, -⟩ := kind_at hH3 (ro3 223 45 (by decide +kernel)) rfl
  refine call_val con_X15_limit vr_243_496 lV2_f_452 rfl rfl (hA3.reb rc) hH3 (by have : k_X15_limit.2.2.2.2.1 = 0 := rfl; omega) (by have : k_X15_limit.2.2.2.2.2.1 = 0 := rfl; omega) rfl (fun n => C_mlimit n p17 p20 p23 h3 u3 hS3 m2 m1 l3 l213 k213 k223 rc5 (fun hx q hq => by
    obtain ⟨f, f1, f2⟩ := l8 _ (iN_cl rc5 hx)
    rw [hq] at f1
    cases f1
    obtain ⟨fa, ga⟩ := rl_int hH3 f2 (k := 3) (by omega)
    obtain ⟨fb, gb⟩ := rl_int hH3 f2 (k := 4) (by omega)
    obtain ⟨fc, gc⟩ := rl_int hH3 f2 (k := 6) (by omega)
    exact ⟨fa, fb, fc, ga, gb, gc⟩)) ?_
  intro N4 ρ4 ν4 v h4 u4 n4 x4 hA4 hH4 hF4 hP4 V2
  obtain ⟨nd, rd⟩ := lYd0_f_452n
  obtain ⟨r, hr⟩ : ∃ r : Int32, v = .int r := by
    first
      | (obtain ⟨r, h0, hr, -⟩ := V2; cases hr; exact ⟨r, rfl⟩)
      | (obtain ⟨r, hr, -⟩ := V2; cases hr; exact ⟨r, rfl⟩)
  subst hr
  have b7 : (h4.length : Int) - h3.length ≤ 0 := Int.le_trans (hA4.cost (by decide +kernel)).1 (by decide +kernel)
  have b8 : (u4 : Int) - u3 ≤ 0 := Int.le_trans (hA4.cost (by decide +kernel)).2 (by decide +kernel)
  have z1 := ((⟨⟨sumF_limit rc1 rc2 rc3 rc4 rc5 rc6 rc7 (by obtain ⟨⟨l0, l01, -⟩, -⟩ := rl_at hH1 hR1.1 rc3 rc2; exact gN_lt l01) hl1 hl2 hl3 V1 hE V2, qRDy.fr3 (hR1.2.2.2.2.2.2.1) hR1.2.2.2.2.1 hR1.1 hH1 hF2 (by decide +kernel) hS2 hRo2 hH2 hF3 hS3 (hRo2.pre hP3) hH3 hF4 (by decide +kernel), qRp.fr3 (hR1.2.2.2.2.2.2.2) hR1.2.2.2.2.1 hR1.1 hF2 (by decide +kernel) hS2 hRo2 hF3 hS3 (hRo2.pre hP3) hF4 (by decide +kernel)⟩, trivial⟩ : qRHe h4 ∧ True)).1
  have hR4 : lR ρ4 ν4 h4 := ⟨(hRo2.pre hP3).pre hP4, x4 _ _ (x3 _ _ (x2 _ _ hR1.2.1)), x4 _ _ (x3 _ _ (x2 _ _ hR1.2.2.1)), x4 _ _ (x3 _ _ (x2 _ _ hR1.2.2.2.1)), hS3.fr (hRo2.pre hP3) hF4 stW_X15_limit, z1⟩
  have x14 : nExt ν ν4 := x1.trans (x2.trans (x3.trans x4))
  have hA4 := hA4.reb rd
  show zE zrx zi 57 243 499 lv3 _ h4 u4 lKK
  refine seg wT_ok lC_f_ok 3000 lY3_f_452_0 (Nat.le_refl _) x14 hlen hA4 rfl rfl hH4 (by omega) (by omega) ?_
  intro x hx N5 ρ5 ν5 lv5 st5 h5 u5 x5 hA5 hH5 hF5 hP5
  rw [List.mem_singleton.mp hx] at hA5 ⊢
  clear hx x
  dsimp only at hA5 ⊢
  have b9 : (h5.length : Int) - h4.length ≤ 0 := Int.le_trans (hA5.cost (by decide +kernel)).1 (by decide +kernel)
  have c1 : (u5 : Int) - u4 ≤ 0 := Int.le_trans (hA5.cost (by decide +kernel)).2 (by decide +kernel)
  obtain ⟨j, j1, j2⟩ := l_i hA5 rfl rfl (x5 _ _ v4)
  exact l_next (g := true) ih [0, 1, 2, 3, 15, 5, 6, 7, 8, 9, 10, 11, 12, 13, 14] (by decide +kernel) (by decide +kernel) hA5 rfl hH5 rfl rfl rfl rfl j1 (x5 _ _ v7) (x5 _ _ v9) (x5 _ _ v11) (acc.dear j2 (by omega) (by omega) true (fun z => z)) (by omega) rfl rfl rfl (lR.fr ⟨hR4.1, x5 _ _ (hR.2.1), x5 _ _ (hR.2.2.1), x5 _ _ (hR.2.2.2.1), hR4.2.2.2.2⟩ hH4 hF5 hP5 (nExt.refl ν5) stW_nil rW_nil)
def lYa_f_1028 : sS := ([(3, 0, 0), (3, 8, 0), (3, 40, 0), (3, 36, 0), (0, 0, 4088), (0, 8, 4096), (3, 45, 0), (0, 0, 40), (3, 48, 0), (0, 0, 24), (3, 51, 0), (0, 0, 24), (0, 0, 4088), (0, 0, 4088), (3, 56, 0), (0, 1, 1), (0, 1, 4089), (0, -2147483648, 2147483647)], [(0, 0), (1, 1), (2, 2), (3, 3), (4, 4)], [3, 17, 1], [(4, 0, 16, 17, 0), (0, 16, 4, 0, 1), (0, 4, 16, 0, -1), (0, 4, 5, 0, -8), (3, 0, 5, 0, 0), (2, 2, 7, 6, 0), (2, 6, 2, 7, 0), (2, 2, 8, 8, 0), (2, 8, 2, 9, 0), (2, 2, 9, 10, 0), (2, 10, 2, 11, 0), (2, 1, 1, 12, 0), (2, 2, 3, 13, 0), (0, 12, 13, 0, 0), (0, 13, 12, 0, 0), (2, 2, 10, 14, 0), (0, 12, 4, 0, 0), (0, 13, 4, 0, 0)], 0, 0, [])
def lYb_f_1028 : sS := vZ (cvS zi lYa_f_1028 k_L_pass (cx1 k_L_pass))
def lYc_f_1028 : sS := ([(3, 0, 0), (3, 8, 0), (3, 40, 0), (3, 36, 0), (0, 0, 4088), (0, 8, 4096), (3, 45, 0), (0, 0, 40), (3, 48, 0), (0, 0, 24), (3, 51, 0), (0, 0, 24), (0, 0, 4088), (0, 0, 4088), (3, 56, 0), (0, 1, 1), (0, 1, 4089), (0, -2147483648, 2147483647), (0, 0, 2), (0, 1, 1)], [(5, 18), (0, 0), (1, 1), (2, 2), (3, 3), (4, 4)], [17, 2], [(4, 0, 16, 17, 0), (0, 16, 4, 0, 1), (0, 4, 16, 0, -1), (0, 4, 5, 0, -8), (3, 0, 5, 0, 0), (2, 2, 7, 6, 0), (2, 6, 2, 7, 0), (2, 2, 8, 8, 0), (2, 8, 2, 9, 0), (2, 2, 9, 10, 0), (2, 10, 2, 11, 0), (2, 1, 1, 12, 0), (2, 2, 3, 13, 0), (0, 12, 13, 0, 0), (0, 13, 12, 0, 0), (2, 2, 10, 14, 0), (0, 12, 4, 0, 0), (0, 13, 4, 0, 0)], 0, 0, [])
theorem lY1_f_1028 : chk zrx zi wT (wRo wSites_15) (wRo wTags_15) lC_f [] 0 0 15 3000 false [(1036, lYa_f_1028, [])] none 57 243 1028 (vZ lM_f) (fun _ _ => false) = true := by decide +kernel
theorem lY2_f_1028 : chk zrx zi wT (wRo wSites_15) (wRo wTags_15) lC_f [] 0 0 19 3000 false [(1048, lYc_f_1028, [])] none 57 243 1039 lYb_f_1028 (fun _ _ => false) = true := by decide +kernel
theorem lV1_f_1028 : cvOk zrx zi wT 243 1036 56 lYa_f_1028 k_L_pass = true := by decide +kernel
theorem lV2_f_1028 : cvOk zrx zi wT 243 1048 56 lYc_f_1028 k_X15_pass = true := by decide +kernel
theorem lYn_f_1028 : lYb_f_1028.1.length = 19 := by decide +kernel
theorem lYr_f_1028 : (vZ lM_f).2.2.2.1.all (fun f => !(f.1 == 7)) = true ∧ lYa_f_1028.2.2.2.1.all (fun f => !(f.1 == 7)) = true ∧ (cvS zi lYa_f_1028 k_L_pass (cx1 k_L_pass)).2.2.2.1.all (fun f => !(f.1 == 7)) = true ∧ lYc_f_1028.2.2.2.1.all (fun f => !(f.1 == 7)) = true := by decide +kernel
def lYd0_f_1028 : sS := vZ (cvS zi lYc_f_1028 k_X15_pass (cxi k_X15_pass 0))
theorem lYd0_f_1028n : lYd0_f_1028.1.length = 21 ∧ (cvS zi lYc_f_1028 k_X15_pass (cxi k_X15_pass 0)).2.2.2.1.all (fun f => !(f.1 == 7)) = true := by decide +kernel
theorem lY3_f_1028_0 : chk zrx zi wT (wRo wSites_15) (wRo wTags_15) lC_f [] 0 0 15 3000 false [(27, lT_fza, [])] none 57 243 1051 lYd0_f_1028 (fun _ _ => false) = true := by decide +kernel
set_option maxRecDepth 20000 in
theorem lA_f_1028 {n : Nat} (ih : lIH n) {hb ub : Nat} {N : Int} {ρ : List Nat} {ν : List Value} {lv : List (Nat × Value)} {st : List Value} {h : List zC} {u : Nat} {i R C A : Int32} {F : Int} (hA : gA hb ub ρ ν lM_f lv st h u) (hH : tHeap wT N ρ h) (v4 : ν[4]? = some (.int i)) (v7 : ν[7]? = some (.int R)) (v9 : ν[9]? = some (.int C)) (v11 : ν[11]? = some (.int A))
    (i4 : i.toInt ≤ 4096) (acc : lAcc true hb ub i.toInt R.toInt C.toInt A.toInt F) (rm1 : (ub : Int) + 17920 ≤ zSN) (rm2 : (hb : Int) + 1152 ≤ zCM) (hn : 4104 - i.toInt ≤ (n + 1 : Nat)) (hR : lR ρ ν h) : zE zrx zi 57 243 1028 lv st h u lKK := by
  obtain ⟨dl1, dl2, dl3, dl4⟩ := lD_lo R.toInt C.toInt A.toInt
  obtain ⟨r0, ra, rb, rc⟩ := lYr_f_1028
  have q0 : (h.length : Int) - hb ≤ 0 := hA.2.2.2.2.1
  have q1 : (u : Int) - ub ≤ 0 := hA.2.2.2.2.2
  have hlen : ν.length ≤ 15 := by
    rw [← hA.1.1]
    exact Nat.le_of_eq rfl
  refine seg wT_ok lC_f_ok 3000 lY1_f_1028 (Nat.le_refl _) (nExt.refl ν) hlen (hA.reb r0) rfl rfl hH (by omega) (by omega) ?_
  intro x hx N1 ρ1 ν1 lv1 st1 h1 u1 x1 hA1 hH1 hF1 hP1
  rw [List.mem_singleton.mp hx] at hA1 ⊢
  clear hx x
  dsimp only at hA1 ⊢
  have hR1 := hR.fr hH hF1 hP1 x1 stW_nil rW_nil
  have b1 : (h1.length : Int) - h.length ≤ 0 := Int.le_trans (hA1.cost (by decide +kernel)).1 (by decide +kernel)
  have b2 : (u1 : Int) - u ≤ 0 := Int.le_trans (hA1.cost (by decide +kernel)).2 (by decide +kernel)
  have hT : gSt ν1 [3, 17, 1] st1 := hA1.2.2.1
  obtain ⟨w0, sa0, ea0, o0, ha0⟩ := hT.inv
  subst ea0
  rw [hR1.2.2.2.1] at o0
  cases o0
  obtain ⟨w1, sa1, ea1, o1, ha1⟩ := ha0.inv
  subst ea1
  obtain ⟨p17, rfl, -⟩ := hA1.int o1 rfl
  obtain ⟨w2, sa2, ea2, o2, ha2⟩ := ha1.inv
  subst ea2
  rw [hR1.2.1] at o2
  cases o2
  cases ha2.nil
  obtain ⟨⟨cnt, el, rc1, rc2, rc3, rc4, rc5, rc6, rc7⟩, ⟨dd, d1, d2⟩, hp⟩ := hR1.2.2.2.2.2
  refine call_val con_L_pass vr_243_1036 lV1_f_1028 rfl rfl (hA1.reb ra) hH1 (by have : k_L_pass.2.2.2.2.1 = 1 := rfl; omega) (by have : k_L_pass.2.2.2.2.2.1 = 6 := rfl; omega) rfl (fun n => C_Lpass n p17 h1 u1 d1) ?_
  intro N2 ρ2 ν2 v h2 u2 n2 x2 hA2 hH2 hF2 hP2 V1
  obtain ⟨k, hk, V1⟩ := V1
  cases hk
  have V1 : Q_Lpass dd p17 h1 (.inl (some (.int k))) h2 u2 := ⟨k, rfl, V1⟩
  have b3 : (h2.length : Int) - h1.length ≤ 1 := Int.le_trans (hA2.cost (by decide +kernel)).1 (by decide +kernel)
  have b4 : (u2 : Int) - u1 ≤ 6 := Int.le_trans (hA2.cost (by decide +kernel)).2 (by decide +kernel)
  have hTk : ν2[18]? = some (.int k) := gSt_hd hA2.2.2.1 (by decide +kernel)
  have hlen2 : ν2.length ≤ 19 := by
    rw [← hA2.1.1]
    exact Nat.le_of_eq lYn_f_1028
  have hS2 : Stc h2 := hR1.2.2.2.2.1.fr hR1.1 hF2 stW_L_pass
  have hRo2 : Ro ρ2 := hR1.1.pre hP2
  show zE zrx zi 57 243 1039 lv1 _ h2 u2 lKK
  refine seg wT_ok lC_f_ok 3000 lY2_f_1028 (Nat.le_refl _) (nExt.refl ν2) hlen2 (hA2.reb rb) rfl rfl hH2 (by omega) (by omega) ?_
  intro x hx N3 ρ3 ν3 lv3 st3 h3 u3 x3 hA3 hH3 hF3 hP3
  rw [List.mem_singleton.mp hx] at hA3 ⊢
  clear hx x
  dsimp only at hA3 ⊢
  have hS3 : Stc h3 := hS2.fr hRo2 hF3 stW_nil
  have b5 : (h3.length : Int) - h2.length ≤ 0 := Int.le_trans (hA3.cost (by decide +kernel)).1 (by decide +kernel)
  have b6 : (u3 : Int) - u2 ≤ 0 := Int.le_trans (hA3.cost (by decide +kernel)).2 (by decide +kernel)
  have hE : ∀ p, p < h2.length → ∀ k, gF h3 p k = gF h2 p k := fun p hp k => gFr_F0 hF3 hH2.1 hp k
  have hT : gSt ν3 [17, 2] st3 := hA3.2.2.1
  obtain ⟨w0, sb0, eb0, c0, hb0⟩ := hT.inv
  subst eb0
  rw [x3 _ _ (x2 _ _ o1)] at c0
  cases c0
  obtain ⟨w1, sb1, eb1, c1, hb1⟩ := hb0.inv
  subst eb1
  rw [x3 _ _ (x2 _ _ hR1.2.2.1)] at c1
  cases c1
  cases hb1.nil
  have hl1 := hR1.2.2.2.2.1.1
  have hl2 := gFr_len hF2
  have hl3 := gFr_len hF3
  have ro3 : Ro ρ3 := hRo2.pre hP3
  have d3 := (hE 213 (by omega) 1).trans ((gFr_F hF2 (hR1.1 213 40 (by decide +kernel)) (by decide +kernel) (by omega)).trans d2)
  refine call_val con_X15_pass vr_243_1048 lV2_f_1028 rfl rfl (hA3.reb rc) hH3 (by have : k_X15_pass.2.2.2.2.1 = 0 := rfl; omega) (by have : k_X15_pass.2.2.2.2.2.1 = 0 := rfl; omega) rfl (fun n => C_mpass n p17 h3 u3 d3) ?_
  intro N4 ρ4 ν4 v h4 u4 n4 x4 hA4 hH4 hF4 hP4 V2
  obtain ⟨nd, rd⟩ := lYd0_f_1028n
  obtain ⟨r, hr⟩ : ∃ r : Int32, v = .int r := by
    first
      | (obtain ⟨r, h0, hr, -⟩ := V2; cases hr; exact ⟨r, rfl⟩)
      | (obtain ⟨r, hr, -⟩ := V2; cases hr; exact ⟨r, rfl⟩)
  subst hr
  have b7 : (h4.length : Int) - h3.length ≤ 0 := Int.le_trans (hA4.cost (by decide +kernel)).1 (by decide +kernel)
  have b8 : (u4 : Int) - u3 ≤ 0 := Int.le_trans (hA4.cost (by decide +kernel)).2 (by decide +kernel)
  have z1 := ((⟨⟨qRFu.fr3 (hR1.2.2.2.2.2.1) hR1.2.2.2.2.1 hR1.1 hH1 hF2 (by decide +kernel) hS2 hRo2 hH2 hF3 hS3 (hRo2.pre hP3) hH3 hF4 (by decide +kernel), sum_pass d1 d2 hl1 hl2 V1 hE V2, qRp.fr3 (hR1.2.2.2.2.2.2.2) hR1.2.2.2.2.1 hR1.1 hF2 (by decide +kernel) hS2 hRo2 hF3 hS3 (hRo2.pre hP3) hF4 (by decide +kernel)⟩, trivial⟩ : qRHe h4 ∧ True)).1
  have hR4 : lR ρ4 ν4 h4 := ⟨(hRo2.pre hP3).pre hP4, x4 _ _ (x3 _ _ (x2 _ _ hR1.2.1)), x4 _ _ (x3 _ _ (x2 _ _ hR1.2.2.1)), x4 _ _ (x3 _ _ (x2 _ _ hR1.2.2.2.1)), hS3.fr (hRo2.pre hP3) hF4 stW_X15_pass, z1⟩
  have x14 : nExt ν ν4 := x1.trans (x2.trans (x3.trans x4))
  have hA4 := hA4.reb rd
  show zE zrx zi 57 243 1051 lv3 _ h4 u4 lKK
  refine seg wT_ok lC_f_ok 3000 lY3_f_1028_0 (Nat.le_refl _) x14 hlen hA4 rfl rfl hH4 (by omega) (by omega) ?_
  intro x hx N5 ρ5 ν5 lv5 st5 h5 u5 x5 hA5 hH5 hF5 hP5
  rw [List.mem_singleton.mp hx] at hA5 ⊢
  clear hx x
  dsimp only at hA5 ⊢
  have b9 : (h5.length : Int) - h4.length ≤ 0 := Int.le_trans (hA5.cost (by decide +kernel)).1 (by decide +kernel)
  have c1 : (u5 : Int) - u4 ≤ 0 := Int.le_trans (hA5.cost (by decide +kernel)).2 (by decide +kernel)
  obtain ⟨j, j1, j2⟩ := l_i hA5 rfl rfl (x5 _ _ v4)
  exact l_next (g := true) ih [0, 1, 2, 3, 15, 5, 6, 7, 8, 9, 10, 11, 12, 13, 14] (by decide +kernel) (by decide +kernel) hA5 rfl hH5 rfl rfl rfl rfl j1 (x5 _ _ v7) (x5 _ _ v9) (x5 _ _ v11) (acc.dear j2 (by omega) (by omega) true (fun z => z)) (by omega) rfl rfl rfl (lR.fr ⟨hR4.1, x5 _ _ (hR.2.1), x5 _ _ (hR.2.2.1), x5 _ _ (hR.2.2.2.1), hR4.2.2.2.2⟩ hH4 hF5 hP5 (nExt.refl ν5) stW_nil rW_nil)
def lYa_f_1469 : sS := ([(3, 0, 0), (3, 8, 0), (3, 40, 0), (3, 36, 0), (0, 0, 4088), (0, 8, 4096), (3, 45, 0), (0, 0, 40), (3, 48, 0), (0, 0, 24), (3, 51, 0), (0, 0, 24), (0, 0, 4088), (0, 0, 4088), (3, 56, 0), (0, 1, 1), (0, 1, 4089), (0, -2147483648, 2147483647), (0, 2, 2), (0, 2, 4090), (0, -2147483648, 2147483647), (0, 3, 3), (0, 3, 4091), (0, -2147483648, 2147483647), (0, 4, 4), (0, 4, 4092), (0, -2147483648, 2147483647), (0, 5, 5), (0, 5, 4093), (0, -2147483648, 2147483647)], [(0, 0), (1, 1), (2, 2), (3, 3), (4, 4)], [3, 29, 26, 23, 20, 17, 1], [(4, 0, 28, 29, 0), (0, 28, 4, 0, 5), (0, 4, 28, 0, -5), (4, 0, 25, 26, 0), (0, 25, 4, 0, 4), (0, 4, 25, 0, -4), (4, 0, 22, 23, 0), (0, 22, 4, 0, 3), (0, 4, 22, 0, -3), (4, 0, 19, 20, 0), (0, 19, 4, 0, 2), (0, 4, 19, 0, -2), (4, 0, 16, 17, 0), (0, 16, 4, 0, 1), (0, 4, 16, 0, -1), (0, 4, 5, 0, -8), (3, 0, 5, 0, 0), (2, 2, 7, 6, 0), (2, 6, 2, 7, 0), (2, 2, 8, 8, 0), (2, 8, 2, 9, 0), (2, 2, 9, 10, 0), (2, 10, 2, 11, 0), (2, 1, 1, 12, 0), (2, 2, 3, 13, 0), (0, 12, 13, 0, 0), (0, 13, 12, 0, 0), (2, 2, 10, 14, 0), (0, 12, 4, 0, 0), (0, 13, 4, 0, 0)], 0, 0, [])
def lYb_f_1469 : sS := vZ (cvS zi lYa_f_1469 k_L_held (cx1 k_L_held))
def lYc_f_1469 : sS := ([(3, 0, 0), (3, 8, 0), (3, 40, 0), (3, 36, 0), (0, 0, 4088), (0, 8, 4096), (3, 45, 0), (0, 0, 40), (3, 48, 0), (0, 0, 24), (3, 51, 0), (0, 0, 24), (0, 0, 4088), (0, 0, 4088), (3, 56, 0), (0, 1, 1), (0, 1, 4089), (0, -2147483648, 2147483647), (0, 2, 2), (0, 2, 4090), (0, -2147483648, 2147483647), (0, 3, 3), (0, 3, 4091), (0, -2147483648, 2147483647), (0, 4, 4), (0, 4, 4092), (0, -2147483648, 2147483647), (0, 5, 5), (0, 5, 4093), (0, -2147483648, 2147483647), (0, 0, 2), (0, 1, 1), (0, 2, 2), (0, 3, 3), (0, 4, 4), (0, 5, 5)], [(5, 30), (0, 0), (1, 1), (2, 2), (3, 3), (4, 4)], [29, 26, 23, 20, 17, 2], [(4, 0, 28, 29, 0), (0, 28, 4, 0, 5), (0, 4, 28, 0, -5), (4, 0, 25, 26, 0), (0, 25, 4, 0, 4), (0, 4, 25, 0, -4), (4, 0, 22, 23, 0), (0, 22, 4, 0, 3), (0, 4, 22, 0, -3), (4, 0, 19, 20, 0), (0, 19, 4, 0, 2), (0, 4, 19, 0, -2), (4, 0, 16, 17, 0), (0, 16, 4, 0, 1), (0, 4, 16, 0, -1), (0, 4, 5, 0, -8), (3, 0, 5, 0, 0), (2, 2, 7, 6, 0), (2, 6, 2, 7, 0), (2, 2, 8, 8, 0), (2, 8, 2, 9, 0), (2, 2, 9, 10, 0), (2, 10, 2, 11, 0), (2, 1, 1, 12, 0), (2, 2, 3, 13, 0), (0, 12, 13, 0, 0), (0, 13, 12, 0, 0), (2, 2, 10, 14, 0), (0, 12, 4, 0, 0), (0, 13, 4, 0, 0)], 0, 0, [])
theorem lY1_f_1469 : chk zrx zi wT (wRo wSites_15) (wRo wTags_15) lC_f [] 0 0 15 3000 false [(1501, lYa_f_1469, [])] none 57 243 1469 (vZ lM_f) (fun _ _ => false) = true := by decide +kernel
theorem lY2_f_1469 : chk zrx zi wT (wRo wSites_15) (wRo wTags_15) lC_f [] 0 0 31 3000 false [(1537, lYc_f_1469, [])] none 57 243 1504 lYb_f_1469 (fun _ _ => false) = true := by decide +kernel
theorem lV1_f_1469 : cvOk zrx zi wT 243 1501 56 lYa_f_1469 k_L_held = true := by decide +kernel
theorem lV2_f_1469 : cvOk zrx zi wT 243 1537 56 lYc_f_1469 k_X15_held = true := by decide +kernel
theorem lYk_f_1469 : sGet lYb_f_1469.1 30 = (0, 0, 2) := by decide +kernel
theorem lYn_f_1469 : lYb_f_1469.1.length = 31 := by decide +kernel
theorem lYr_f_1469 : (vZ lM_f).2.2.2.1.all (fun f => !(f.1 == 7)) = true ∧ lYa_f_1469.2.2.2.1.all (fun f => !(f.1 == 7)) = true ∧ (cvS zi lYa_f_1469 k_L_held (cx1 k_L_held)).2.2.2.1.all (fun f => !(f.1 == 7)) = true ∧ lYc_f_1469.2.2.2.1.all (fun f => !(f.1 == 7)) = true := by decide +kernel
def lYd0_f_1469 : sS := vZ (cvS zi lYc_f_1469 k_X15_held (cxi k_X15_held 0))
theorem lYd0_f_1469n : lYd0_f_1469.1.length = 37 ∧ (cvS zi lYc_f_1469 k_X15_held (cxi k_X15_held 0)).2.2.2.1.all (fun f => !(f.1 == 7)) = true := by decide +kernel
def lYf0_f_1469 : sS := sNw (sFs (sNr lYd0_f_1469 30 0 0) [(2, 2, 0, 30, 0)]) (1, 0, 0) [(2, 3, 0, 37, 0), (17, 37, 36, 0, 0)]
def lYg0_f_1469 : sS := sFs (sNr lYd0_f_1469 30 1 2) [(2, 2, 0, 30, 0)]
theorem lY3_f_1469_0 : chk zrx zi wT (wRo wSites_15) (wRo wTags_15) lC_f [] 0 0 15 3000 false [(27, lT_fza, [])] none 57 243 1540 lYf0_f_1469 (fun _ _ => false) = true := by decide +kernel
theorem lY4_f_1469_0 : chk zrx zi wT (wRo wSites_15) (wRo wTags_15) lC_f [] 0 0 15 3000 false [(27, lT_fza, [])] none 57 243 1540 lYg0_f_1469 (fun _ _ => false) = true := by decide +kernel
set_option maxRecDepth 20000 in
theorem lA_f_1469 {n : Nat} (ih : lIH n) {hb ub : Nat} {N : Int} {ρ : List Nat} {ν : List Value} {lv : List (Nat × Value)} {st : List Value} {h : List zC} {u : Nat} {i R C A : Int32} {F : Int} (hA : gA hb ub ρ ν lM_f lv st h u) (hH : tHeap wT N ρ h) (v4 : ν[4]? = some (.int i)) (v7 : ν[7]? = some (.int R)) (v9 : ν[9]? = some (.int C)) (v11 : ν[11]? = some (.int A))
    (i4 : i.toInt ≤ 4096) (acc : lAcc true hb ub i.toInt R.toInt C.toInt A.toInt F) (rm1 : (ub : Int) + 17920 ≤ zSN) (rm2 : (hb : Int) + 1152 ≤ zCM) (hn : 4104 - i.toInt ≤ (n + 1 : Nat)) (hR : lR ρ ν h) : zE zrx zi 57 243 1469 lv st h u lKK := by
  obtain ⟨dl1, dl2, dl3, dl4⟩ := lD_lo R.toInt C.toInt A.toInt
  obtain ⟨r0, ra, rb, rc⟩ := lYr_f_1469
  have q0 : (h.length : Int) - hb ≤ 0 := hA.2.2.2.2.1
  have q1 : (u : Int) - ub ≤ 0 := hA.2.2.2.2.2
  have hlen : ν.length ≤ 15 := by
    rw [← hA.1.1]
    exact Nat.le_of_eq rfl
  refine seg wT_ok lC_f_ok 3000 lY1_f_1469 (Nat.le_refl _) (nExt.refl ν) hlen (hA.reb r0) rfl rfl hH (by omega) (by omega) ?_
  intro x hx N1 ρ1 ν1 lv1 st1 h1 u1 x1 hA1 hH1 hF1 hP1
  rw [List.mem_singleton.mp hx] at hA1 ⊢
  clear hx x
  dsimp only at hA1 ⊢
  have hR1 := hR.fr hH hF1 hP1 x1 stW_nil rW_nil
  have b1 : (h1.length : Int) - h.length ≤ 0 := Int.le_trans (hA1.cost (by decide +kernel)).1 (by decide +kernel)
  have b2 : (u1 : Int) - u ≤ 0 := Int.le_trans (hA1.cost (by decide +kernel)).2 (by decide +kernel)
  have hT : gSt ν1 [3, 29, 26, 23, 20, 17, 1] st1 := hA1.2.2.1
  obtain ⟨w0, sa0, ea0, o0, ha0⟩ := hT.inv
  subst ea0
  rw [hR1.2.2.2.1] at o0
  cases o0
  obtain ⟨w1, sa1, ea1, o1, ha1⟩ := ha0.inv
  subst ea1
  obtain ⟨p29, rfl, -⟩ := hA1.int o1 rfl
  obtain ⟨w2, sa2, ea2, o2, ha2⟩ := ha1.inv
  subst ea2
  obtain ⟨p26, rfl, -⟩ := hA1.int o2 rfl
  obtain ⟨w3, sa3, ea3, o3, ha3⟩ := ha2.inv
  subst ea3
  obtain ⟨p23, rfl, -⟩ := hA1.int o3 rfl
  obtain ⟨w4, sa4, ea4, o4, ha4⟩ := ha3.inv
  subst ea4
  obtain ⟨p20, rfl, -⟩ := hA1.int o4 rfl
  obtain ⟨w5, sa5, ea5, o5, ha5⟩ := ha4.inv
  subst ea5
  obtain ⟨p17, rfl, -⟩ := hA1.int o5 rfl
  obtain ⟨w6, sa6, ea6, o6, ha6⟩ := ha5.inv
  subst ea6
  rw [hR1.2.1] at o6
  cases o6
  cases ha6.nil
  obtain ⟨⟨cnt, el, rc1, rc2, rc3, rc4, rc5, rc6, rc7⟩, ⟨dd, d1, d2⟩, hp⟩ := hR1.2.2.2.2.2
  refine call_val con_L_held vr_243_1501 lV1_f_1469 rfl rfl (hA1.reb ra) hH1 (by have : k_L_held.2.2.2.2.1 = 1 := rfl; omega) (by have : k_L_held.2.2.2.2.2.1 = 6 := rfl; omega) rfl (fun n => C_Lheld n p17 p20 p23 p26 p29 h1 u1 hR1.2.2.2.2.1 rc1 rc5 rc6 d1) ?_
  intro N2 ρ2 ν2 v h2 u2 n2 x2 hA2 hH2 hF2 hP2 V1
  obtain ⟨k, hk, V1⟩ := V1
  cases hk
  have V1 : Q_Lheld cnt dd p17 p20 p23 p26 p29 h1 (.inl (some (.int k))) h2 u2 := ⟨k, rfl, V1⟩
  have b3 : (h2.length : Int) - h1.length ≤ 1 := Int.le_trans (hA2.cost (by decide +kernel)).1 (by decide +kernel)
  have b4 : (u2 : Int) - u1 ≤ 6 := Int.le_trans (hA2.cost (by decide +kernel)).2 (by decide +kernel)
  have hTk : ν2[30]? = some (.int k) := gSt_hd hA2.2.2.1 (by decide +kernel)
  have hB2 : gA h2.length u2 ρ2 ν2 lYb_f_1469 lv1 _ h2 u2 := hA2.reb rb
  obtain ⟨k', ek, kk1, kk2⟩ := hB2.int hTk (by rw [lYk_f_1469])
  cases ek
  rw [lYk_f_1469] at kk1 kk2
  have hlen2 : ν2.length ≤ 31 := by
    rw [← hA2.1.1]
    exact Nat.le_of_eq lYn_f_1469
  have hS2 : Stc h2 := hR1.2.2.2.2.1.fr hR1.1 hF2 stW_L_held
  have hRo2 : Ro ρ2 := hR1.1.pre hP2
  show zE zrx zi 57 243 1504 lv1 _ h2 u2 lKK
  refine seg wT_ok lC_f_ok 3000 lY2_f_1469 (Nat.le_refl _) (nExt.refl ν2) hlen2 (hA2.reb rb) rfl rfl hH2 (by omega) (by omega) ?_
  intro x hx N3 ρ3 ν3 lv3 st3 h3 u3 x3 hA3 hH3 hF3 hP3
  rw [List.mem_singleton.mp hx] at hA3 ⊢
  clear hx x
  dsimp only at hA3 ⊢
  have hS3 : Stc h3 := hS2.fr hRo2 hF3 stW_nil
  have b5 : (h3.length : Int) - h2.length ≤ 0 := Int.le_trans (hA3.cost (by decide +kernel)).1 (by decide +kernel)
  have b6 : (u3 : Int) - u2 ≤ 0 := Int.le_trans (hA3.cost (by decide +kernel)).2 (by decide +kernel)
  have hE : ∀ p, p < h2.length → ∀ k, gF h3 p k = gF h2 p k := fun p hp k => gFr_F0 hF3 hH2.1 hp k
  have hT : gSt ν3 [29, 26, 23, 20, 17, 2] st3 := hA3.2.2.1
  obtain ⟨w0, sb0, eb0, c0, hb0⟩ := hT.inv
  subst eb0
  rw [x3 _ _ (x2 _ _ o1)] at c0
  cases c0
  obtain ⟨w1, sb1, eb1, c1, hb1⟩ := hb0.inv
  subst eb1
  rw [x3 _ _ (x2 _ _ o2)] at c1
  cases c1
  obtain ⟨w2, sb2, eb2, c2, hb2⟩ := hb1.inv
  subst eb2
  rw [x3 _ _ (x2 _ _ o3)] at c2
  cases c2
  obtain ⟨w3, sb3, eb3, c3, hb3⟩ := hb2.inv
  subst eb3
  rw [x3 _ _ (x2 _ _ o4)] at c3
  cases c3
  obtain ⟨w4, sb4, eb4, c4, hb4⟩ := hb3.inv
  subst eb4
  rw [x3 _ _ (x2 _ _ o5)] at c4
  cases c4
  obtain ⟨w5, sb5, eb5, c5, hb5⟩ := hb4.inv
  subst eb5
  rw [x3 _ _ (x2 _ _ hR1.2.2.1)] at c5
  cases c5
  cases hb5.nil
  have hl1 := hR1.2.2.2.2.1.1
  have hl2 := gFr_len hF2
  have hl3 := gFr_len hF3
  have ro3 : Ro ρ3 := hRo2.pre hP3
  have m2 := (hE 223 (by omega) 2).trans ((gFr_F hF2 (hR1.1 223 45 (by decide +kernel)) (by decide +kernel) (by omega)).trans rc2)
  have m1 := (hE 223 (by omega) 1).trans ((gFr_F hF2 (hR1.1 223 45 (by decide +kernel)) (by decide +kernel) (by omega)).trans rc3)
  obtain ⟨⟨l, l1, l2⟩, l3, l4, l5, l6, l7, l8⟩ := rl_at hH3 ro3 m1 m2
  have l213 : ¬ el = 213 := by omega
  have d3 := (hE 213 (by omega) 1).trans ((gFr_F hF2 (hR1.1 213 40 (by decide +kernel)) (by decide +kernel) (by omega)).trans d2)
  refine call_val con_X15_held vr_243_1537 lV2_f_1469 rfl rfl (hA3.reb rc) hH3 (by have : k_X15_held.2.2.2.2.1 = 7 := rfl; omega) (by have : k_X15_held.2.2.2.2.2.1 = 158 := rfl; omega) rfl (fun n => C_mheld n p17 p20 p23 p26 p29 h3 u3 hS3 m2 m1 rc5 rc6 d3 (gN_lt l1) (fun k hk => by
    obtain ⟨v, v1, v2, -, v4⟩ := rc7.1 k hk
    have hrow := (gFr_F0 hF3 hH2.1 (Nat.lt_of_lt_of_le (gF_lt v1) hl2) _).trans (Eq.trans (by rcases (rl_at hH1 hR1.1 rc3 rc2).2.2.2.2.2.1 with z | z; exact gFr_F hF2 z (wNo (by decide +kernel)) (gF_lt v1); exact gFr_F hF2 z (wNo (by decide +kernel)) (gF_lt v1)) v1)
    obtain ⟨w, w1, w2⟩ := (rl_at hH1 hR1.1 rc3 rc2).2.2.2.2.2.2 _ hk
    rw [v1] at w1
    cases w1
    obtain ⟨a, b, c, ⟨-, a2⟩, ⟨-, b2⟩, ⟨-, c2⟩, -, ra, rb, -⟩ := v4.1
    have fq : ∀ k, gF h3 v k = gF h1 v k := fun k => (gFr_F0 hF3 hH2.1 (Nat.lt_of_lt_of_le v4.lt.2 hl2) k).trans (gFr_F hF2 w2 (wNo (by decide +kernel)) v4.lt.2)
    obtain ⟨f, f1, f2⟩ := l8 k hk
    rw [hrow] at f1
    cases f1
    exact ⟨v, v2, hrow, rul_ints hH3 f2, a, b, c, (fq 3).trans a2, (fq 4).trans b2, (fq 6).trans c2, ra, rb⟩) l213) ?_
  intro N4 ρ4 ν4 v h4 u4 n4 x4 hA4 hH4 hF4 hP4 V2
  obtain ⟨nd, rd⟩ := lYd0_f_1469n
  obtain ⟨r, hr⟩ : ∃ r : Int32, v = .int r := by
    first
      | (obtain ⟨r, h0, hr, -⟩ := V2; cases hr; exact ⟨r, rfl⟩)
      | (obtain ⟨r, hr, -⟩ := V2; cases hr; exact ⟨r, rfl⟩)
  subst hr
  have b7 : (h4.length : Int) - h3.length ≤ 7 := Int.le_trans (hA4.cost (by decide +kernel)).1 (by decide +kernel)
  have b8 : (u4 : Int) - u3 ≤ 158 := Int.le_trans (hA4.cost (by decide +kernel)).2 (by decide +kernel)
  obtain ⟨z1, z2, z3, z4⟩ := (by
    obtain ⟨y2, y3, y4⟩ := sum_held rc4 rc6 rc7 (by obtain ⟨⟨l0, l01, -⟩, -⟩ := rl_at hH1 hR1.1 rc3 rc2; exact gN_lt l01) hp hl1 hl2 hl3 V1 hE V2
    exact ⟨⟨qRFu.fr3 (hR1.2.2.2.2.2.1) hR1.2.2.2.2.1 hR1.1 hH1 hF2 (by decide +kernel) hS2 hRo2 hH2 hF3 hS3 (hRo2.pre hP3) hH3 hF4 (by decide +kernel), qRDy.fr3 (hR1.2.2.2.2.2.2.1) hR1.2.2.2.2.1 hR1.1 hH1 hF2 (by decide +kernel) hS2 hRo2 hH2 hF3 hS3 (hRo2.pre hP3) hH3 hF4 (by decide +kernel), qRp.fr3 (hR1.2.2.2.2.2.2.2) hR1.2.2.2.2.1 hR1.1 hF2 (by decide +kernel) hS2 hRo2 hF3 hS3 (hRo2.pre hP3) hF4 (by decide +kernel)⟩, y2, y3, y4⟩ : qRHe h4 ∧ gF h4 213 0 = some (.int k) ∧ (k = 0 → gF h4 238 0 = some (.long r.toInt64)) ∧ (k = 0 ∨ k = 1 ∨ k = 2))
  have hR4 : lR ρ4 ν4 h4 := ⟨(hRo2.pre hP3).pre hP4, x4 _ _ (x3 _ _ (x2 _ _ hR1.2.1)), x4 _ _ (x3 _ _ (x2 _ _ hR1.2.2.1)), x4 _ _ (x3 _ _ (x2 _ _ hR1.2.2.2.1)), hS3.fr (hRo2.pre hP3) hF4 stW_X15_held, z1⟩
  have x14 : nExt ν ν4 := x1.trans (x2.trans (x3.trans x4))
  have vk : ν4[30]? = some (.int k) := x4 _ _ (x3 _ _ hTk)
  have vr : ν4[36]? = some (.int r) := gSt_hd hA4.2.2.1 (by decide +kernel)
  have hA4 := hA4.reb rd
  show zE zrx zi 57 243 1540 lv3 _ h4 u4 lKK
  by_cases hk : k = 0
  · subst hk
    have hA6 := (((hA4.nr (lo := 0) (hi := 0) vk (by decide) (by decide)).fs (G := [(2, 2, 0, 30, 0)]) (fun f hf => by
      rw [List.mem_singleton.mp hf]
      exact fH2 hR4.2.2.1 z2 vk)).nw (t := (1, 0, 0)) (v := .long r.toInt64) (G := [(2, 3, 0, 37, 0), (17, 37, 36, 0, 0)]) ⟨_, rfl⟩ (fun f hf => by
      have hl : ν4.length = 37 := by
        rw [← hA4.1.1]
        exact nd
      have vl : (ν4 ++ [Value.long r.toInt64])[37]? = some (.long r.toInt64) := by
        rw [← hl]
        exact nNew _ _
      rcases List.mem_cons.mp hf with rfl | hf
      · exact fH2 (nExt_app _ _ _ _ hR4.2.2.2.1) (z3 rfl) vl
      · rw [List.mem_singleton.mp hf]
        exact ⟨r, nExt_app _ _ _ _ vr, vl⟩))
    refine seg wT_ok lC_f_ok 3000 lY3_f_1469_0 (Nat.le_refl _) (x14.trans (nExt_app _ _)) hlen hA6 rfl rfl hH4 (by omega) (by omega) ?_
    intro x hx N5 ρ5 ν5 lv5 st5 h5 u5 x5 hA5 hH5 hF5 hP5
    rw [List.mem_singleton.mp hx] at hA5 ⊢
    clear hx x
    dsimp only at hA5 ⊢
    have b9 : (h5.length : Int) - h4.length ≤ 0 := Int.le_trans (hA5.cost (by decide +kernel)).1 (by decide +kernel)
    have c1 : (u5 : Int) - u4 ≤ 0 := Int.le_trans (hA5.cost (by decide +kernel)).2 (by decide +kernel)
    obtain ⟨j, j1, j2⟩ := l_i hA5 rfl rfl (x5 _ _ v4)
    exact l_next (g := true) ih [0, 1, 2, 3, 15, 5, 6, 7, 8, 9, 10, 11, 12, 13, 14] (by decide +kernel) (by decide +kernel) hA5 rfl hH5 rfl rfl rfl rfl j1 (x5 _ _ v7) (x5 _ _ v9) (x5 _ _ v11) (acc.dear j2 (by omega) (by omega) true (fun z => z)) (by omega) rfl rfl rfl (lR.fr ⟨hR4.1, x5 _ _ (hR.2.1), x5 _ _ (hR.2.2.1), x5 _ _ (hR.2.2.2.1), hR4.2.2.2.2⟩ hH4 hF5 hP5 (nExt.refl ν5) stW_nil rW_nil)
  · have hk2 : 1 ≤ k.toInt ∧ k.toInt ≤ 2 := by
      have kk1 : 0 ≤ k.toInt := kk1
      have kk2 : k.toInt ≤ 2 := kk2
      have : ¬ k.toInt = 0 := fun z => hk (Int32.toInt_inj.mp z)
      omega
    have hA6 := (hA4.nr (lo := 1) (hi := 2) vk hk2.1 hk2.2).fs (G := [(2, 2, 0, 30, 0)]) (fun f hf => by
      rw [List.mem_singleton.mp hf]
      exact fH2 hR4.2.2.1 z2 vk)
    refine seg wT_ok lC_f_ok 3000 lY4_f_1469_0 (Nat.le_refl _) x14 hlen hA6 rfl rfl hH4 (by omega) (by omega) ?_
    intro x hx N5 ρ5 ν5 lv5 st5 h5 u5 x5 hA5 hH5 hF5 hP5
    rw [List.mem_singleton.mp hx] at hA5 ⊢
    clear hx x
    dsimp only at hA5 ⊢
    have b9 : (h5.length : Int) - h4.length ≤ 0 := Int.le_trans (hA5.cost (by decide +kernel)).1 (by decide +kernel)
    have c1 : (u5 : Int) - u4 ≤ 0 := Int.le_trans (hA5.cost (by decide +kernel)).2 (by decide +kernel)
    obtain ⟨j, j1, j2⟩ := l_i hA5 rfl rfl (x5 _ _ v4)
    exact l_next (g := true) ih [0, 1, 2, 3, 15, 5, 6, 7, 8, 9, 10, 11, 12, 13, 14] (by decide +kernel) (by decide +kernel) hA5 rfl hH5 rfl rfl rfl rfl j1 (x5 _ _ v7) (x5 _ _ v9) (x5 _ _ v11) (acc.dear j2 (by omega) (by omega) true (fun z => z)) (by omega) rfl rfl rfl (lR.fr ⟨hR4.1, x5 _ _ (hR.2.1), x5 _ _ (hR.2.2.1), x5 _ _ (hR.2.2.2.1), hR4.2.2.2.2⟩ hH4 hF5 hP5 (nExt.refl ν5) stW_nil rW_nil)
