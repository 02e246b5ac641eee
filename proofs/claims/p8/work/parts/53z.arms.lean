/-! ===== the relation of this part ===== -/
abbrev lRr (h : List zC) : Prop := qCl h
theorem stW_nil : stL.all (fun e => match rho0[e.1]? with | some r => !(wIn [] r e.2.1) | none => false) = true := by decide +kernel
theorem stW_l : stL.all (fun e => match rho0[e.1]? with | some r => !(wIn lWr r e.2.1) | none => false) = true := by decide +kernel
theorem stW_L_amend : stL.all (fun e => match rho0[e.1]? with | some r => !(wIn k_L_amend.2.2.2.1 r e.2.1) | none => false) = true := by decide +kernel
theorem stW_L_feed : stL.all (fun e => match rho0[e.1]? with | some r => !(wIn k_L_feed.2.2.2.1 r e.2.1) | none => false) = true := by decide +kernel
theorem stW_L_mood : stL.all (fun e => match rho0[e.1]? with | some r => !(wIn k_L_mood.2.2.2.1 r e.2.1) | none => false) = true := by decide +kernel
theorem stW_L_pass : stL.all (fun e => match rho0[e.1]? with | some r => !(wIn k_L_pass.2.2.2.1 r e.2.1) | none => false) = true := by decide +kernel
theorem stW_L_pledge : stL.all (fun e => match rho0[e.1]? with | some r => !(wIn k_L_pledge.2.2.2.1 r e.2.1) | none => false) = true := by decide +kernel
theorem stW_L_repeal : stL.all (fun e => match rho0[e.1]? with | some r => !(wIn k_L_repeal.2.2.2.1 r e.2.1) | none => false) = true := by decide +kernel
theorem stW_L_seats : stL.all (fun e => match rho0[e.1]? with | some r => !(wIn k_L_seats.2.2.2.1 r e.2.1) | none => false) = true := by decide +kernel
theorem stW_L_taste : stL.all (fun e => match rho0[e.1]? with | some r => !(wIn k_L_taste.2.2.2.1 r e.2.1) | none => false) = true := by decide +kernel
theorem stW_L_vote : stL.all (fun e => match rho0[e.1]? with | some r => !(wIn k_L_vote.2.2.2.1 r e.2.1) | none => false) = true := by decide +kernel
theorem stW_L_write : stL.all (fun e => match rho0[e.1]? with | some r => !(wIn k_L_write.2.2.2.1 r e.2.1) | none => false) = true := by decide +kernel
theorem stW_X15_amend_Le : stL.all (fun e => match rho0[e.1]? with | some r => !(wIn k_X15_amend_Le.2.2.2.1 r e.2.1) | none => false) = true := by decide +kernel
theorem stW_X15_amend_Lf : stL.all (fun e => match rho0[e.1]? with | some r => !(wIn k_X15_amend_Lf.2.2.2.1 r e.2.1) | none => false) = true := by decide +kernel
theorem stW_X15_feed_Le : stL.all (fun e => match rho0[e.1]? with | some r => !(wIn k_X15_feed_Le.2.2.2.1 r e.2.1) | none => false) = true := by decide +kernel
theorem stW_X15_feed_Lf : stL.all (fun e => match rho0[e.1]? with | some r => !(wIn k_X15_feed_Lf.2.2.2.1 r e.2.1) | none => false) = true := by decide +kernel
theorem stW_X15_mood : stL.all (fun e => match rho0[e.1]? with | some r => !(wIn k_X15_mood.2.2.2.1 r e.2.1) | none => false) = true := by decide +kernel
theorem stW_X15_pass : stL.all (fun e => match rho0[e.1]? with | some r => !(wIn k_X15_pass.2.2.2.1 r e.2.1) | none => false) = true := by decide +kernel
theorem stW_X15_pledge : stL.all (fun e => match rho0[e.1]? with | some r => !(wIn k_X15_pledge.2.2.2.1 r e.2.1) | none => false) = true := by decide +kernel
theorem stW_X15_repeal : stL.all (fun e => match rho0[e.1]? with | some r => !(wIn k_X15_repeal.2.2.2.1 r e.2.1) | none => false) = true := by decide +kernel
theorem stW_X15_seats : stL.all (fun e => match rho0[e.1]? with | some r => !(wIn k_X15_seats.2.2.2.1 r e.2.1) | none => false) = true := by decide +kernel
theorem stW_X15_taste : stL.all (fun e => match rho0[e.1]? with | some r => !(wIn k_X15_taste.2.2.2.1 r e.2.1) | none => false) = true := by decide +kernel
theorem stW_X15_vote : stL.all (fun e => match rho0[e.1]? with | some r => !(wIn k_X15_vote.2.2.2.1 r e.2.1) | none => false) = true := by decide +kernel
theorem stW_X15_write_Le : stL.all (fun e => match rho0[e.1]? with | some r => !(wIn k_X15_write_Le.2.2.2.1 r e.2.1) | none => false) = true := by decide +kernel
theorem stW_X15_write_Lf : stL.all (fun e => match rho0[e.1]? with | some r => !(wIn k_X15_write_Lf.2.2.2.1 r e.2.1) | none => false) = true := by decide +kernel
theorem rW_nil : wCl ([] : List (Nat × Nat)) = true := by decide +kernel
theorem rW_l : wCl lWr = true := by decide +kernel
def lR (ρ : List Nat) (ν : List Value) (h : List zC) : Prop := Ro ρ ∧ ν[1]? = some (.ref 16) ∧ ν[2]? = some (.ref 213) ∧ ν[3]? = some (.ref 238) ∧ Stc h ∧ lRr h
theorem lR.fr {Wr : List (Nat × Nat)} {hb : Nat} {N : Int} {ρ ρ' : List Nat} {ν ν' : List Value} {h h' : List zC} (hR : lR ρ ν h) (hH : tHeap wT N ρ h) (hF : gFr Wr ρ h h') (hP : gPre hb ρ ρ') (hν : nExt ν ν') (hw : stL.all (fun e => match rho0[e.1]? with | some r => !(wIn Wr r e.2.1) | none => false) = true) (hw2 : wCl Wr = true) : lR ρ' ν' h' :=
  ⟨hR.1.pre hP, hν _ _ hR.2.1, hν _ _ hR.2.2.1, hν _ _ hR.2.2.2.1, hR.2.2.2.2.1.fr hR.1 hF hw, hR.2.2.2.2.2.fr hR.2.2.2.2.1 hR.1 hH hF hw2⟩
/-- the law's rows that are gone through by hand -/
theorem vr_243_616 : zrx 243 616 = some (.invokestatic 168, 214, 2) := by decide +kernel
theorem vr_243_628 : zrx 243 628 = some (.invokevirtual 171, 160, 190) := by decide +kernel
theorem vr_243_667 : zrx 243 667 = some (.invokestatic 175, 215, 2) := by decide +kernel
theorem vr_243_673 : zrx 243 673 = some (.invokevirtual 178, 161, 190) := by decide +kernel
theorem vr_243_689 : zrx 243 689 = some (.invokestatic 179, 216, 2) := by decide +kernel
theorem vr_243_701 : zrx 243 701 = some (.invokevirtual 181, 162, 190) := by decide +kernel
theorem vr_243_729 : zrx 243 729 = some (.invokestatic 182, 217, 2) := by decide +kernel
theorem vr_243_753 : zrx 243 753 = some (.invokevirtual 184, 163, 190) := by decide +kernel
theorem vr_243_781 : zrx 243 781 = some (.invokestatic 185, 218, 2) := by decide +kernel
theorem vr_243_805 : zrx 243 805 = some (.invokevirtual 187, 164, 190) := by decide +kernel
theorem vr_243_827 : zrx 243 827 = some (.invokestatic 188, 219, 2) := by decide +kernel
theorem vr_243_845 : zrx 243 845 = some (.invokevirtual 190, 165, 190) := by decide +kernel
theorem vr_243_867 : zrx 243 867 = some (.invokestatic 191, 220, 2) := by decide +kernel
theorem vr_243_885 : zrx 243 885 = some (.invokevirtual 193, 166, 190) := by decide +kernel
theorem vr_243_901 : zrx 243 901 = some (.invokestatic 194, 221, 2) := by decide +kernel
theorem vr_243_913 : zrx 243 913 = some (.invokevirtual 196, 170, 190) := by decide +kernel
theorem vr_243_929 : zrx 243 929 = some (.invokestatic 197, 222, 2) := by decide +kernel
theorem vr_243_941 : zrx 243 941 = some (.invokevirtual 199, 171, 190) := by decide +kernel
theorem vr_243_1065 : zrx 243 1065 = some (.invokestatic 209, 226, 2) := by decide +kernel
theorem vr_243_1077 : zrx 243 1077 = some (.invokevirtual 211, 176, 190) := by decide +kernel
/-! ===== the law's loop: the turns one after another ===== -/
def lIH (n : Nat) : Prop := ∀ (f : Bool) (N : Int) (ρ : List Nat) (ν : List Value) (lv : List (Nat × Value)) (h : List zC) (u : Nat) (i R C A : Int32) (F : Int), gA h.length u ρ ν (lS f) lv [] h u → tHeap wT N ρ h → ν[4]? = some (.int i) → ν[7]? = some (.int R) → ν[9]? = some (.int C) → ν[11]? = some (.int A) →
  lAcc f h.length u i.toInt R.toInt C.toInt A.toInt F → 4104 - i.toInt ≤ n → lR ρ ν h → zE zrx zi 57 243 27 lv [] h u lKK
theorem l_next {n hb ub : Nat} {g : Bool} {S : sS} {N : Int} {ρ : List Nat} {ν : List Value} {lv : List (Nat × Value)} {st : List Value} {h : List zC} {u m4 m7 m9 m11 : Nat} {i R C A : Int32} {F : Int} (ih : lIH n) (m : List Nat) (h7 : S.2.2.2.1.all (fun f => !(f.1 == 7)) = true) (hm : mOk m (S.1, S.2.1, S.2.2.1, S.2.2.2.1, 0, 0, []) (lS g) = true) (hA : gA hb ub ρ ν S lv st h u) (hs : S.2.2.1 = []) (hH : tHeap wT N ρ h)
    (e4 : m[4]? = some m4) (e7 : m[7]? = some m7) (e9 : m[9]? = some m9) (e11 : m[11]? = some m11) (v4 : ν[m4]? = some (.int i)) (v7 : ν[m7]? = some (.int R)) (v9 : ν[m9]? = some (.int C)) (v11 : ν[m11]? = some (.int A)) (acc : lAcc g h.length u i.toInt R.toInt C.toInt A.toInt F) (hn : 4104 - i.toInt ≤ n) (e1 : m[1]? = some 1) (e2 : m[2]? = some 2) (e3 : m[3]? = some 3) (hR : lR ρ ν h) : zE zrx zi 57 243 27 lv st h u lKK := by
  obtain ⟨b1, b2⟩ := hA.rebase m h7 hm
  have hT := hA.2.2.1
  rw [hs] at hT
  have e : st = [] := by
    unfold gSt at hT
    cases st with
    | nil => rfl
    | cons x r => simp at hT
  subst e
  have get : ∀ {s x : Nat} {v : Value}, m[s]? = some x → ν[x]? = some v → (mv ν m)[s]? = some v := fun q1 q2 => by
    obtain ⟨v, w1, w2⟩ := b2 _ _ q1
    rw [q2] at w1
    cases w1
    exact w2
  exact ih g N ρ (mv ν m) lv h u i R C A F b1 hH (get e4 v4) (get e7 v7) (get e9 v9) (get e11 v11) acc hn ⟨hR.1, get e1 hR.2.1, get e2 hR.2.2.1, get e3 hR.2.2.2.1, hR.2.2.2.2⟩
/-- the place behind a turn -/
theorem l_i {hb ub : Nat} {S : sS} {ρ : List Nat} {ν : List Value} {lv : List (Nat × Value)} {st : List Value} {h : List zC} {u : Nat} {i : Int32} (hA : gA hb ub ρ ν S lv st h u) (f1 : S.2.2.2.1[13]? = some (0, 15, 4, 0, 8)) (f2 : S.2.2.2.1[14]? = some (0, 4, 15, 0, -8)) (v4 : ν[4]? = some (.int i)) : ∃ i' : Int32, ν[15]? = some (.int i') ∧ i'.toInt = i.toInt + 8 := by
  obtain ⟨x, y, a1, a2, a3⟩ := fAt 13 hA f1
  obtain ⟨x2, y2, b1, b2, b3⟩ := fAt 14 hA f2
  dsimp only at a1 a2 a3 b1 b2 b3
  rw [v4] at a2 b1
  cases a2
  cases b1
  rw [a1] at b2
  cases b2
  exact ⟨x, a1, by omega⟩
/-- one more of a size -/
theorem l_one {hb ub k : Nat} {S : sS} {ρ : List Nat} {ν : List Value} {lv : List (Nat × Value)} {st : List Value} {h : List zC} {u : Nat} {R : Int32} (hA : gA hb ub ρ ν S lv st h u) (f1 : S.2.2.2.1[16]? = some (0, 16, k, 0, 1)) (f2 : S.2.2.2.1[17]? = some (0, k, 16, 0, -1)) (v : ν[k]? = some (.int R)) : ∃ R' : Int32, ν[16]? = some (.int R') ∧ R'.toInt = R.toInt + 1 := by
  obtain ⟨x, y, a1, a2, a3⟩ := fAt 16 hA f1
  obtain ⟨x2, y2, b1, b2, b3⟩ := fAt 17 hA f2
  dsimp only at a1 a2 a3 b1 b2 b3
  rw [v] at a2 b1
  cases a2
  cases b1
  rw [a1] at b2
  cases b2
  exact ⟨x, a1, by omega⟩
theorem lD_lo (R C A : Int) : 11800 ≤ lD R C A ∧ 6030 + 72 * R + 207 * C + 169 * A ≤ lD R C A ∧ 110 ≤ lDc R C A ∧ 170 + 6 * R + 18 * C + 13 * A ≤ lDc R C A := by
  unfold lD lDc
  obtain ⟨a1, a2, -⟩ := iMx_ok 11800 (6030 + 72 * R + 207 * C + 169 * A)
  obtain ⟨c1, c2, -⟩ := iMx_ok 110 (170 + 6 * R + 18 * C + 13 * A)
  exact ⟨a1, a2, c1, c2⟩
def lT_eza : sS := ([(3, 0, 0), (3, 8, 0), (3, 40, 0), (3, 36, 0), (0, 0, 4096), (0, 0, 4096), (3, 45, 0), (0, 0, 40), (3, 48, 0), (0, 0, 24), (3, 51, 0), (0, 0, 24), (0, 0, 4096), (0, 0, 4096), (3, 1, 0), (0, 0, 4096)], [(0, 0), (1, 1), (2, 2), (3, 3), (4, 15)], [], [(3, 0, 5, 0, 0), (2, 2, 7, 6, 0), (2, 6, 2, 7, 0), (2, 2, 8, 8, 0), (2, 8, 2, 9, 0), (2, 2, 9, 10, 0), (2, 10, 2, 11, 0), (2, 1, 1, 12, 0), (2, 2, 3, 13, 0), (0, 12, 13, 0, 0), (0, 13, 12, 0, 0), (2, 2, 10, 14, 0), (0, 15, 5, 0, 0), (0, 15, 4, 0, 8), (0, 4, 15, 0, -8), (0, 12, 15, 0, 0), (0, 13, 15, 0, 0)], 0, 0, [])
def lT_eze : sS := ([(3, 0, 0), (3, 8, 0), (3, 40, 0), (3, 36, 0), (0, 0, 4096), (0, 0, 4096), (3, 45, 0), (0, 0, 40), (3, 48, 0), (0, 0, 24), (3, 51, 0), (0, 0, 24), (0, 0, 4096), (0, 0, 4096), (3, 1, 0), (0, 0, 4096), (3, 1, 0)], [(0, 0), (1, 1), (2, 2), (3, 3), (4, 15)], [], [(3, 0, 5, 0, 0), (2, 2, 7, 6, 0), (2, 6, 2, 7, 0), (2, 2, 8, 8, 0), (2, 8, 2, 9, 0), (2, 2, 9, 10, 0), (2, 10, 2, 11, 0), (2, 1, 1, 12, 0), (2, 2, 3, 13, 0), (0, 12, 13, 0, 0), (0, 13, 12, 0, 0), (2, 2, 10, 16, 0), (0, 15, 5, 0, 0), (0, 15, 4, 0, 8), (0, 4, 15, 0, -8), (0, 12, 15, 0, 0), (0, 13, 15, 0, 0)], 0, 0, [])
def lT_ezf : sS := ([(3, 0, 0), (3, 8, 0), (3, 40, 0), (3, 36, 0), (0, 0, 4096), (0, 0, 4096), (3, 45, 0), (0, 0, 40), (3, 48, 0), (0, 0, 24), (3, 51, 0), (0, 0, 24), (0, 0, 4096), (0, 0, 4096), (3, 1, 0), (0, 0, 4096), (3, 56, 0)], [(0, 0), (1, 1), (2, 2), (3, 3), (4, 15)], [], [(3, 0, 5, 0, 0), (2, 2, 7, 6, 0), (2, 6, 2, 7, 0), (2, 2, 8, 8, 0), (2, 8, 2, 9, 0), (2, 2, 9, 10, 0), (2, 10, 2, 11, 0), (2, 1, 1, 12, 0), (2, 2, 3, 13, 0), (0, 12, 13, 0, 0), (0, 13, 12, 0, 0), (2, 2, 10, 16, 0), (0, 15, 5, 0, 0), (0, 15, 4, 0, 8), (0, 4, 15, 0, -8), (0, 12, 15, 0, 0), (0, 13, 15, 0, 0)], 0, 0, [])
def lYa_e_608 : sS := ([(3, 0, 0), (3, 8, 0), (3, 40, 0), (3, 36, 0), (0, 0, 4088), (0, 8, 4096), (3, 45, 0), (0, 0, 40), (3, 48, 0), (0, 0, 24), (3, 51, 0), (0, 0, 24), (0, 0, 4088), (0, 0, 4088), (3, 1, 0), (0, 1, 1), (0, 1, 4089), (0, -2147483648, 2147483647)], [(0, 0), (1, 1), (2, 2), (3, 3), (4, 4)], [3, 17, 1], [(4, 0, 16, 17, 0), (0, 16, 4, 0, 1), (0, 4, 16, 0, -1), (0, 4, 5, 0, -8), (3, 0, 5, 0, 0), (2, 2, 7, 6, 0), (2, 6, 2, 7, 0), (2, 2, 8, 8, 0), (2, 8, 2, 9, 0), (2, 2, 9, 10, 0), (2, 10, 2, 11, 0), (2, 1, 1, 12, 0), (2, 2, 3, 13, 0), (0, 12, 13, 0, 0), (0, 13, 12, 0, 0), (2, 2, 10, 14, 0), (0, 12, 4, 0, 0), (0, 13, 4, 0, 0)], 0, 0, [])
def lYb_e_608 : sS := vZ (cvS zi lYa_e_608 k_L_feed (cx1 k_L_feed))
def lYc_e_608 : sS := ([(3, 0, 0), (3, 8, 0), (3, 40, 0), (3, 36, 0), (0, 0, 4088), (0, 8, 4096), (3, 45, 0), (0, 0, 40), (3, 48, 0), (0, 0, 24), (3, 51, 0), (0, 0, 24), (0, 0, 4088), (0, 0, 4088), (3, 1, 0), (0, 1, 1), (0, 1, 4089), (0, -2147483648, 2147483647), (0, 0, 2), (0, 1, 1)], [(5, 18), (0, 0), (1, 1), (2, 2), (3, 3), (4, 4)], [17, 2], [(4, 0, 16, 17, 0), (0, 16, 4, 0, 1), (0, 4, 16, 0, -1), (0, 4, 5, 0, -8), (3, 0, 5, 0, 0), (2, 2, 7, 6, 0), (2, 6, 2, 7, 0), (2, 2, 8, 8, 0), (2, 8, 2, 9, 0), (2, 2, 9, 10, 0), (2, 10, 2, 11, 0), (2, 1, 1, 12, 0), (2, 2, 3, 13, 0), (0, 12, 13, 0, 0), (0, 13, 12, 0, 0), (2, 2, 10, 14, 0), (0, 12, 4, 0, 0), (0, 13, 4, 0, 0)], 0, 0, [])
theorem lY1_e_608 : chk zrx zi wT (wRo wSites_15) (wRo wTags_15) lC_e [] 0 0 15 3000 false [(616, lYa_e_608, [])] none 57 243 608 (vZ lM_e) (fun _ _ => false) = true := by decide +kernel
theorem lY2_e_608 : chk zrx zi wT (wRo wSites_15) (wRo wTags_15) lC_e [] 0 0 19 3000 false [(628, lYc_e_608, [])] none 57 243 619 lYb_e_608 (fun _ _ => false) = true := by decide +kernel
theorem lV1_e_608 : cvOk zrx zi wT 243 616 56 lYa_e_608 k_L_feed = true := by decide +kernel
theorem lV2_e_608 : cvOk zrx zi wT 243 628 56 lYc_e_608 k_X15_feed_Le = true := by decide +kernel
theorem lYk_e_608 : sGet lYb_e_608.1 18 = (0, 0, 2) := by decide +kernel
theorem lYn_e_608 : lYb_e_608.1.length = 19 := by decide +kernel
theorem lYr_e_608 : (vZ lM_e).2.2.2.1.all (fun f => !(f.1 == 7)) = true ∧ lYa_e_608.2.2.2.1.all (fun f => !(f.1 == 7)) = true ∧ (cvS zi lYa_e_608 k_L_feed (cx1 k_L_feed)).2.2.2.1.all (fun f => !(f.1 == 7)) = true ∧ lYc_e_608.2.2.2.1.all (fun f => !(f.1 == 7)) = true := by decide +kernel
def lYd0_e_608 : sS := vZ (cvS zi lYc_e_608 k_X15_feed_Le (cxi k_X15_feed_Le 0))
theorem lYd0_e_608n : lYd0_e_608.1.length = 23 ∧ (cvS zi lYc_e_608 k_X15_feed_Le (cxi k_X15_feed_Le 0)).2.2.2.1.all (fun f => !(f.1 == 7)) = true := by decide +kernel
def lYf0_e_608 : sS := sNw (sFs (sNr lYd0_e_608 18 0 0) [(2, 2, 0, 18, 0)]) (1, 0, 0) [(2, 3, 0, 23, 0), (17, 23, 20, 0, 0)]
def lYg0_e_608 : sS := sFs (sNr lYd0_e_608 18 1 2) [(2, 2, 0, 18, 0)]
theorem lY3_e_608_0 : chk zrx zi wT (wRo wSites_15) (wRo wTags_15) lC_e [] 0 0 15 3000 false [(27, lT_ezf, [])] none 57 243 631 lYf0_e_608 (fun _ _ => false) = true := by decide +kernel
theorem lY4_e_608_0 : chk zrx zi wT (wRo wSites_15) (wRo wTags_15) lC_e [] 0 0 15 3000 false [(27, lT_ezf, [])] none 57 243 631 lYg0_e_608 (fun _ _ => false) = true := by decide +kernel
def lYd1_e_608 : sS := vZ (cvS zi lYc_e_608 k_X15_feed_Le (cxi k_X15_feed_Le 1))
theorem lYd1_e_608n : lYd1_e_608.1.length = 22 ∧ (cvS zi lYc_e_608 k_X15_feed_Le (cxi k_X15_feed_Le 1)).2.2.2.1.all (fun f => !(f.1 == 7)) = true := by decide +kernel
def lYf1_e_608 : sS := sNw (sFs (sNr lYd1_e_608 18 0 0) [(2, 2, 0, 18, 0)]) (1, 0, 0) [(2, 3, 0, 22, 0), (17, 22, 20, 0, 0)]
def lYg1_e_608 : sS := sFs (sNr lYd1_e_608 18 1 2) [(2, 2, 0, 18, 0)]
theorem lY3_e_608_1 : chk zrx zi wT (wRo wSites_15) (wRo wTags_15) lC_e [] 0 0 15 3000 false [(27, lT_eza, [])] none 57 243 631 lYf1_e_608 (fun _ _ => false) = true := by decide +kernel
theorem lY4_e_608_1 : chk zrx zi wT (wRo wSites_15) (wRo wTags_15) lC_e [] 0 0 15 3000 false [(27, lT_eza, [])] none 57 243 631 lYg1_e_608 (fun _ _ => false) = true := by decide +kernel
set_option maxRecDepth 20000 in
theorem lA_e_608 {n : Nat} (ih : lIH n) {hb ub : Nat} {N : Int} {ρ : List Nat} {ν : List Value} {lv : List (Nat × Value)} {st : List Value} {h : List zC} {u : Nat} {i R C A : Int32} {F : Int} (hA : gA hb ub ρ ν lM_e lv st h u) (hH : tHeap wT N ρ h) (v4 : ν[4]? = some (.int i)) (v7 : ν[7]? = some (.int R)) (v9 : ν[9]? = some (.int C)) (v11 : ν[11]? = some (.int A))
    (i4 : i.toInt ≤ 4096) (acc : lAcc false hb ub i.toInt R.toInt C.toInt A.toInt F) (rm1 : (ub : Int) + 17920 ≤ zSN) (rm2 : (hb : Int) + 1152 ≤ zCM) (hn : 4104 - i.toInt ≤ (n + 1 : Nat)) (hR : lR ρ ν h) : zE zrx zi 57 243 608 lv st h u lKK := by
  obtain ⟨dl1, dl2, dl3, dl4⟩ := lD_lo R.toInt C.toInt A.toInt
  obtain ⟨r0, ra, rb, rc⟩ := lYr_e_608
  have q0 : (h.length : Int) - hb ≤ 0 := hA.2.2.2.2.1
  have q1 : (u : Int) - ub ≤ 0 := hA.2.2.2.2.2
  have hlen : ν.length ≤ 15 := by
    rw [← hA.1.1]
    exact Nat.le_of_eq rfl
  refine seg wT_ok lC_e_ok 3000 lY1_e_608 (Nat.le_refl _) (nExt.refl ν) hlen (hA.reb r0) rfl rfl hH (by omega) (by omega) ?_
  intro x hx N1 ρ1 ν1 lv1 st1 h1 u1 x1 hA1 hH1 hF1 hP1
  rw [List.mem_singleton.mp hx] at hA1 ⊢
  clear hx x
  dsimp only at hA1 ⊢
  have hR1 := hR.fr hH hF1 hP1 x1 stW_nil rW_nil
  have b1 : (h1.length : Int) - h.length ≤ 0 := Int.le_trans (hA1.cost (by decide +kernel)).1 (by decide +kernel)
  have b2 : (u1 : Int) - u ≤ 0 := Int.le_trans (hA1.cost (by decide +kernel)).2 (by decide +kernel)
  have hT : gSt ν1 [3, 17, 1] st1 := hA1.2.2.1
  obtain ⟨w0, sa0, ea0, o0, ha0⟩ := hT.inv
  subst ea0
  rw [hR1.2.2.2.1] at o0
  cases o0
  obtain ⟨w1, sa1, ea1, o1, ha1⟩ := ha0.inv
  subst ea1
  obtain ⟨p17, rfl, -⟩ := hA1.int o1 rfl
  obtain ⟨w2, sa2, ea2, o2, ha2⟩ := ha1.inv
  subst ea2
  rw [hR1.2.1] at o2
  cases o2
  cases ha2.nil
  obtain ⟨T, L, fs, fa, fbd, t1, t3, fm1⟩ := hR1.2.2.2.2.2.1
  obtain ⟨cnt, el, c0, c2, c1, cel, h0c, h24, -⟩ := hR1.2.2.2.2.2.2.1
  obtain ⟨dd, d1, d2⟩ := hR1.2.2.2.2.2.2.2.2
  have t2 : L ≤ 60 := fm1.l60
  refine call_val con_L_feed vr_243_616 lV1_e_608 rfl rfl (hA1.reb ra) hH1 (by have : k_L_feed.2.2.2.2.1 = 1 := rfl; omega) (by have : k_L_feed.2.2.2.2.2.1 = 6 := rfl; omega) rfl (fun n => C_Lfeed n p17 h1 u1 hR1.2.2.2.2.1 t1 t2) ?_
  intro N2 ρ2 ν2 v h2 u2 n2 x2 hA2 hH2 hF2 hP2 V1
  obtain ⟨k, hk, V1⟩ := V1
  cases hk
  have V1 : Q_Lfeed L p17 h1 (.inl (some (.int k))) h2 u2 := ⟨k, rfl, V1⟩
  have b3 : (h2.length : Int) - h1.length ≤ 1 := Int.le_trans (hA2.cost (by decide +kernel)).1 (by decide +kernel)
  have b4 : (u2 : Int) - u1 ≤ 6 := Int.le_trans (hA2.cost (by decide +kernel)).2 (by decide +kernel)
  have hTk : ν2[18]? = some (.int k) := gSt_hd hA2.2.2.1 (by decide +kernel)
  have hB2 : gA h2.length u2 ρ2 ν2 lYb_e_608 lv1 _ h2 u2 := hA2.reb rb
  obtain ⟨k', ek, kk1, kk2⟩ := hB2.int hTk (by rw [lYk_e_608])
  cases ek
  rw [lYk_e_608] at kk1 kk2
  have hlen2 : ν2.length ≤ 19 := by
    rw [← hA2.1.1]
    exact Nat.le_of_eq lYn_e_608
  have hS2 : Stc h2 := hR1.2.2.2.2.1.fr hR1.1 hF2 stW_L_feed
  have hRo2 : Ro ρ2 := hR1.1.pre hP2
  show zE zrx zi 57 243 619 lv1 _ h2 u2 lKK
  refine seg wT_ok lC_e_ok 3000 lY2_e_608 (Nat.le_refl _) (nExt.refl ν2) hlen2 (hA2.reb rb) rfl rfl hH2 (by omega) (by omega) ?_
  intro x hx N3 ρ3 ν3 lv3 st3 h3 u3 x3 hA3 hH3 hF3 hP3
  rw [List.mem_singleton.mp hx] at hA3 ⊢
  clear hx x
  dsimp only at hA3 ⊢
  have hS3 : Stc h3 := hS2.fr hRo2 hF3 stW_nil
  have b5 : (h3.length : Int) - h2.length ≤ 0 := Int.le_trans (hA3.cost (by decide +kernel)).1 (by decide +kernel)
  have b6 : (u3 : Int) - u2 ≤ 0 := Int.le_trans (hA3.cost (by decide +kernel)).2 (by decide +kernel)
  have hE : ∀ p, p < h2.length → ∀ k, gF h3 p k = gF h2 p k := fun p hp k => gFr_F0 hF3 hH2.1 hp k
  have hT : gSt ν3 [17, 2] st3 := hA3.2.2.1
  obtain ⟨w0, sb0, eb0, c0, hb0⟩ := hT.inv
  subst eb0
  rw [x3 _ _ (x2 _ _ o1)] at c0
  cases c0
  obtain ⟨w1, sb1, eb1, c1, hb1⟩ := hb0.inv
  subst eb1
  rw [x3 _ _ (x2 _ _ hR1.2.2.1)] at c1
  cases c1
  cases hb1.nil
  have hl1 := hR1.2.2.2.2.1.1
  have hl2 := gFr_len hF2
  have hl3 := gFr_len hF3
  have ro3 : Ro ρ3 := hRo2.pre hP3
  have fm2 := fm1.fr hR1.2.2.2.2.1.1 hR1.1 hH1 hF2 (by decide +kernel)
  have fm3 := fm2.fr hS2.1 hRo2 hH2 hF3 (by decide)
  obtain ⟨fb, sb3⟩ := fm3.sb hH3 ro3
  refine call_valn con_X15_feed_Le vr_243_628 lV2_e_608 (by decide +kernel) (hA3.reb rc) hH3 (by have : k_X15_feed_Le.2.2.2.2.1 = 4 := rfl; omega) (by have : k_X15_feed_Le.2.2.2.2.2.1 = 25 := rfl; omega) rfl (fun n => C_mfeed n p17 h3 u3 hS3.1 sb3 fm3.2.1) ?_
  refine ends2 rfl ?_ ?_
  · intro N4 ρ4 ν4 v h4 u4 n4 x4 hA4 hH4 hF4 hP4 V2
    obtain ⟨nd, rd⟩ := lYd0_e_608n
    obtain ⟨r, hr⟩ : ∃ r : Int32, v = .int r := by
      first
        | (obtain ⟨r, h0, hr, -⟩ := V2; cases hr; exact ⟨r, rfl⟩)
        | (obtain ⟨r, hr, -⟩ := V2; cases hr; exact ⟨r, rfl⟩)
    subst hr
    have b7 : (h4.length : Int) - h3.length ≤ 4 := Int.le_trans (hA4.cost (by decide +kernel)).1 (by decide +kernel)
    have b8 : (u4 : Int) - u3 ≤ 25 := Int.le_trans (hA4.cost (by decide +kernel)).2 (by decide +kernel)
    obtain ⟨z1, z2, z3, z4⟩ := (by
    obtain ⟨y1, y2, y3, y4⟩ := sum_feed t1 t3 fm3 hl1 hl2 hl3 V1 hE V2
    exact ⟨⟨y1, qAR.fr3 (hR1.2.2.2.2.2.2.1) hR1.2.2.2.2.1 hR1.1 hH1 hF2 (by decide +kernel) hS2 hRo2 hH2 hF3 hS3 (hRo2.pre hP3) hH3 hF4 (by decide +kernel), qHO.fr3 (hR1.2.2.2.2.2.2.2.1) hR1.2.2.2.2.1 hR1.1 hH1 hF2 (by decide +kernel) hS2 hRo2 hH2 hF3 hS3 (hRo2.pre hP3) hH3 hF4 (by decide +kernel), qRDy.fr3 (hR1.2.2.2.2.2.2.2.2) hR1.2.2.2.2.1 hR1.1 hH1 hF2 (by decide +kernel) hS2 hRo2 hH2 hF3 hS3 (hRo2.pre hP3) hH3 hF4 (by decide +kernel)⟩, y2, y3, y4⟩ : qCl h4 ∧ gF h4 213 0 = some (.int k) ∧ (k = 0 → gF h4 238 0 = some (.long r.toInt64)) ∧ (k = 0 ∨ k = 1 ∨ k = 2))
    have hR4 : lR ρ4 ν4 h4 := ⟨(hRo2.pre hP3).pre hP4, x4 _ _ (x3 _ _ (x2 _ _ hR1.2.1)), x4 _ _ (x3 _ _ (x2 _ _ hR1.2.2.1)), x4 _ _ (x3 _ _ (x2 _ _ hR1.2.2.2.1)), hS3.fr (hRo2.pre hP3) hF4 stW_X15_feed_Le, z1⟩
    have x14 : nExt ν ν4 := x1.trans (x2.trans (x3.trans x4))
    have vk : ν4[18]? = some (.int k) := x4 _ _ (x3 _ _ hTk)
    have vr : ν4[20]? = some (.int r) := gSt_hd hA4.2.2.1 (by decide +kernel)
    have hA4 := hA4.reb rd
    show zE zrx zi 57 243 631 lv3 _ h4 u4 lKK
    by_cases hk : k = 0
    · subst hk
      have hA6 := (((hA4.nr (lo := 0) (hi := 0) vk (by decide) (by decide)).fs (G := [(2, 2, 0, 18, 0)]) (fun f hf => by
        rw [List.mem_singleton.mp hf]
        exact fH2 hR4.2.2.1 z2 vk)).nw (t := (1, 0, 0)) (v := .long r.toInt64) (G := [(2, 3, 0, 23, 0), (17, 23, 20, 0, 0)]) ⟨_, rfl⟩ (fun f hf => by
        have hl : ν4.length = 23 := by
          rw [← hA4.1.1]
          exact nd
        have vl : (ν4 ++ [Value.long r.toInt64])[23]? = some (.long r.toInt64) := by
          rw [← hl]
          exact nNew _ _
        rcases List.mem_cons.mp hf with rfl | hf
        · exact fH2 (nExt_app _ _ _ _ hR4.2.2.2.1) (z3 rfl) vl
        · rw [List.mem_singleton.mp hf]
          exact ⟨r, nExt_app _ _ _ _ vr, vl⟩))
      refine seg wT_ok lC_e_ok 3000 lY3_e_608_0 (Nat.le_refl _) (x14.trans (nExt_app _ _)) hlen hA6 rfl rfl hH4 (by omega) (by omega) ?_
      intro x hx N5 ρ5 ν5 lv5 st5 h5 u5 x5 hA5 hH5 hF5 hP5
      rw [List.mem_singleton.mp hx] at hA5 ⊢
      clear hx x
      dsimp only at hA5 ⊢
      have b9 : (h5.length : Int) - h4.length ≤ 0 := Int.le_trans (hA5.cost (by decide +kernel)).1 (by decide +kernel)
      have c1 : (u5 : Int) - u4 ≤ 0 := Int.le_trans (hA5.cost (by decide +kernel)).2 (by decide +kernel)
      obtain ⟨j, j1, j2⟩ := l_i hA5 rfl rfl (x5 _ _ v4)
      exact l_next (g := true) ih [0, 1, 2, 3, 15, 5, 6, 7, 8, 9, 10, 11, 12, 13, 16] (by decide +kernel) (by decide +kernel) hA5 rfl hH5 rfl rfl rfl rfl j1 (x5 _ _ v7) (x5 _ _ v9) (x5 _ _ v11) (acc.feed j2 (by omega) (by omega)) (by omega) rfl rfl rfl (lR.fr ⟨hR4.1, x5 _ _ (hR.2.1), x5 _ _ (hR.2.2.1), x5 _ _ (hR.2.2.2.1), hR4.2.2.2.2⟩ hH4 hF5 hP5 (nExt.refl ν5) stW_nil rW_nil)
    · have hk2 : 1 ≤ k.toInt ∧ k.toInt ≤ 2 := by
        have kk1 : 0 ≤ k.toInt := kk1
        have kk2 : k.toInt ≤ 2 := kk2
        have : ¬ k.toInt = 0 := fun z => hk (Int32.toInt_inj.mp z)
        omega
      have hA6 := (hA4.nr (lo := 1) (hi := 2) vk hk2.1 hk2.2).fs (G := [(2, 2, 0, 18, 0)]) (fun f hf => by
        rw [List.mem_singleton.mp hf]
        exact fH2 hR4.2.2.1 z2 vk)
      refine seg wT_ok lC_e_ok 3000 lY4_e_608_0 (Nat.le_refl _) x14 hlen hA6 rfl rfl hH4 (by omega) (by omega) ?_
      intro x hx N5 ρ5 ν5 lv5 st5 h5 u5 x5 hA5 hH5 hF5 hP5
      rw [List.mem_singleton.mp hx] at hA5 ⊢
      clear hx x
      dsimp only at hA5 ⊢
      have b9 : (h5.length : Int) - h4.length ≤ 0 := Int.le_trans (hA5.cost (by decide +kernel)).1 (by decide +kernel)
      have c1 : (u5 : Int) - u4 ≤ 0 := Int.le_trans (hA5.cost (by decide +kernel)).2 (by decide +kernel)
      obtain ⟨j, j1, j2⟩ := l_i hA5 rfl rfl (x5 _ _ v4)
      exact l_next (g := true) ih [0, 1, 2, 3, 15, 5, 6, 7, 8, 9, 10, 11, 12, 13, 16] (by decide +kernel) (by decide +kernel) hA5 rfl hH5 rfl rfl rfl rfl j1 (x5 _ _ v7) (x5 _ _ v9) (x5 _ _ v11) (acc.feed j2 (by omega) (by omega)) (by omega) rfl rfl rfl (lR.fr ⟨hR4.1, x5 _ _ (hR.2.1), x5 _ _ (hR.2.2.1), x5 _ _ (hR.2.2.2.1), hR4.2.2.2.2⟩ hH4 hF5 hP5 (nExt.refl ν5) stW_nil rW_nil)
  · intro N4 ρ4 ν4 v h4 u4 n4 x4 hA4 hH4 hF4 hP4 V2
    obtain ⟨nd, rd⟩ := lYd1_e_608n
    obtain ⟨r, hr⟩ : ∃ r : Int32, v = .int r := by
      first
        | (obtain ⟨r, h0, hr, -⟩ := V2; cases hr; exact ⟨r, rfl⟩)
        | (obtain ⟨r, hr, -⟩ := V2; cases hr; exact ⟨r, rfl⟩)
    subst hr
    have b7 : (h4.length : Int) - h3.length ≤ 0 := Int.le_trans (hA4.cost (by decide +kernel)).1 (by decide +kernel)
    have b8 : (u4 : Int) - u3 ≤ 0 := Int.le_trans (hA4.cost (by decide +kernel)).2 (by decide +kernel)
    obtain ⟨z1, z2, z3, z4⟩ := (by
    obtain ⟨y1, y2, y3, y4⟩ := sum_feed t1 t3 fm3 hl1 hl2 hl3 V1 hE V2
    exact ⟨⟨y1, qAR.fr3 (hR1.2.2.2.2.2.2.1) hR1.2.2.2.2.1 hR1.1 hH1 hF2 (by decide +kernel) hS2 hRo2 hH2 hF3 hS3 (hRo2.pre hP3) hH3 hF4 (by decide +kernel), qHO.fr3 (hR1.2.2.2.2.2.2.2.1) hR1.2.2.2.2.1 hR1.1 hH1 hF2 (by decide +kernel) hS2 hRo2 hH2 hF3 hS3 (hRo2.pre hP3) hH3 hF4 (by decide +kernel), qRDy.fr3 (hR1.2.2.2.2.2.2.2.2) hR1.2.2.2.2.1 hR1.1 hH1 hF2 (by decide +kernel) hS2 hRo2 hH2 hF3 hS3 (hRo2.pre hP3) hH3 hF4 (by decide +kernel)⟩, y2, y3, y4⟩ : qCl h4 ∧ gF h4 213 0 = some (.int k) ∧ (k = 0 → gF h4 238 0 = some (.long r.toInt64)) ∧ (k = 0 ∨ k = 1 ∨ k = 2))
    have hR4 : lR ρ4 ν4 h4 := ⟨(hRo2.pre hP3).pre hP4, x4 _ _ (x3 _ _ (x2 _ _ hR1.2.1)), x4 _ _ (x3 _ _ (x2 _ _ hR1.2.2.1)), x4 _ _ (x3 _ _ (x2 _ _ hR1.2.2.2.1)), hS3.fr (hRo2.pre hP3) hF4 stW_X15_feed_Le, z1⟩
    have x14 : nExt ν ν4 := x1.trans (x2.trans (x3.trans x4))
    have vk : ν4[18]? = some (.int k) := x4 _ _ (x3 _ _ hTk)
    have vr : ν4[20]? = some (.int r) := gSt_hd hA4.2.2.1 (by decide +kernel)
    have hA4 := hA4.reb rd
    show zE zrx zi 57 243 631 lv3 _ h4 u4 lKK
    by_cases hk : k = 0
    · subst hk
      have hA6 := (((hA4.nr (lo := 0) (hi := 0) vk (by decide) (by decide)).fs (G := [(2, 2, 0, 18, 0)]) (fun f hf => by
        rw [List.mem_singleton.mp hf]
        exact fH2 hR4.2.2.1 z2 vk)).nw (t := (1, 0, 0)) (v := .long r.toInt64) (G := [(2, 3, 0, 22, 0), (17, 22, 20, 0, 0)]) ⟨_, rfl⟩ (fun f hf => by
        have hl : ν4.length = 22 := by
          rw [← hA4.1.1]
          exact nd
        have vl : (ν4 ++ [Value.long r.toInt64])[22]? = some (.long r.toInt64) := by
          rw [← hl]
          exact nNew _ _
        rcases List.mem_cons.mp hf with rfl | hf
        · exact fH2 (nExt_app _ _ _ _ hR4.2.2.2.1) (z3 rfl) vl
        · rw [List.mem_singleton.mp hf]
          exact ⟨r, nExt_app _ _ _ _ vr, vl⟩))
      refine seg wT_ok lC_e_ok 3000 lY3_e_608_1 (Nat.le_refl _) (x14.trans (nExt_app _ _)) hlen hA6 rfl rfl hH4 (by omega) (by omega) ?_
      intro x hx N5 ρ5 ν5 lv5 st5 h5 u5 x5 hA5 hH5 hF5 hP5
      rw [List.mem_singleton.mp hx] at hA5 ⊢
      clear hx x
      dsimp only at hA5 ⊢
      have b9 : (h5.length : Int) - h4.length ≤ 0 := Int.le_trans (hA5.cost (by decide +kernel)).1 (by decide +kernel)
      have c1 : (u5 : Int) - u4 ≤ 0 := Int.le_trans (hA5.cost (by decide +kernel)).2 (by decide +kernel)
      obtain ⟨j, j1, j2⟩ := l_i hA5 rfl rfl (x5 _ _ v4)
      exact l_next (g := false) ih [0, 1, 2, 3, 15, 5, 6, 7, 8, 9, 10, 11, 12, 13, 14] (by decide +kernel) (by decide +kernel) hA5 rfl hH5 rfl rfl rfl rfl j1 (x5 _ _ v7) (x5 _ _ v9) (x5 _ _ v11) (acc.dear j2 (by omega) (by omega) false (fun z => z)) (by omega) rfl rfl rfl (lR.fr ⟨hR4.1, x5 _ _ (hR.2.1), x5 _ _ (hR.2.2.1), x5 _ _ (hR.2.2.2.1), hR4.2.2.2.2⟩ hH4 hF5 hP5 (nExt.refl ν5) stW_nil rW_nil)
    · have hk2 : 1 ≤ k.toInt ∧ k.toInt ≤ 2 := by
        have kk1 : 0 ≤ k.toInt := kk1
        have kk2 : k.toInt ≤ 2 := kk2
        have : ¬ k.toInt = 0 := fun z => hk (Int32.toInt_inj.mp z)
        omega
      have hA6 := (hA4.nr (lo := 1) (hi := 2) vk hk2.1 hk2.2).fs (G := [(2, 2, 0, 18, 0)]) (fun f hf => by
        rw [List.mem_singleton.mp hf]
        exact fH2 hR4.2.2.1 z2 vk)
      refine seg wT_ok lC_e_ok 3000 lY4_e_608_1 (Nat.le_refl _) x14 hlen hA6 rfl rfl hH4 (by omega) (by omega) ?_
      intro x hx N5 ρ5 ν5 lv5 st5 h5 u5 x5 hA5 hH5 hF5 hP5
      rw [List.mem_singleton.mp hx] at hA5 ⊢
      clear hx x
      dsimp only at hA5 ⊢
      have b9 : (h5.length : Int) - h4.length ≤ 0 := Int.le_trans (hA5.cost (by decide +kernel)).1 (by decide +kernel)
      have c1 : (u5 : Int) - u4 ≤ 0 := Int.le_trans (hA5.cost (by decide +kernel)).2 (by decide +kernel)
      obtain ⟨j, j1, j2⟩ := l_i hA5 rfl rfl (x5 _ _ v4)
      exact l_next (g := false) ih [0, 1, 2, 3, 15, 5, 6, 7, 8, 9, 10, 11, 12, 13, 14] (by decide +kernel) (by decide +kernel) hA5 rfl hH5 rfl rfl rfl rfl j1 (x5 _ _ v7) (x5 _ _ v9) (x5 _ _ v11) (acc.dear j2 (by omega) (by omega) false (fun z => z)) (by omega) rfl rfl rfl (lR.fr ⟨hR4.1, x5 _ _ (hR.2.1), x5 _ _ (hR.2.2.1), x5 _ _ (hR.2.2.2.1), hR4.2.2.2.2⟩ hH4 hF5 hP5 (nExt.refl ν5) stW_nil rW_nil)
def lYa_e_665 : sS := ([(3, 0, 0), (3, 8, 0), (3, 40, 0), (3, 36, 0), (0, 0, 4088), (0, 8, 4096), (3, 45, 0), (0, 0, 40), (3, 48, 0), (0, 0, 24), (3, 51, 0), (0, 0, 24), (0, 0, 4088), (0, 0, 4088), (3, 1, 0)], [(0, 0), (1, 1), (2, 2), (3, 3), (4, 4)], [3, 1], [(0, 4, 5, 0, -8), (3, 0, 5, 0, 0), (2, 2, 7, 6, 0), (2, 6, 2, 7, 0), (2, 2, 8, 8, 0), (2, 8, 2, 9, 0), (2, 2, 9, 10, 0), (2, 10, 2, 11, 0), (2, 1, 1, 12, 0), (2, 2, 3, 13, 0), (0, 12, 13, 0, 0), (0, 13, 12, 0, 0), (2, 2, 10, 14, 0), (0, 12, 4, 0, 0), (0, 13, 4, 0, 0)], 0, 0, [])
def lYb_e_665 : sS := vZ (cvS zi lYa_e_665 k_L_write (cx1 k_L_write))
def lYc_e_665 : sS := ([(3, 0, 0), (3, 8, 0), (3, 40, 0), (3, 36, 0), (0, 0, 4088), (0, 8, 4096), (3, 45, 0), (0, 0, 40), (3, 48, 0), (0, 0, 24), (3, 51, 0), (0, 0, 24), (0, 0, 4088), (0, 0, 4088), (3, 1, 0), (0, 0, 1)], [(5, 15), (0, 0), (1, 1), (2, 2), (3, 3), (4, 4)], [2], [(0, 4, 5, 0, -8), (3, 0, 5, 0, 0), (2, 2, 7, 6, 0), (2, 6, 2, 7, 0), (2, 2, 8, 8, 0), (2, 8, 2, 9, 0), (2, 2, 9, 10, 0), (2, 10, 2, 11, 0), (2, 1, 1, 12, 0), (2, 2, 3, 13, 0), (0, 12, 13, 0, 0), (0, 13, 12, 0, 0), (2, 2, 10, 14, 0), (0, 12, 4, 0, 0), (0, 13, 4, 0, 0)], 0, 0, [])
theorem lY1_e_665 : chk zrx zi wT (wRo wSites_15) (wRo wTags_15) lC_e [] 0 0 15 3000 false [(667, lYa_e_665, [])] none 57 243 665 (vZ lM_e) (fun _ _ => false) = true := by decide +kernel
theorem lY2_e_665 : chk zrx zi wT (wRo wSites_15) (wRo wTags_15) lC_e [] 0 0 16 3000 false [(673, lYc_e_665, [])] none 57 243 670 lYb_e_665 (fun _ _ => false) = true := by decide +kernel
theorem lV1_e_665 : cvOk zrx zi wT 243 667 56 lYa_e_665 k_L_write = true := by decide +kernel
theorem lV2_e_665 : cvOk zrx zi wT 243 673 56 lYc_e_665 k_X15_write_Le = true := by decide +kernel
theorem lYn_e_665 : lYb_e_665.1.length = 16 := by decide +kernel
theorem lYr_e_665 : (vZ lM_e).2.2.2.1.all (fun f => !(f.1 == 7)) = true ∧ lYa_e_665.2.2.2.1.all (fun f => !(f.1 == 7)) = true ∧ (cvS zi lYa_e_665 k_L_write (cx1 k_L_write)).2.2.2.1.all (fun f => !(f.1 == 7)) = true ∧ lYc_e_665.2.2.2.1.all (fun f => !(f.1 == 7)) = true := by decide +kernel
def lYd0_e_665 : sS := vZ (cvS zi lYc_e_665 k_X15_write_Le (cxi k_X15_write_Le 0))
theorem lYd0_e_665n : lYd0_e_665.1.length = 19 ∧ (cvS zi lYc_e_665 k_X15_write_Le (cxi k_X15_write_Le 0)).2.2.2.1.all (fun f => !(f.1 == 7)) = true := by decide +kernel
theorem lY3_e_665_0 : chk zrx zi wT (wRo wSites_15) (wRo wTags_15) lC_e [] 0 0 15 3000 false [(27, lT_eze, [])] none 57 243 676 lYd0_e_665 (fun _ _ => false) = true := by decide +kernel
set_option maxRecDepth 20000 in
theorem lA_e_665 {n : Nat} (ih : lIH n) {hb ub : Nat} {N : Int} {ρ : List Nat} {ν : List Value} {lv : List (Nat × Value)} {st : List Value} {h : List zC} {u : Nat} {i R C A : Int32} {F : Int} (hA : gA hb ub ρ ν lM_e lv st h u) (hH : tHeap wT N ρ h) (v4 : ν[4]? = some (.int i)) (v7 : ν[7]? = some (.int R)) (v9 : ν[9]? = some (.int C)) (v11 : ν[11]? = some (.int A))
    (i4 : i.toInt ≤ 4096) (acc : lAcc false hb ub i.toInt R.toInt C.toInt A.toInt F) (rm1 : (ub : Int) + 17920 ≤ zSN) (rm2 : (hb : Int) + 1152 ≤ zCM) (hn : 4104 - i.toInt ≤ (n + 1 : Nat)) (hR : lR ρ ν h) : zE zrx zi 57 243 665 lv st h u lKK := by
  obtain ⟨dl1, dl2, dl3, dl4⟩ := lD_lo R.toInt C.toInt A.toInt
  obtain ⟨r0, ra, rb, rc⟩ := lYr_e_665
  have q0 : (h.length : Int) - hb ≤ 0 := hA.2.2.2.2.1
  have q1 : (u : Int) - ub ≤ 0 := hA.2.2.2.2.2
  have hlen : ν.length ≤ 15 := by
    rw [← hA.1.1]
    exact Nat.le_of_eq rfl
  refine seg wT_ok lC_e_ok 3000 lY1_e_665 (Nat.le_refl _) (nExt.refl ν) hlen (hA.reb r0) rfl rfl hH (by omega) (by omega) ?_
  intro x hx N1 ρ1 ν1 lv1 st1 h1 u1 x1 hA1 hH1 hF1 hP1
  rw [List.mem_singleton.mp hx] at hA1 ⊢
  clear hx x
  dsimp only at hA1 ⊢
  have hR1 := hR.fr hH hF1 hP1 x1 stW_nil rW_nil
  have b1 : (h1.length : Int) - h.length ≤ 0 := Int.le_trans (hA1.cost (by decide +kernel)).1 (by decide +kernel)
  have b2 : (u1 : Int) - u ≤ 0 := Int.le_trans (hA1.cost (by decide +kernel)).2 (by decide +kernel)
  have hT : gSt ν1 [3, 1] st1 := hA1.2.2.1
  obtain ⟨w0, sa0, ea0, o0, ha0⟩ := hT.inv
  subst ea0
  rw [hR1.2.2.2.1] at o0
  cases o0
  obtain ⟨w1, sa1, ea1, o1, ha1⟩ := ha0.inv
  subst ea1
  rw [hR1.2.1] at o1
  cases o1
  cases ha1.nil
  obtain ⟨T, L, fs, fa, fbd, t1, t3, fm1⟩ := hR1.2.2.2.2.2.1
  obtain ⟨cnt, el, c0, c2, c1, cel, h0c, h24, -⟩ := hR1.2.2.2.2.2.2.1
  obtain ⟨dd, d1, d2⟩ := hR1.2.2.2.2.2.2.2.2
  have t2 : L ≤ 60 := fm1.l60
  refine call_val con_L_write vr_243_667 lV1_e_665 rfl rfl (hA1.reb ra) hH1 (by have : k_L_write.2.2.2.2.1 = 3 := rfl; omega) (by have : k_L_write.2.2.2.2.2.1 = 15 := rfl; omega) rfl (fun n => C_Lwrite n  h1 u1 hR1.2.2.2.2.1 h0c h24 t1 t2 t3 c0) ?_
  intro N2 ρ2 ν2 v h2 u2 n2 x2 hA2 hH2 hF2 hP2 V1
  obtain ⟨k, hk, V1⟩ := V1
  cases hk
  have V1 : Q_Lwrite T L cnt  h1 (.inl (some (.int k))) h2 u2 := ⟨k, rfl, V1⟩
  have b3 : (h2.length : Int) - h1.length ≤ 3 := Int.le_trans (hA2.cost (by decide +kernel)).1 (by decide +kernel)
  have b4 : (u2 : Int) - u1 ≤ 15 := Int.le_trans (hA2.cost (by decide +kernel)).2 (by decide +kernel)
  have hTk : ν2[15]? = some (.int k) := gSt_hd hA2.2.2.1 (by decide +kernel)
  have hlen2 : ν2.length ≤ 16 := by
    rw [← hA2.1.1]
    exact Nat.le_of_eq lYn_e_665
  have hS2 : Stc h2 := hR1.2.2.2.2.1.fr hR1.1 hF2 stW_L_write
  have hRo2 : Ro ρ2 := hR1.1.pre hP2
  show zE zrx zi 57 243 670 lv1 _ h2 u2 lKK
  refine seg wT_ok lC_e_ok 3000 lY2_e_665 (Nat.le_refl _) (nExt.refl ν2) hlen2 (hA2.reb rb) rfl rfl hH2 (by omega) (by omega) ?_
  intro x hx N3 ρ3 ν3 lv3 st3 h3 u3 x3 hA3 hH3 hF3 hP3
  rw [List.mem_singleton.mp hx] at hA3 ⊢
  clear hx x
  dsimp only at hA3 ⊢
  have hS3 : Stc h3 := hS2.fr hRo2 hF3 stW_nil
  have b5 : (h3.length : Int) - h2.length ≤ 0 := Int.le_trans (hA3.cost (by decide +kernel)).1 (by decide +kernel)
  have b6 : (u3 : Int) - u2 ≤ 0 := Int.le_trans (hA3.cost (by decide +kernel)).2 (by decide +kernel)
  have hE : ∀ p, p < h2.length → ∀ k, gF h3 p k = gF h2 p k := fun p hp k => gFr_F0 hF3 hH2.1 hp k
  have hT : gSt ν3 [2] st3 := hA3.2.2.1
  obtain ⟨w0, sb0, eb0, c0, hb0⟩ := hT.inv
  subst eb0
  rw [x3 _ _ (x2 _ _ hR1.2.2.1)] at c0
  cases c0
  cases hb0.nil
  have hl1 := hR1.2.2.2.2.1.1
  have hl2 := gFr_len hF2
  have hl3 := gFr_len hF3
  have ro3 : Ro ρ3 := hRo2.pre hP3
  have m2 := (hE 225 (by omega) 2).trans ((gFr_F hF2 (hR1.1 225 51 (by decide +kernel)) (by decide +kernel) (by omega)).trans c2)
  have m1 := (hE 225 (by omega) 1).trans ((gFr_F hF2 (hR1.1 225 51 (by decide +kernel)) (by decide +kernel) (by omega)).trans c1)
  obtain ⟨⟨l, l1, l2⟩, l3, l4, l5, l6, l7, l8⟩ := al_at hH3 ro3 m1 m2
  have l213 : ¬ el = 213 := by omega
  have hA7 : ∀ k, k < cnt.toNatClampNeg → ∃ A : Nat, gF h3 el k = some (.ref A) ∧ 239 ≤ A := fun k hk => by
    obtain ⟨e, e1, e2⟩ := l8 k hk
    exact ⟨e, e1, A_new ro3 e2⟩
  have fm2 := fm1.fr hR1.2.2.2.2.1.1 hR1.1 hH1 hF2 (by decide +kernel)
  have fm3 := fm2.fr hS2.1 hRo2 hH2 hF3 (by decide)
  obtain ⟨fb, sb3⟩ := fm3.sb hH3 ro3
  refine call_val con_X15_write_Le vr_243_673 lV2_e_665 rfl rfl (hA3.reb rc) hH3 (by have : k_X15_write_Le.2.2.2.2.1 = 3 := rfl; omega) (by have : k_X15_write_Le.2.2.2.2.2.1 = 16 := rfl; omega) rfl (fun n => C_mwrite n  h3 u3 hS3 sb3 fm3.2.1 fm3.2.2.2.1 fm3.2.2.2.2 m1 m2 l1 l2 l3 h0c l213) ?_
  intro N4 ρ4 ν4 v h4 u4 n4 x4 hA4 hH4 hF4 hP4 V2
  obtain ⟨nd, rd⟩ := lYd0_e_665n
  obtain ⟨r, hr⟩ : ∃ r : Int32, v = .int r := by
    first
      | (obtain ⟨r, h0, hr, -⟩ := V2; cases hr; exact ⟨r, rfl⟩)
      | (obtain ⟨r, hr, -⟩ := V2; cases hr; exact ⟨r, rfl⟩)
  subst hr
  have b7 : (h4.length : Int) - h3.length ≤ 4 := Int.le_trans (hA4.cost (by decide +kernel)).1 (by decide +kernel)
  have b8 : (u4 : Int) - u3 ≤ 30 := Int.le_trans (hA4.cost (by decide +kernel)).2 (by decide +kernel)
  have z1 := ((by
    obtain ⟨⟨y1, y5⟩, y2, y3, y4⟩ := sum_write (i := 0) hl1 hH1 hR1.1 (hR1.2.2.2.2.2.2.1) c0 c1 h0c h24 t2 hl2 hl3 t1 t3 fm3 V1 hE V2
    exact ⟨⟨y1, y5, qHO.fr3 (hR1.2.2.2.2.2.2.2.1) hR1.2.2.2.2.1 hR1.1 hH1 hF2 (by decide +kernel) hS2 hRo2 hH2 hF3 hS3 (hRo2.pre hP3) hH3 hF4 (by decide +kernel), qRDy.fr3 (hR1.2.2.2.2.2.2.2.2) hR1.2.2.2.2.1 hR1.1 hH1 hF2 (by decide +kernel) hS2 hRo2 hH2 hF3 hS3 (hRo2.pre hP3) hH3 hF4 (by decide +kernel)⟩, trivial⟩ : qCl h4 ∧ True)).1
  have hR4 : lR ρ4 ν4 h4 := ⟨(hRo2.pre hP3).pre hP4, x4 _ _ (x3 _ _ (x2 _ _ hR1.2.1)), x4 _ _ (x3 _ _ (x2 _ _ hR1.2.2.1)), x4 _ _ (x3 _ _ (x2 _ _ hR1.2.2.2.1)), hS3.fr (hRo2.pre hP3) hF4 stW_X15_write_Le, z1⟩
  have x14 : nExt ν ν4 := x1.trans (x2.trans (x3.trans x4))
  have hA4 := hA4.reb rd
  show zE zrx zi 57 243 676 lv3 _ h4 u4 lKK
  refine seg wT_ok lC_e_ok 3000 lY3_e_665_0 (Nat.le_refl _) x14 hlen hA4 rfl rfl hH4 (by omega) (by omega) ?_
  intro x hx N5 ρ5 ν5 lv5 st5 h5 u5 x5 hA5 hH5 hF5 hP5
  rw [List.mem_singleton.mp hx] at hA5 ⊢
  clear hx x
  dsimp only at hA5 ⊢
  have b9 : (h5.length : Int) - h4.length ≤ 0 := Int.le_trans (hA5.cost (by decide +kernel)).1 (by decide +kernel)
  have c1 : (u5 : Int) - u4 ≤ 0 := Int.le_trans (hA5.cost (by decide +kernel)).2 (by decide +kernel)
  obtain ⟨j, j1, j2⟩ := l_i hA5 rfl rfl (x5 _ _ v4)
  exact l_next (g := false) ih [0, 1, 2, 3, 15, 5, 6, 7, 8, 9, 10, 11, 12, 13, 16] (by decide +kernel) (by decide +kernel) hA5 rfl hH5 rfl rfl rfl rfl j1 (x5 _ _ v7) (x5 _ _ v9) (x5 _ _ v11) (acc.dear j2 (by omega) (by omega) false (fun z => z)) (by omega) rfl rfl rfl (lR.fr ⟨hR4.1, x5 _ _ (hR.2.1), x5 _ _ (hR.2.2.1), x5 _ _ (hR.2.2.2.1), hR4.2.2.2.2⟩ hH4 hF5 hP5 (nExt.refl ν5) stW_nil rW_nil)
def lYa_e_681 : sS := ([(3, 0, 0), (3, 8, 0), (3, 40, 0), (3, 36, 0), (0, 0, 4088), (0, 8, 4096), (3, 45, 0), (0, 0, 40), (3, 48, 0), (0, 0, 24), (3, 51, 0), (0, 0, 24), (0, 0, 4088), (0, 0, 4088), (3, 1, 0), (0, 1, 1), (0, 1, 4089), (0, -2147483648, 2147483647)], [(0, 0), (1, 1), (2, 2), (3, 3), (4, 4)], [3, 17, 1], [(4, 0, 16, 17, 0), (0, 16, 4, 0, 1), (0, 4, 16, 0, -1), (0, 4, 5, 0, -8), (3, 0, 5, 0, 0), (2, 2, 7, 6, 0), (2, 6, 2, 7, 0), (2, 2, 8, 8, 0), (2, 8, 2, 9, 0), (2, 2, 9, 10, 0), (2, 10, 2, 11, 0), (2, 1, 1, 12, 0), (2, 2, 3, 13, 0), (0, 12, 13, 0, 0), (0, 13, 12, 0, 0), (2, 2, 10, 14, 0), (0, 12, 4, 0, 0), (0, 13, 4, 0, 0)], 0, 0, [])
def lYb_e_681 : sS := vZ (cvS zi lYa_e_681 k_L_amend (cx1 k_L_amend))
def lYc_e_681 : sS := ([(3, 0, 0), (3, 8, 0), (3, 40, 0), (3, 36, 0), (0, 0, 4088), (0, 8, 4096), (3, 45, 0), (0, 0, 40), (3, 48, 0), (0, 0, 24), (3, 51, 0), (0, 0, 24), (0, 0, 4088), (0, 0, 4088), (3, 1, 0), (0, 1, 1), (0, 1, 4089), (0, -2147483648, 2147483647), (0, 0, 2), (0, 1, 1)], [(5, 18), (0, 0), (1, 1), (2, 2), (3, 3), (4, 4)], [17, 2], [(4, 0, 16, 17, 0), (0, 16, 4, 0, 1), (0, 4, 16, 0, -1), (0, 4, 5, 0, -8), (3, 0, 5, 0, 0), (2, 2, 7, 6, 0), (2, 6, 2, 7, 0), (2, 2, 8, 8, 0), (2, 8, 2, 9, 0), (2, 2, 9, 10, 0), (2, 10, 2, 11, 0), (2, 1, 1, 12, 0), (2, 2, 3, 13, 0), (0, 12, 13, 0, 0), (0, 13, 12, 0, 0), (2, 2, 10, 14, 0), (0, 12, 4, 0, 0), (0, 13, 4, 0, 0)], 0, 0, [])
theorem lY1_e_681 : chk zrx zi wT (wRo wSites_15) (wRo wTags_15) lC_e [] 0 0 15 3000 false [(689, lYa_e_681, [])] none 57 243 681 (vZ lM_e) (fun _ _ => false) = true := by decide +kernel
theorem lY2_e_681 : chk zrx zi wT (wRo wSites_15) (wRo wTags_15) lC_e [] 0 0 19 3000 false [(701, lYc_e_681, [])] none 57 243 692 lYb_e_681 (fun _ _ => false) = true := by decide +kernel
theorem lV1_e_681 : cvOk zrx zi wT 243 689 56 lYa_e_681 k_L_amend = true := by decide +kernel
theorem lV2_e_681 : cvOk zrx zi wT 243 701 56 lYc_e_681 k_X15_amend_Le = true := by decide +kernel
theorem lYn_e_681 : lYb_e_681.1.length = 19 := by decide +kernel
theorem lYr_e_681 : (vZ lM_e).2.2.2.1.all (fun f => !(f.1 == 7)) = true ∧ lYa_e_681.2.2.2.1.all (fun f => !(f.1 == 7)) = true ∧ (cvS zi lYa_e_681 k_L_amend (cx1 k_L_amend)).2.2.2.1.all (fun f => !(f.1 == 7)) = true ∧ lYc_e_681.2.2.2.1.all (fun f => !(f.1 == 7)) = true := by decide +kernel
def lYd0_e_681 : sS := vZ (cvS zi lYc_e_681 k_X15_amend_Le (cxi k_X15_amend_Le 0))
theorem lYd0_e_681n : lYd0_e_681.1.length = 23 ∧ (cvS zi lYc_e_681 k_X15_amend_Le (cxi k_X15_amend_Le 0)).2.2.2.1.all (fun f => !(f.1 == 7)) = true := by decide +kernel
theorem lY3_e_681_0 : chk zrx zi wT (wRo wSites_15) (wRo wTags_15) lC_e [] 0 0 15 3000 false [(27, lT_eze, [])] none 57 243 704 lYd0_e_681 (fun _ _ => false) = true := by decide +kernel
set_option maxRecDepth 20000 in
theorem lA_e_681 {n : Nat} (ih : lIH n) {hb ub : Nat} {N : Int} {ρ : List Nat} {ν : List Value} {lv : List (Nat × Value)} {st : List Value} {h : List zC} {u : Nat} {i R C A : Int32} {F : Int} (hA : gA hb ub ρ ν lM_e lv st h u) (hH : tHeap wT N ρ h) (v4 : ν[4]? = some (.int i)) (v7 : ν[7]? = some (.int R)) (v9 : ν[9]? = some (.int C)) (v11 : ν[11]? = some (.int A))
    (i4 : i.toInt ≤ 4096) (acc : lAcc false hb ub i.toInt R.toInt C.toInt A.toInt F) (rm1 : (ub : Int) + 17920 ≤ zSN) (rm2 : (hb : Int) + 1152 ≤ zCM) (hn : 4104 - i.toInt ≤ (n + 1 : Nat)) (hR : lR ρ ν h) : zE zrx zi 57 243 681 lv st h u lKK := by
  obtain ⟨dl1, dl2, dl3, dl4⟩ := lD_lo R.toInt C.toInt A.toInt
  obtain ⟨r0, ra, rb, rc⟩ := lYr_e_681
  have q0 : (h.length : Int) - hb ≤ 0 := hA.2.2.2.2.1
  have q1 : (u : Int) - ub ≤ 0 := hA.2.2.2.2.2
  have hlen : ν.length ≤ 15 := by
    rw [← hA.1.1]
    exact Nat.le_of_eq rfl
  refine seg wT_ok lC_e_ok 3000 lY1_e_681 (Nat.le_refl _) (nExt.refl ν) hlen (hA.reb r0) rfl rfl hH (by omega) (by omega) ?_
  intro x hx N1 ρ1 ν1 lv1 st1 h1 u1 x1 hA1 hH1 hF1 hP1
  rw [List.mem_singleton.mp hx] at hA1 ⊢
  clear hx x
  dsimp only at hA1 ⊢
  have hR1 := hR.fr hH hF1 hP1 x1 stW_nil rW_nil
  have b1 : (h1.length : Int) - h.length ≤ 0 := Int.le_trans (hA1.cost (by decide +kernel)).1 (by decide +kernel)
  have b2 : (u1 : Int) - u ≤ 0 := Int.le_trans (hA1.cost (by decide +kernel)).2 (by decide +kernel)
  have hT : gSt ν1 [3, 17, 1] st1 := hA1.2.2.1
  obtain ⟨w0, sa0, ea0, o0, ha0⟩ := hT.inv
  subst ea0
  rw [hR1.2.2.2.1] at o0
  cases o0
  obtain ⟨w1, sa1, ea1, o1, ha1⟩ := ha0.inv
  subst ea1
  obtain ⟨p17, rfl, -⟩ := hA1.int o1 rfl
  obtain ⟨w2, sa2, ea2, o2, ha2⟩ := ha1.inv
  subst ea2
  rw [hR1.2.1] at o2
  cases o2
  cases ha2.nil
  obtain ⟨T, L, fs, fa, fbd, t1, t3, fm1⟩ := hR1.2.2.2.2.2.1
  obtain ⟨cnt, el, c0, c2, c1, cel, h0c, h24, -⟩ := hR1.2.2.2.2.2.2.1
  obtain ⟨dd, d1, d2⟩ := hR1.2.2.2.2.2.2.2.2
  have t2 : L ≤ 60 := fm1.l60
  refine call_val con_L_amend vr_243_689 lV1_e_681 rfl rfl (hA1.reb ra) hH1 (by have : k_L_amend.2.2.2.2.1 = 3 := rfl; omega) (by have : k_L_amend.2.2.2.2.2.1 = 15 := rfl; omega) rfl (fun n => C_Lamend n p17 h1 u1 hR1.2.2.2.2.1 h0c h24 t1 t2 t3 c0) ?_
  intro N2 ρ2 ν2 v h2 u2 n2 x2 hA2 hH2 hF2 hP2 V1
  obtain ⟨k, hk, V1⟩ := V1
  cases hk
  have V1 : Q_Lamend T L cnt p17 h1 (.inl (some (.int k))) h2 u2 := ⟨k, rfl, V1⟩
  have b3 : (h2.length : Int) - h1.length ≤ 3 := Int.le_trans (hA2.cost (by decide +kernel)).1 (by decide +kernel)
  have b4 : (u2 : Int) - u1 ≤ 15 := Int.le_trans (hA2.cost (by decide +kernel)).2 (by decide +kernel)
  have hTk : ν2[18]? = some (.int k) := gSt_hd hA2.2.2.1 (by decide +kernel)
  have hlen2 : ν2.length ≤ 19 := by
    rw [← hA2.1.1]
    exact Nat.le_of_eq lYn_e_681
  have hS2 : Stc h2 := hR1.2.2.2.2.1.fr hR1.1 hF2 stW_L_amend
  have hRo2 : Ro ρ2 := hR1.1.pre hP2
  show zE zrx zi 57 243 692 lv1 _ h2 u2 lKK
  refine seg wT_ok lC_e_ok 3000 lY2_e_681 (Nat.le_refl _) (nExt.refl ν2) hlen2 (hA2.reb rb) rfl rfl hH2 (by omega) (by omega) ?_
  intro x hx N3 ρ3 ν3 lv3 st3 h3 u3 x3 hA3 hH3 hF3 hP3
  rw [List.mem_singleton.mp hx] at hA3 ⊢
  clear hx x
  dsimp only at hA3 ⊢
  have hS3 : Stc h3 := hS2.fr hRo2 hF3 stW_nil
  have b5 : (h3.length : Int) - h2.length ≤ 0 := Int.le_trans (hA3.cost (by decide +kernel)).1 (by decide +kernel)
  have b6 : (u3 : Int) - u2 ≤ 0 := Int.le_trans (hA3.cost (by decide +kernel)).2 (by decide +kernel)
  have hE : ∀ p, p < h2.length → ∀ k, gF h3 p k = gF h2 p k := fun p hp k => gFr_F0 hF3 hH2.1 hp k
  have hT : gSt ν3 [17, 2] st3 := hA3.2.2.1
  obtain ⟨w0, sb0, eb0, c0, hb0⟩ := hT.inv
  subst eb0
  rw [x3 _ _ (x2 _ _ o1)] at c0
  cases c0
  obtain ⟨w1, sb1, eb1, c1, hb1⟩ := hb0.inv
  subst eb1
  rw [x3 _ _ (x2 _ _ hR1.2.2.1)] at c1
  cases c1
  cases hb1.nil
  have hl1 := hR1.2.2.2.2.1.1
  have hl2 := gFr_len hF2
  have hl3 := gFr_len hF3
  have ro3 : Ro ρ3 := hRo2.pre hP3
  have m2 := (hE 225 (by omega) 2).trans ((gFr_F hF2 (hR1.1 225 51 (by decide +kernel)) (by decide +kernel) (by omega)).trans c2)
  have m1 := (hE 225 (by omega) 1).trans ((gFr_F hF2 (hR1.1 225 51 (by decide +kernel)) (by decide +kernel) (by omega)).trans c1)
  obtain ⟨⟨l, l1, l2⟩, l3, l4, l5, l6, l7, l8⟩ := al_at hH3 ro3 m1 m2
  have l213 : ¬ el = 213 := by omega
  have hA7 : ∀ k, k < cnt.toNatClampNeg → ∃ A : Nat, gF h3 el k = some (.ref A) ∧ 239 ≤ A := fun k hk => by
    obtain ⟨e, e1, e2⟩ := l8 k hk
    exact ⟨e, e1, A_new ro3 e2⟩
  have fm2 := fm1.fr hR1.2.2.2.2.1.1 hR1.1 hH1 hF2 (by decide +kernel)
  have fm3 := fm2.fr hS2.1 hRo2 hH2 hF3 (by decide)
  obtain ⟨fb, sb3⟩ := fm3.sb hH3 ro3
  refine call_val con_X15_amend_Le vr_243_701 lV2_e_681 rfl rfl (hA3.reb rc) hH3 (by have : k_X15_amend_Le.2.2.2.2.1 = 3 := rfl; omega) (by have : k_X15_amend_Le.2.2.2.2.2.1 = 16 := rfl; omega) rfl (fun n => C_mamend n p17 h3 u3 hS3 sb3 fm3.2.1 fm3.2.2.2.1 fm3.2.2.2.2 m1 m2 l1 l2 l3 h0c l213 hA7) ?_
  intro N4 ρ4 ν4 v h4 u4 n4 x4 hA4 hH4 hF4 hP4 V2
  obtain ⟨nd, rd⟩ := lYd0_e_681n
  obtain ⟨r, hr⟩ : ∃ r : Int32, v = .int r := by
    first
      | (obtain ⟨r, h0, hr, -⟩ := V2; cases hr; exact ⟨r, rfl⟩)
      | (obtain ⟨r, hr, -⟩ := V2; cases hr; exact ⟨r, rfl⟩)
  subst hr
  have b7 : (h4.length : Int) - h3.length ≤ 4 := Int.le_trans (hA4.cost (by decide +kernel)).1 (by decide +kernel)
  have b8 : (u4 : Int) - u3 ≤ 30 := Int.le_trans (hA4.cost (by decide +kernel)).2 (by decide +kernel)
  have z1 := ((by
    obtain ⟨⟨y1, y5⟩, y2, y3, y4⟩ := sum_amend (i := 0) hl1 hH1 hR1.1 (hR1.2.2.2.2.2.2.1) c0 c1 h0c h24 t2 hl2 hl3 t1 t3 fm3 V1 hE V2
    exact ⟨⟨y1, y5, qHO.fr3 (hR1.2.2.2.2.2.2.2.1) hR1.2.2.2.2.1 hR1.1 hH1 hF2 (by decide +kernel) hS2 hRo2 hH2 hF3 hS3 (hRo2.pre hP3) hH3 hF4 (by decide +kernel), qRDy.fr3 (hR1.2.2.2.2.2.2.2.2) hR1.2.2.2.2.1 hR1.1 hH1 hF2 (by decide +kernel) hS2 hRo2 hH2 hF3 hS3 (hRo2.pre hP3) hH3 hF4 (by decide +kernel)⟩, trivial⟩ : qCl h4 ∧ True)).1
  have hR4 : lR ρ4 ν4 h4 := ⟨(hRo2.pre hP3).pre hP4, x4 _ _ (x3 _ _ (x2 _ _ hR1.2.1)), x4 _ _ (x3 _ _ (x2 _ _ hR1.2.2.1)), x4 _ _ (x3 _ _ (x2 _ _ hR1.2.2.2.1)), hS3.fr (hRo2.pre hP3) hF4 stW_X15_amend_Le, z1⟩
  have x14 : nExt ν ν4 := x1.trans (x2.trans (x3.trans x4))
  have hA4 := hA4.reb rd
  show zE zrx zi 57 243 704 lv3 _ h4 u4 lKK
  refine seg wT_ok lC_e_ok 3000 lY3_e_681_0 (Nat.le_refl _) x14 hlen hA4 rfl rfl hH4 (by omega) (by omega) ?_
  intro x hx N5 ρ5 ν5 lv5 st5 h5 u5 x5 hA5 hH5 hF5 hP5
  rw [List.mem_singleton.mp hx] at hA5 ⊢
  clear hx x
  dsimp only at hA5 ⊢
  have b9 : (h5.length : Int) - h4.length ≤ 0 := Int.le_trans (hA5.cost (by decide +kernel)).1 (by decide +kernel)
  have c1 : (u5 : Int) - u4 ≤ 0 := Int.le_trans (hA5.cost (by decide +kernel)).2 (by decide +kernel)
  obtain ⟨j, j1, j2⟩ := l_i hA5 rfl rfl (x5 _ _ v4)
  exact l_next (g := false) ih [0, 1, 2, 3, 15, 5, 6, 7, 8, 9, 10, 11, 12, 13, 16] (by decide +kernel) (by decide +kernel) hA5 rfl hH5 rfl rfl rfl rfl j1 (x5 _ _ v7) (x5 _ _ v9) (x5 _ _ v11) (acc.dear j2 (by omega) (by omega) false (fun z => z)) (by omega) rfl rfl rfl (lR.fr ⟨hR4.1, x5 _ _ (hR.2.1), x5 _ _ (hR.2.2.1), x5 _ _ (hR.2.2.2.1), hR4.2.2.2.2⟩ hH4 hF5 hP5 (nExt.refl ν5) stW_nil rW_nil)
def lYa_e_709 : sS := ([(3, 0, 0), (3, 8, 0), (3, 40, 0), (3, 36, 0), (0, 0, 4088), (0, 8, 4096), (3, 45, 0), (0, 0, 40), (3, 48, 0), (0, 0, 24), (3, 51, 0), (0, 0, 24), (0, 0, 4088), (0, 0, 4088), (3, 1, 0), (0, 1, 1), (0, 1, 4089), (0, -2147483648, 2147483647), (0, 2, 2), (0, 2, 4090), (0, -2147483648, 2147483647), (0, 3, 3), (0, 3, 4091), (0, -2147483648, 2147483647)], [(0, 0), (1, 1), (2, 2), (3, 3), (4, 4)], [3, 23, 20, 17, 1], [(4, 0, 22, 23, 0), (0, 22, 4, 0, 3), (0, 4, 22, 0, -3), (4, 0, 19, 20, 0), (0, 19, 4, 0, 2), (0, 4, 19, 0, -2), (4, 0, 16, 17, 0), (0, 16, 4, 0, 1), (0, 4, 16, 0, -1), (0, 4, 5, 0, -8), (3, 0, 5, 0, 0), (2, 2, 7, 6, 0), (2, 6, 2, 7, 0), (2, 2, 8, 8, 0), (2, 8, 2, 9, 0), (2, 2, 9, 10, 0), (2, 10, 2, 11, 0), (2, 1, 1, 12, 0), (2, 2, 3, 13, 0), (0, 12, 13, 0, 0), (0, 13, 12, 0, 0), (2, 2, 10, 14, 0), (0, 12, 4, 0, 0), (0, 13, 4, 0, 0)], 0, 0, [])
def lYb_e_709 : sS := vZ (cvS zi lYa_e_709 k_L_seats (cx1 k_L_seats))
def lYc_e_709 : sS := ([(3, 0, 0), (3, 8, 0), (3, 40, 0), (3, 36, 0), (0, 0, 4088), (0, 8, 4096), (3, 45, 0), (0, 0, 40), (3, 48, 0), (0, 0, 24), (3, 51, 0), (0, 0, 24), (0, 0, 4088), (0, 0, 4088), (3, 1, 0), (0, 1, 1), (0, 1, 4089), (0, -2147483648, 2147483647), (0, 2, 2), (0, 2, 4090), (0, -2147483648, 2147483647), (0, 3, 3), (0, 3, 4091), (0, -2147483648, 2147483647), (0, 0, 2), (0, 1, 1), (0, 2, 2), (0, 3, 3)], [(5, 24), (0, 0), (1, 1), (2, 2), (3, 3), (4, 4)], [23, 20, 17, 2], [(4, 0, 22, 23, 0), (0, 22, 4, 0, 3), (0, 4, 22, 0, -3), (4, 0, 19, 20, 0), (0, 19, 4, 0, 2), (0, 4, 19, 0, -2), (4, 0, 16, 17, 0), (0, 16, 4, 0, 1), (0, 4, 16, 0, -1), (0, 4, 5, 0, -8), (3, 0, 5, 0, 0), (2, 2, 7, 6, 0), (2, 6, 2, 7, 0), (2, 2, 8, 8, 0), (2, 8, 2, 9, 0), (2, 2, 9, 10, 0), (2, 10, 2, 11, 0), (2, 1, 1, 12, 0), (2, 2, 3, 13, 0), (0, 12, 13, 0, 0), (0, 13, 12, 0, 0), (2, 2, 10, 14, 0), (0, 12, 4, 0, 0), (0, 13, 4, 0, 0)], 0, 0, [])
theorem lY1_e_709 : chk zrx zi wT (wRo wSites_15) (wRo wTags_15) lC_e [] 0 0 15 3000 false [(729, lYa_e_709, [])] none 57 243 709 (vZ lM_e) (fun _ _ => false) = true := by decide +kernel
theorem lY2_e_709 : chk zrx zi wT (wRo wSites_15) (wRo wTags_15) lC_e [] 0 0 25 3000 false [(753, lYc_e_709, [])] none 57 243 732 lYb_e_709 (fun _ _ => false) = true := by decide +kernel
theorem lV1_e_709 : cvOk zrx zi wT 243 729 56 lYa_e_709 k_L_seats = true := by decide +kernel
theorem lV2_e_709 : cvOk zrx zi wT 243 753 56 lYc_e_709 k_X15_seats = true := by decide +kernel
theorem lYn_e_709 : lYb_e_709.1.length = 25 := by decide +kernel
theorem lYr_e_709 : (vZ lM_e).2.2.2.1.all (fun f => !(f.1 == 7)) = true ∧ lYa_e_709.2.2.2.1.all (fun f => !(f.1 == 7)) = true ∧ (cvS zi lYa_e_709 k_L_seats (cx1 k_L_seats)).2.2.2.1.all (fun f => !(f.1 == 7)) = true ∧ lYc_e_709.2.2.2.1.all (fun f => !(f.1 == 7)) = true := by decide +kernel
def lYd0_e_709 : sS := vZ (cvS zi lYc_e_709 k_X15_seats (cxi k_X15_seats 0))
theorem lYd0_e_709n : lYd0_e_709.1.length = 29 ∧ (cvS zi lYc_e_709 k_X15_seats (cxi k_X15_seats 0)).2.2.2.1.all (fun f => !(f.1 == 7)) = true := by decide +kernel
theorem lY3_e_709_0 : chk zrx zi wT (wRo wSites_15) (wRo wTags_15) lC_e [] 0 0 15 3000 false [(27, lT_eza, [])] none 57 243 756 lYd0_e_709 (fun _ _ => false) = true := by decide +kernel
set_option maxRecDepth 20000 in
theorem lA_e_709 {n : Nat} (ih : lIH n) {hb ub : Nat} {N : Int} {ρ : List Nat} {ν : List Value} {lv : List (Nat × Value)} {st : List Value} {h : List zC} {u : Nat} {i R C A : Int32} {F : Int} (hA : gA hb ub ρ ν lM_e lv st h u) (hH : tHeap wT N ρ h) (v4 : ν[4]? = some (.int i)) (v7 : ν[7]? = some (.int R)) (v9 : ν[9]? = some (.int C)) (v11 : ν[11]? = some (.int A))
    (i4 : i.toInt ≤ 4096) (acc : lAcc false hb ub i.toInt R.toInt C.toInt A.toInt F) (rm1 : (ub : Int) + 17920 ≤ zSN) (rm2 : (hb : Int) + 1152 ≤ zCM) (hn : 4104 - i.toInt ≤ (n + 1 : Nat)) (hR : lR ρ ν h) : zE zrx zi 57 243 709 lv st h u lKK := by
  obtain ⟨dl1, dl2, dl3, dl4⟩ := lD_lo R.toInt C.toInt A.toInt
  obtain ⟨r0, ra, rb, rc⟩ := lYr_e_709
  have q0 : (h.length : Int) - hb ≤ 0 := hA.2.2.2.2.1
  have q1 : (u : Int) - ub ≤ 0 := hA.2.2.2.2.2
  have hlen : ν.length ≤ 15 := by
    rw [← hA.1.1]
    exact Nat.le_of_eq rfl
  refine seg wT_ok lC_e_ok 3000 lY1_e_709 (Nat.le_refl _) (nExt.refl ν) hlen (hA.reb r0) rfl rfl hH (by omega) (by omega) ?_
  intro x hx N1 ρ1 ν1 lv1 st1 h1 u1 x1 hA1 hH1 hF1 hP1
  rw [List.mem_singleton.mp hx] at hA1 ⊢
  clear hx x
  dsimp only at hA1 ⊢
  have hR1 := hR.fr hH hF1 hP1 x1 stW_nil rW_nil
  have b1 : (h1.length : Int) - h.length ≤ 0 := Int.le_trans (hA1.cost (by decide +kernel)).1 (by decide +kernel)
  have b2 : (u1 : Int) - u ≤ 0 := Int.le_trans (hA1.cost (by decide +kernel)).2 (by decide +kernel)
  have hT : gSt ν1 [3, 23, 20, 17, 1] st1 := hA1.2.2.1
  obtain ⟨w0, sa0, ea0, o0, ha0⟩ := hT.inv
  subst ea0
  rw [hR1.2.2.2.1] at o0
  cases o0
  obtain ⟨w1, sa1, ea1, o1, ha1⟩ := ha0.inv
  subst ea1
  obtain ⟨p23, rfl, -⟩ := hA1.int o1 rfl
  obtain ⟨w2, sa2, ea2, o2, ha2⟩ := ha1.inv
  subst ea2
  obtain ⟨p20, rfl, -⟩ := hA1.int o2 rfl
  obtain ⟨w3, sa3, ea3, o3, ha3⟩ := ha2.inv
  subst ea3
  obtain ⟨p17, rfl, -⟩ := hA1.int o3 rfl
  obtain ⟨w4, sa4, ea4, o4, ha4⟩ := ha3.inv
  subst ea4
  rw [hR1.2.1] at o4
  cases o4
  cases ha4.nil
  obtain ⟨T, L, fs, fa, fbd, t1, t3, fm1⟩ := hR1.2.2.2.2.2.1
  obtain ⟨cnt, el, c0, c2, c1, cel, h0c, h24, -⟩ := hR1.2.2.2.2.2.2.1
  obtain ⟨dd, d1, d2⟩ := hR1.2.2.2.2.2.2.2.2
  have t2 : L ≤ 60 := fm1.l60
  refine call_val con_L_seats vr_243_729 lV1_e_709 rfl rfl (hA1.reb ra) hH1 (by have : k_L_seats.2.2.2.2.1 = 1 := rfl; omega) (by have : k_L_seats.2.2.2.2.2.1 = 6 := rfl; omega) rfl (fun n => C_Lseats n p17 p20 p23 h1 u1 hR1.2.2.2.2.1) ?_
  intro N2 ρ2 ν2 v h2 u2 n2 x2 hA2 hH2 hF2 hP2 V1
  obtain ⟨k, hk, V1⟩ := V1
  cases hk
  have V1 : Q_Lseats p17 p20 p23 h1 (.inl (some (.int k))) h2 u2 := ⟨k, rfl, V1⟩
  have b3 : (h2.length : Int) - h1.length ≤ 1 := Int.le_trans (hA2.cost (by decide +kernel)).1 (by decide +kernel)
  have b4 : (u2 : Int) - u1 ≤ 6 := Int.le_trans (hA2.cost (by decide +kernel)).2 (by decide +kernel)
  have hTk : ν2[24]? = some (.int k) := gSt_hd hA2.2.2.1 (by decide +kernel)
  have hlen2 : ν2.length ≤ 25 := by
    rw [← hA2.1.1]
    exact Nat.le_of_eq lYn_e_709
  have hS2 : Stc h2 := hR1.2.2.2.2.1.fr hR1.1 hF2 stW_L_seats
  have hRo2 : Ro ρ2 := hR1.1.pre hP2
  show zE zrx zi 57 243 732 lv1 _ h2 u2 lKK
  refine seg wT_ok lC_e_ok 3000 lY2_e_709 (Nat.le_refl _) (nExt.refl ν2) hlen2 (hA2.reb rb) rfl rfl hH2 (by omega) (by omega) ?_
  intro x hx N3 ρ3 ν3 lv3 st3 h3 u3 x3 hA3 hH3 hF3 hP3
  rw [List.mem_singleton.mp hx] at hA3 ⊢
  clear hx x
  dsimp only at hA3 ⊢
  have hS3 : Stc h3 := hS2.fr hRo2 hF3 stW_nil
  have b5 : (h3.length : Int) - h2.length ≤ 0 := Int.le_trans (hA3.cost (by decide +kernel)).1 (by decide +kernel)
  have b6 : (u3 : Int) - u2 ≤ 0 := Int.le_trans (hA3.cost (by decide +kernel)).2 (by decide +kernel)
  have hE : ∀ p, p < h2.length → ∀ k, gF h3 p k = gF h2 p k := fun p hp k => gFr_F0 hF3 hH2.1 hp k
  have hT : gSt ν3 [23, 20, 17, 2] st3 := hA3.2.2.1
  obtain ⟨w0, sb0, eb0, c0, hb0⟩ := hT.inv
  subst eb0
  rw [x3 _ _ (x2 _ _ o1)] at c0
  cases c0
  obtain ⟨w1, sb1, eb1, c1, hb1⟩ := hb0.inv
  subst eb1
  rw [x3 _ _ (x2 _ _ o2)] at c1
  cases c1
  obtain ⟨w2, sb2, eb2, c2, hb2⟩ := hb1.inv
  subst eb2
  rw [x3 _ _ (x2 _ _ o3)] at c2
  cases c2
  obtain ⟨w3, sb3, eb3, c3, hb3⟩ := hb2.inv
  subst eb3
  rw [x3 _ _ (x2 _ _ hR1.2.2.1)] at c3
  cases c3
  cases hb3.nil
  have hl1 := hR1.2.2.2.2.1.1
  have hl2 := gFr_len hF2
  have hl3 := gFr_len hF3
  have ro3 : Ro ρ3 := hRo2.pre hP3
  refine call_val con_X15_seats vr_243_753 lV2_e_709 rfl rfl (hA3.reb rc) hH3 (by have : k_X15_seats.2.2.2.2.1 = 0 := rfl; omega) (by have : k_X15_seats.2.2.2.2.2.1 = 0 := rfl; omega) rfl (fun n => C_mseats n p17 p20 p23 h3 u3 hS3) ?_
  intro N4 ρ4 ν4 v h4 u4 n4 x4 hA4 hH4 hF4 hP4 V2
  obtain ⟨nd, rd⟩ := lYd0_e_709n
  obtain ⟨r, hr⟩ : ∃ r : Int32, v = .int r := by
    first
      | (obtain ⟨r, h0, hr, -⟩ := V2; cases hr; exact ⟨r, rfl⟩)
      | (obtain ⟨r, hr, -⟩ := V2; cases hr; exact ⟨r, rfl⟩)
  subst hr
  have b7 : (h4.length : Int) - h3.length ≤ 0 := Int.le_trans (hA4.cost (by decide +kernel)).1 (by decide +kernel)
  have b8 : (u4 : Int) - u3 ≤ 0 := Int.le_trans (hA4.cost (by decide +kernel)).2 (by decide +kernel)
  have z1 := ((by
    obtain ⟨y1, y2, y3, y4⟩ := sum_seats (hR1.2.2.2.2.2.2.2.1) hl1 hl2 V1 hE V2
    exact ⟨⟨qFed.fr3 (hR1.2.2.2.2.2.1) hR1.2.2.2.2.1 hR1.1 hH1 hF2 (by decide +kernel) hS2 hRo2 hH2 hF3 hS3 (hRo2.pre hP3) hH3 hF4 (by decide +kernel), qAR.fr3 (hR1.2.2.2.2.2.2.1) hR1.2.2.2.2.1 hR1.1 hH1 hF2 (by decide +kernel) hS2 hRo2 hH2 hF3 hS3 (hRo2.pre hP3) hH3 hF4 (by decide +kernel), y1, qRDy.fr3 (hR1.2.2.2.2.2.2.2.2) hR1.2.2.2.2.1 hR1.1 hH1 hF2 (by decide +kernel) hS2 hRo2 hH2 hF3 hS3 (hRo2.pre hP3) hH3 hF4 (by decide +kernel)⟩, trivial⟩ : qCl h4 ∧ True)).1
  have hR4 : lR ρ4 ν4 h4 := ⟨(hRo2.pre hP3).pre hP4, x4 _ _ (x3 _ _ (x2 _ _ hR1.2.1)), x4 _ _ (x3 _ _ (x2 _ _ hR1.2.2.1)), x4 _ _ (x3 _ _ (x2 _ _ hR1.2.2.2.1)), hS3.fr (hRo2.pre hP3) hF4 stW_X15_seats, z1⟩
  have x14 : nExt ν ν4 := x1.trans (x2.trans (x3.trans x4))
  have hA4 := hA4.reb rd
  show zE zrx zi 57 243 756 lv3 _ h4 u4 lKK
  refine seg wT_ok lC_e_ok 3000 lY3_e_709_0 (Nat.le_refl _) x14 hlen hA4 rfl rfl hH4 (by omega) (by omega) ?_
  intro x hx N5 ρ5 ν5 lv5 st5 h5 u5 x5 hA5 hH5 hF5 hP5
  rw [List.mem_singleton.mp hx] at hA5 ⊢
  clear hx x
  dsimp only at hA5 ⊢
  have b9 : (h5.length : Int) - h4.length ≤ 0 := Int.le_trans (hA5.cost (by decide +kernel)).1 (by decide +kernel)
  have c1 : (u5 : Int) - u4 ≤ 0 := Int.le_trans (hA5.cost (by decide +kernel)).2 (by decide +kernel)
  obtain ⟨j, j1, j2⟩ := l_i hA5 rfl rfl (x5 _ _ v4)
  exact l_next (g := false) ih [0, 1, 2, 3, 15, 5, 6, 7, 8, 9, 10, 11, 12, 13, 14] (by decide +kernel) (by decide +kernel) hA5 rfl hH5 rfl rfl rfl rfl j1 (x5 _ _ v7) (x5 _ _ v9) (x5 _ _ v11) (acc.dear j2 (by omega) (by omega) false (fun z => z)) (by omega) rfl rfl rfl (lR.fr ⟨hR4.1, x5 _ _ (hR.2.1), x5 _ _ (hR.2.2.1), x5 _ _ (hR.2.2.2.1), hR4.2.2.2.2⟩ hH4 hF5 hP5 (nExt.refl ν5) stW_nil rW_nil)
def lYa_e_761 : sS := ([(3, 0, 0), (3, 8, 0), (3, 40, 0), (3, 36, 0), (0, 0, 4088), (0, 8, 4096), (3, 45, 0), (0, 0, 40), (3, 48, 0), (0, 0, 24), (3, 51, 0), (0, 0, 24), (0, 0, 4088), (0, 0, 4088), (3, 1, 0), (0, 1, 1), (0, 1, 4089), (0, -2147483648, 2147483647), (0, 2, 2), (0, 2, 4090), (0, -2147483648, 2147483647), (0, 3, 3), (0, 3, 4091), (0, -2147483648, 2147483647)], [(0, 0), (1, 1), (2, 2), (3, 3), (4, 4)], [3, 23, 20, 17, 1], [(4, 0, 22, 23, 0), (0, 22, 4, 0, 3), (0, 4, 22, 0, -3), (4, 0, 19, 20, 0), (0, 19, 4, 0, 2), (0, 4, 19, 0, -2), (4, 0, 16, 17, 0), (0, 16, 4, 0, 1), (0, 4, 16, 0, -1), (0, 4, 5, 0, -8), (3, 0, 5, 0, 0), (2, 2, 7, 6, 0), (2, 6, 2, 7, 0), (2, 2, 8, 8, 0), (2, 8, 2, 9, 0), (2, 2, 9, 10, 0), (2, 10, 2, 11, 0), (2, 1, 1, 12, 0), (2, 2, 3, 13, 0), (0, 12, 13, 0, 0), (0, 13, 12, 0, 0), (2, 2, 10, 14, 0), (0, 12, 4, 0, 0), (0, 13, 4, 0, 0)], 0, 0, [])
def lYb_e_761 : sS := vZ (cvS zi lYa_e_761 k_L_mood (cx1 k_L_mood))
def lYc_e_761 : sS := ([(3, 0, 0), (3, 8, 0), (3, 40, 0), (3, 36, 0), (0, 0, 4088), (0, 8, 4096), (3, 45, 0), (0, 0, 40), (3, 48, 0), (0, 0, 24), (3, 51, 0), (0, 0, 24), (0, 0, 4088), (0, 0, 4088), (3, 1, 0), (0, 1, 1), (0, 1, 4089), (0, -2147483648, 2147483647), (0, 2, 2), (0, 2, 4090), (0, -2147483648, 2147483647), (0, 3, 3), (0, 3, 4091), (0, -2147483648, 2147483647), (0, 0, 2), (0, 1, 1), (0, 2, 2), (0, 3, 3)], [(5, 24), (0, 0), (1, 1), (2, 2), (3, 3), (4, 4)], [23, 20, 17, 2], [(4, 0, 22, 23, 0), (0, 22, 4, 0, 3), (0, 4, 22, 0, -3), (4, 0, 19, 20, 0), (0, 19, 4, 0, 2), (0, 4, 19, 0, -2), (4, 0, 16, 17, 0), (0, 16, 4, 0, 1), (0, 4, 16, 0, -1), (0, 4, 5, 0, -8), (3, 0, 5, 0, 0), (2, 2, 7, 6, 0), (2, 6, 2, 7, 0), (2, 2, 8, 8, 0), (2, 8, 2, 9, 0), (2, 2, 9, 10, 0), (2, 10, 2, 11, 0), (2, 1, 1, 12, 0), (2, 2, 3, 13, 0), (0, 12, 13, 0, 0), (0, 13, 12, 0, 0), (2, 2, 10, 14, 0), (0, 12, 4, 0, 0), (0, 13, 4, 0, 0)], 0, 0, [])
theorem lY1_e_761 : chk zrx zi wT (wRo wSites_15) (wRo wTags_15) lC_e [] 0 0 15 3000 false [(781, lYa_e_761, [])] none 57 243 761 (vZ lM_e) (fun _ _ => false) = true := by decide +kernel
theorem lY2_e_761 : chk zrx zi wT (wRo wSites_15) (wRo wTags_15) lC_e [] 0 0 25 3000 false [(805, lYc_e_761, [])] none 57 243 784 lYb_e_761 (fun _ _ => false) = true := by decide +kernel
theorem lV1_e_761 : cvOk zrx zi wT 243 781 56 lYa_e_761 k_L_mood = true := by decide +kernel
theorem lV2_e_761 : cvOk zrx zi wT 243 805 56 lYc_e_761 k_X15_mood = true := by decide +kernel
theorem lYn_e_761 : lYb_e_761.1.length = 25 := by decide +kernel
theorem lYr_e_761 : (vZ lM_e).2.2.2.1.all (fun f => !(f.1 == 7)) = true ∧ lYa_e_761.2.2.2.1.all (fun f => !(f.1 == 7)) = true ∧ (cvS zi lYa_e_761 k_L_mood (cx1 k_L_mood)).2.2.2.1.all (fun f => !(f.1 == 7)) = true ∧ lYc_e_761.2.2.2.1.all (fun f => !(f.1 == 7)) = true := by decide +kernel
def lYd0_e_761 : sS := vZ (cvS zi lYc_e_761 k_X15_mood (cxi k_X15_mood 0))
theorem lYd0_e_761n : lYd0_e_761.1.length = 29 ∧ (cvS zi lYc_e_761 k_X15_mood (cxi k_X15_mood 0)).2.2.2.1.all (fun f => !(f.1 == 7)) = true := by decide +kernel
theorem lY3_e_761_0 : chk zrx zi wT (wRo wSites_15) (wRo wTags_15) lC_e [] 0 0 15 3000 false [(27, lT_eza, [])] none 57 243 808 lYd0_e_761 (fun _ _ => false) = true := by decide +kernel
set_option maxRecDepth 20000 in
theorem lA_e_761 {n : Nat} (ih : lIH n) {hb ub : Nat} {N : Int} {ρ : List Nat} {ν : List Value} {lv : List (Nat × Value)} {st : List Value} {h : List zC} {u : Nat} {i R C A : Int32} {F : Int} (hA : gA hb ub ρ ν lM_e lv st h u) (hH : tHeap wT N ρ h) (v4 : ν[4]? = some (.int i)) (v7 : ν[7]? = some (.int R)) (v9 : ν[9]? = some (.int C)) (v11 : ν[11]? = some (.int A))
    (i4 : i.toInt ≤ 4096) (acc : lAcc false hb ub i.toInt R.toInt C.toInt A.toInt F) (rm1 : (ub : Int) + 17920 ≤ zSN) (rm2 : (hb : Int) + 1152 ≤ zCM) (hn : 4104 - i.toInt ≤ (n + 1 : Nat)) (hR : lR ρ ν h) : zE zrx zi 57 243 761 lv st h u lKK := by
  obtain ⟨dl1, dl2, dl3, dl4⟩ := lD_lo R.toInt C.toInt A.toInt
  obtain ⟨r0, ra, rb, rc⟩ := lYr_e_761
  have q0 : (h.length : Int) - hb ≤ 0 := hA.2.2.2.2.1
  have q1 : (u : Int) - ub ≤ 0 := hA.2.2.2.2.2
  have hlen : ν.length ≤ 15 := by
    rw [← hA.1.1]
    exact Nat.le_of_eq rfl
  refine seg wT_ok lC_e_ok 3000 lY1_e_761 (Nat.le_refl _) (nExt.refl ν) hlen (hA.reb r0) rfl rfl hH (by omega) (by omega) ?_
  intro x hx N1 ρ1 ν1 lv1 st1 h1 u1 x1 hA1 hH1 hF1 hP1
  rw [List.mem_singleton.mp hx] at hA1 ⊢
  clear hx x
  dsimp only at hA1 ⊢
  have hR1 := hR.fr hH hF1 hP1 x1 stW_nil rW_nil
  have b1 : (h1.length : Int) - h.length ≤ 0 := Int.le_trans (hA1.cost (by decide +kernel)).1 (by decide +kernel)
  have b2 : (u1 : Int) - u ≤ 0 := Int.le_trans (hA1.cost (by decide +kernel)).2 (by decide +kernel)
  have hT : gSt ν1 [3, 23, 20, 17, 1] st1 := hA1.2.2.1
  obtain ⟨w0, sa0, ea0, o0, ha0⟩ := hT.inv
  subst ea0
  rw [hR1.2.2.2.1] at o0
  cases o0
  obtain ⟨w1, sa1, ea1, o1, ha1⟩ := ha0.inv
  subst ea1
  obtain ⟨p23, rfl, -⟩ := hA1.int o1 rfl
  obtain ⟨w2, sa2, ea2, o2, ha2⟩ := ha1.inv
  subst ea2
  obtain ⟨p20, rfl, -⟩ := hA1.int o2 rfl
  obtain ⟨w3, sa3, ea3, o3, ha3⟩ := ha2.inv
  subst ea3
  obtain ⟨p17, rfl, -⟩ := hA1.int o3 rfl
  obtain ⟨w4, sa4, ea4, o4, ha4⟩ := ha3.inv
  subst ea4
  rw [hR1.2.1] at o4
  cases o4
  cases ha4.nil
  obtain ⟨T, L, fs, fa, fbd, t1, t3, fm1⟩ := hR1.2.2.2.2.2.1
  obtain ⟨cnt, el, c0, c2, c1, cel, h0c, h24, -⟩ := hR1.2.2.2.2.2.2.1
  obtain ⟨dd, d1, d2⟩ := hR1.2.2.2.2.2.2.2.2
  have t2 : L ≤ 60 := fm1.l60
  refine call_val con_L_mood vr_243_781 lV1_e_761 rfl rfl (hA1.reb ra) hH1 (by have : k_L_mood.2.2.2.2.1 = 1 := rfl; omega) (by have : k_L_mood.2.2.2.2.2.1 = 6 := rfl; omega) rfl (fun n => C_Lmood n p17 p20 p23 h1 u1 hR1.2.2.2.2.1) ?_
  intro N2 ρ2 ν2 v h2 u2 n2 x2 hA2 hH2 hF2 hP2 V1
  obtain ⟨k, hk, V1⟩ := V1
  cases hk
  have V1 : Q_Lmood p17 p20 p23 h1 (.inl (some (.int k))) h2 u2 := ⟨k, rfl, V1⟩
  have b3 : (h2.length : Int) - h1.length ≤ 1 := Int.le_trans (hA2.cost (by decide +kernel)).1 (by decide +kernel)
  have b4 : (u2 : Int) - u1 ≤ 6 := Int.le_trans (hA2.cost (by decide +kernel)).2 (by decide +kernel)
  have hTk : ν2[24]? = some (.int k) := gSt_hd hA2.2.2.1 (by decide +kernel)
  have hlen2 : ν2.length ≤ 25 := by
    rw [← hA2.1.1]
    exact Nat.le_of_eq lYn_e_761
  have hS2 : Stc h2 := hR1.2.2.2.2.1.fr hR1.1 hF2 stW_L_mood
  have hRo2 : Ro ρ2 := hR1.1.pre hP2
  show zE zrx zi 57 243 784 lv1 _ h2 u2 lKK
  refine seg wT_ok lC_e_ok 3000 lY2_e_761 (Nat.le_refl _) (nExt.refl ν2) hlen2 (hA2.reb rb) rfl rfl hH2 (by omega) (by omega) ?_
  intro x hx N3 ρ3 ν3 lv3 st3 h3 u3 x3 hA3 hH3 hF3 hP3
  rw [List.mem_singleton.mp hx] at hA3 ⊢
  clear hx x
  dsimp only at hA3 ⊢
  have hS3 : Stc h3 := hS2.fr hRo2 hF3 stW_nil
  have b5 : (h3.length : Int) - h2.length ≤ 0 := Int.le_trans (hA3.cost (by decide +kernel)).1 (by decide +kernel)
  have b6 : (u3 : Int) - u2 ≤ 0 := Int.le_trans (hA3.cost (by decide +kernel)).2 (by decide +kernel)
  have hE : ∀ p, p < h2.length → ∀ k, gF h3 p k = gF h2 p k := fun p hp k => gFr_F0 hF3 hH2.1 hp k
  have hT : gSt ν3 [23, 20, 17, 2] st3 := hA3.2.2.1
  obtain ⟨w0, sb0, eb0, c0, hb0⟩ := hT.inv
  subst eb0
  rw [x3 _ _ (x2 _ _ o1)] at c0
  cases c0
  obtain ⟨w1, sb1, eb1, c1, hb1⟩ := hb0.inv
  subst eb1
  rw [x3 _ _ (x2 _ _ o2)] at c1
  cases c1
  obtain ⟨w2, sb2, eb2, c2, hb2⟩ := hb1.inv
  subst eb2
  rw [x3 _ _ (x2 _ _ o3)] at c2
  cases c2
  obtain ⟨w3, sb3, eb3, c3, hb3⟩ := hb2.inv
  subst eb3
  rw [x3 _ _ (x2 _ _ hR1.2.2.1)] at c3
  cases c3
  cases hb3.nil
  have hl1 := hR1.2.2.2.2.1.1
  have hl2 := gFr_len hF2
  have hl3 := gFr_len hF3
  have ro3 : Ro ρ3 := hRo2.pre hP3
  refine call_val con_X15_mood vr_243_805 lV2_e_761 rfl rfl (hA3.reb rc) hH3 (by have : k_X15_mood.2.2.2.2.1 = 0 := rfl; omega) (by have : k_X15_mood.2.2.2.2.2.1 = 0 := rfl; omega) rfl (fun n => C_mmood n p17 p20 p23 h3 u3 hS3) ?_
  intro N4 ρ4 ν4 v h4 u4 n4 x4 hA4 hH4 hF4 hP4 V2
  obtain ⟨nd, rd⟩ := lYd0_e_761n
  obtain ⟨r, hr⟩ : ∃ r : Int32, v = .int r := by
    first
      | (obtain ⟨r, h0, hr, -⟩ := V2; cases hr; exact ⟨r, rfl⟩)
      | (obtain ⟨r, hr, -⟩ := V2; cases hr; exact ⟨r, rfl⟩)
  subst hr
  have b7 : (h4.length : Int) - h3.length ≤ 0 := Int.le_trans (hA4.cost (by decide +kernel)).1 (by decide +kernel)
  have b8 : (u4 : Int) - u3 ≤ 0 := Int.le_trans (hA4.cost (by decide +kernel)).2 (by decide +kernel)
  have z1 := ((by
    obtain ⟨y1, y2, y3, y4⟩ := sum_mood (hR1.2.2.2.2.2.2.2.1) hl1 hl2 V1 hE V2
    exact ⟨⟨qFed.fr3 (hR1.2.2.2.2.2.1) hR1.2.2.2.2.1 hR1.1 hH1 hF2 (by decide +kernel) hS2 hRo2 hH2 hF3 hS3 (hRo2.pre hP3) hH3 hF4 (by decide +kernel), qAR.fr3 (hR1.2.2.2.2.2.2.1) hR1.2.2.2.2.1 hR1.1 hH1 hF2 (by decide +kernel) hS2 hRo2 hH2 hF3 hS3 (hRo2.pre hP3) hH3 hF4 (by decide +kernel), y1, qRDy.fr3 (hR1.2.2.2.2.2.2.2.2) hR1.2.2.2.2.1 hR1.1 hH1 hF2 (by decide +kernel) hS2 hRo2 hH2 hF3 hS3 (hRo2.pre hP3) hH3 hF4 (by decide +kernel)⟩, trivial⟩ : qCl h4 ∧ True)).1
  have hR4 : lR ρ4 ν4 h4 := ⟨(hRo2.pre hP3).pre hP4, x4 _ _ (x3 _ _ (x2 _ _ hR1.2.1)), x4 _ _ (x3 _ _ (x2 _ _ hR1.2.2.1)), x4 _ _ (x3 _ _ (x2 _ _ hR1.2.2.2.1)), hS3.fr (hRo2.pre hP3) hF4 stW_X15_mood, z1⟩
  have x14 : nExt ν ν4 := x1.trans (x2.trans (x3.trans x4))
  have hA4 := hA4.reb rd
  show zE zrx zi 57 243 808 lv3 _ h4 u4 lKK
  refine seg wT_ok lC_e_ok 3000 lY3_e_761_0 (Nat.le_refl _) x14 hlen hA4 rfl rfl hH4 (by omega) (by omega) ?_
  intro x hx N5 ρ5 ν5 lv5 st5 h5 u5 x5 hA5 hH5 hF5 hP5
  rw [List.mem_singleton.mp hx] at hA5 ⊢
  clear hx x
  dsimp only at hA5 ⊢
  have b9 : (h5.length : Int) - h4.length ≤ 0 := Int.le_trans (hA5.cost (by decide +kernel)).1 (by decide +kernel)
  have c1 : (u5 : Int) - u4 ≤ 0 := Int.le_trans (hA5.cost (by decide +kernel)).2 (by decide +kernel)
  obtain ⟨j, j1, j2⟩ := l_i hA5 rfl rfl (x5 _ _ v4)
  exact l_next (g := false) ih [0, 1, 2, 3, 15, 5, 6, 7, 8, 9, 10, 11, 12, 13, 14] (by decide +kernel) (by decide +kernel) hA5 rfl hH5 rfl rfl rfl rfl j1 (x5 _ _ v7) (x5 _ _ v9) (x5 _ _ v11) (acc.dear j2 (by omega) (by omega) false (fun z => z)) (by omega) rfl rfl rfl (lR.fr ⟨hR4.1, x5 _ _ (hR.2.1), x5 _ _ (hR.2.2.1), x5 _ _ (hR.2.2.2.1), hR4.2.2.2.2⟩ hH4 hF5 hP5 (nExt.refl ν5) stW_nil rW_nil)
def lYa_e_813 : sS := ([(3, 0, 0), (3, 8, 0), (3, 40, 0), (3, 36, 0), (0, 0, 4088), (0, 8, 4096), (3, 45, 0), (0, 0, 40), (3, 48, 0), (0, 0, 24), (3, 51, 0), (0, 0, 24), (0, 0, 4088), (0, 0, 4088), (3, 1, 0), (0, 1, 1), (0, 1, 4089), (0, -2147483648, 2147483647), (0, 2, 2), (0, 2, 4090), (0, -2147483648, 2147483647)], [(0, 0), (1, 1), (2, 2), (3, 3), (4, 4)], [3, 20, 17, 1], [(4, 0, 19, 20, 0), (0, 19, 4, 0, 2), (0, 4, 19, 0, -2), (4, 0, 16, 17, 0), (0, 16, 4, 0, 1), (0, 4, 16, 0, -1), (0, 4, 5, 0, -8), (3, 0, 5, 0, 0), (2, 2, 7, 6, 0), (2, 6, 2, 7, 0), (2, 2, 8, 8, 0), (2, 8, 2, 9, 0), (2, 2, 9, 10, 0), (2, 10, 2, 11, 0), (2, 1, 1, 12, 0), (2, 2, 3, 13, 0), (0, 12, 13, 0, 0), (0, 13, 12, 0, 0), (2, 2, 10, 14, 0), (0, 12, 4, 0, 0), (0, 13, 4, 0, 0)], 0, 0, [])
def lYb_e_813 : sS := vZ (cvS zi lYa_e_813 k_L_taste (cx1 k_L_taste))
def lYc_e_813 : sS := ([(3, 0, 0), (3, 8, 0), (3, 40, 0), (3, 36, 0), (0, 0, 4088), (0, 8, 4096), (3, 45, 0), (0, 0, 40), (3, 48, 0), (0, 0, 24), (3, 51, 0), (0, 0, 24), (0, 0, 4088), (0, 0, 4088), (3, 1, 0), (0, 1, 1), (0, 1, 4089), (0, -2147483648, 2147483647), (0, 2, 2), (0, 2, 4090), (0, -2147483648, 2147483647), (0, 0, 2), (0, 1, 1), (0, 2, 2)], [(5, 21), (0, 0), (1, 1), (2, 2), (3, 3), (4, 4)], [20, 17, 2], [(4, 0, 19, 20, 0), (0, 19, 4, 0, 2), (0, 4, 19, 0, -2), (4, 0, 16, 17, 0), (0, 16, 4, 0, 1), (0, 4, 16, 0, -1), (0, 4, 5, 0, -8), (3, 0, 5, 0, 0), (2, 2, 7, 6, 0), (2, 6, 2, 7, 0), (2, 2, 8, 8, 0), (2, 8, 2, 9, 0), (2, 2, 9, 10, 0), (2, 10, 2, 11, 0), (2, 1, 1, 12, 0), (2, 2, 3, 13, 0), (0, 12, 13, 0, 0), (0, 13, 12, 0, 0), (2, 2, 10, 14, 0), (0, 12, 4, 0, 0), (0, 13, 4, 0, 0)], 0, 0, [])
theorem lY1_e_813 : chk zrx zi wT (wRo wSites_15) (wRo wTags_15) lC_e [] 0 0 15 3000 false [(827, lYa_e_813, [])] none 57 243 813 (vZ lM_e) (fun _ _ => false) = true := by decide +kernel
theorem lY2_e_813 : chk zrx zi wT (wRo wSites_15) (wRo wTags_15) lC_e [] 0 0 22 3000 false [(845, lYc_e_813, [])] none 57 243 830 lYb_e_813 (fun _ _ => false) = true := by decide +kernel
theorem lV1_e_813 : cvOk zrx zi wT 243 827 56 lYa_e_813 k_L_taste = true := by decide +kernel
theorem lV2_e_813 : cvOk zrx zi wT 243 845 56 lYc_e_813 k_X15_taste = true := by decide +kernel
theorem lYn_e_813 : lYb_e_813.1.length = 22 := by decide +kernel
theorem lYr_e_813 : (vZ lM_e).2.2.2.1.all (fun f => !(f.1 == 7)) = true ∧ lYa_e_813.2.2.2.1.all (fun f => !(f.1 == 7)) = true ∧ (cvS zi lYa_e_813 k_L_taste (cx1 k_L_taste)).2.2.2.1.all (fun f => !(f.1 == 7)) = true ∧ lYc_e_813.2.2.2.1.all (fun f => !(f.1 == 7)) = true := by decide +kernel
def lYd0_e_813 : sS := vZ (cvS zi lYc_e_813 k_X15_taste (cxi k_X15_taste 0))
theorem lYd0_e_813n : lYd0_e_813.1.length = 25 ∧ (cvS zi lYc_e_813 k_X15_taste (cxi k_X15_taste 0)).2.2.2.1.all (fun f => !(f.1 == 7)) = true := by decide +kernel
theorem lY3_e_813_0 : chk zrx zi wT (wRo wSites_15) (wRo wTags_15) lC_e [] 0 0 15 3000 false [(27, lT_eza, [])] none 57 243 848 lYd0_e_813 (fun _ _ => false) = true := by decide +kernel
set_option maxRecDepth 20000 in
theorem lA_e_813 {n : Nat} (ih : lIH n) {hb ub : Nat} {N : Int} {ρ : List Nat} {ν : List Value} {lv : List (Nat × Value)} {st : List Value} {h : List zC} {u : Nat} {i R C A : Int32} {F : Int} (hA : gA hb ub ρ ν lM_e lv st h u) (hH : tHeap wT N ρ h) (v4 : ν[4]? = some (.int i)) (v7 : ν[7]? = some (.int R)) (v9 : ν[9]? = some (.int C)) (v11 : ν[11]? = some (.int A))
    (i4 : i.toInt ≤ 4096) (acc : lAcc false hb ub i.toInt R.toInt C.toInt A.toInt F) (rm1 : (ub : Int) + 17920 ≤ zSN) (rm2 : (hb : Int) + 1152 ≤ zCM) (hn : 4104 - i.toInt ≤ (n + 1 : Nat)) (hR : lR ρ ν h) : zE zrx zi 57 243 813 lv st h u lKK := by
  obtain ⟨dl1, dl2, dl3, dl4⟩ := lD_lo R.toInt C.toInt A.toInt
  obtain ⟨r0, ra, rb, rc⟩ := lYr_e_813
  have q0 : (h.length : Int) - hb ≤ 0 := hA.2.2.2.2.1
  have q1 : (u : Int) - ub ≤ 0 := hA.2.2.2.2.2
  have hlen : ν.length ≤ 15 := by
    rw [← hA.1.1]
    exact Nat.le_of_eq rfl
  refine seg wT_ok lC_e_ok 3000 lY1_e_813 (Nat.le_refl _) (nExt.refl ν) hlen (hA.reb r0) rfl rfl hH (by omega) (by omega) ?_
  intro x hx N1 ρ1 ν1 lv1 st1 h1 u1 x1 hA1 hH1 hF1 hP1
  rw [List.mem_singleton.mp hx] at hA1 ⊢
  clear hx x
  dsimp only at hA1 ⊢
  have hR1 := hR.fr hH hF1 hP1 x1 stW_nil rW_nil
  have b1 : (h1.length : Int) - h.length ≤ 0 := Int.le_trans (hA1.cost (by decide +kernel)).1 (by decide +kernel)
  have b2 : (u1 : Int) - u ≤ 0 := Int.le_trans (hA1.cost (by decide +kernel)).2 (by decide +kernel)
  have hT : gSt ν1 [3, 20, 17, 1] st1 := hA1.2.2.1
  obtain ⟨w0, sa0, ea0, o0, ha0⟩ := hT.inv
  subst ea0
  rw [hR1.2.2.2.1] at o0
  cases o0
  obtain ⟨w1, sa1, ea1, o1, ha1⟩ := ha0.inv
  subst ea1
  obtain ⟨p20, rfl, -⟩ := hA1.int o1 rfl
  obtain ⟨w2, sa2, ea2, o2, ha2⟩ := ha1.inv
  subst ea2
  obtain ⟨p17, rfl, -⟩ := hA1.int o2 rfl
  obtain ⟨w3, sa3, ea3, o3, ha3⟩ := ha2.inv
  subst ea3
  rw [hR1.2.1] at o3
  cases o3
  cases ha3.nil
  obtain ⟨T, L, fs, fa, fbd, t1, t3, fm1⟩ := hR1.2.2.2.2.2.1
  obtain ⟨cnt, el, c0, c2, c1, cel, h0c, h24, -⟩ := hR1.2.2.2.2.2.2.1
  obtain ⟨dd, d1, d2⟩ := hR1.2.2.2.2.2.2.2.2
  have t2 : L ≤ 60 := fm1.l60
  refine call_val con_L_taste vr_243_827 lV1_e_813 rfl rfl (hA1.reb ra) hH1 (by have : k_L_taste.2.2.2.2.1 = 1 := rfl; omega) (by have : k_L_taste.2.2.2.2.2.1 = 6 := rfl; omega) rfl (fun n => C_Ltaste n p17 p20 h1 u1 hR1.2.2.2.2.1) ?_
  intro N2 ρ2 ν2 v h2 u2 n2 x2 hA2 hH2 hF2 hP2 V1
  obtain ⟨k, hk, V1⟩ := V1
  cases hk
  have V1 : Q_Ltaste p17 p20 h1 (.inl (some (.int k))) h2 u2 := ⟨k, rfl, V1⟩
  have b3 : (h2.length : Int) - h1.length ≤ 1 := Int.le_trans (hA2.cost (by decide +kernel)).1 (by decide +kernel)
  have b4 : (u2 : Int) - u1 ≤ 6 := Int.le_trans (hA2.cost (by decide +kernel)).2 (by decide +kernel)
  have hTk : ν2[21]? = some (.int k) := gSt_hd hA2.2.2.1 (by decide +kernel)
  have hlen2 : ν2.length ≤ 22 := by
    rw [← hA2.1.1]
    exact Nat.le_of_eq lYn_e_813
  have hS2 : Stc h2 := hR1.2.2.2.2.1.fr hR1.1 hF2 stW_L_taste
  have hRo2 : Ro ρ2 := hR1.1.pre hP2
  show zE zrx zi 57 243 830 lv1 _ h2 u2 lKK
  refine seg wT_ok lC_e_ok 3000 lY2_e_813 (Nat.le_refl _) (nExt.refl ν2) hlen2 (hA2.reb rb) rfl rfl hH2 (by omega) (by omega) ?_
  intro x hx N3 ρ3 ν3 lv3 st3 h3 u3 x3 hA3 hH3 hF3 hP3
  rw [List.mem_singleton.mp hx] at hA3 ⊢
  clear hx x
  dsimp only at hA3 ⊢
  have hS3 : Stc h3 := hS2.fr hRo2 hF3 stW_nil
  have b5 : (h3.length : Int) - h2.length ≤ 0 := Int.le_trans (hA3.cost (by decide +kernel)).1 (by decide +kernel)
  have b6 : (u3 : Int) - u2 ≤ 0 := Int.le_trans (hA3.cost (by decide +kernel)).2 (by decide +kernel)
  have hE : ∀ p, p < h2.length → ∀ k, gF h3 p k = gF h2 p k := fun p hp k => gFr_F0 hF3 hH2.1 hp k
  have hT : gSt ν3 [20, 17, 2] st3 := hA3.2.2.1
  obtain ⟨w0, sb0, eb0, c0, hb0⟩ := hT.inv
  subst eb0
  rw [x3 _ _ (x2 _ _ o1)] at c0
  cases c0
  obtain ⟨w1, sb1, eb1, c1, hb1⟩ := hb0.inv
  subst eb1
  rw [x3 _ _ (x2 _ _ o2)] at c1
  cases c1
  obtain ⟨w2, sb2, eb2, c2, hb2⟩ := hb1.inv
  subst eb2
  rw [x3 _ _ (x2 _ _ hR1.2.2.1)] at c2
  cases c2
  cases hb2.nil
  have hl1 := hR1.2.2.2.2.1.1
  have hl2 := gFr_len hF2
  have hl3 := gFr_len hF3
  have ro3 : Ro ρ3 := hRo2.pre hP3
  refine call_val con_X15_taste vr_243_845 lV2_e_813 rfl rfl (hA3.reb rc) hH3 (by have : k_X15_taste.2.2.2.2.1 = 0 := rfl; omega) (by have : k_X15_taste.2.2.2.2.2.1 = 0 := rfl; omega) rfl (fun n => C_mtaste n p17 p20 h3 u3 hS3) ?_
  intro N4 ρ4 ν4 v h4 u4 n4 x4 hA4 hH4 hF4 hP4 V2
  obtain ⟨nd, rd⟩ := lYd0_e_813n
  obtain ⟨r, hr⟩ : ∃ r : Int32, v = .int r := by
    first
      | (obtain ⟨r, h0, hr, -⟩ := V2; cases hr; exact ⟨r, rfl⟩)
      | (obtain ⟨r, hr, -⟩ := V2; cases hr; exact ⟨r, rfl⟩)
  subst hr
  have b7 : (h4.length : Int) - h3.length ≤ 0 := Int.le_trans (hA4.cost (by decide +kernel)).1 (by decide +kernel)
  have b8 : (u4 : Int) - u3 ≤ 0 := Int.le_trans (hA4.cost (by decide +kernel)).2 (by decide +kernel)
  have z1 := ((by
    obtain ⟨y1, y2, y3, y4⟩ := sum_taste (hR1.2.2.2.2.2.2.2.1) hl1 hl2 V1 hE V2
    exact ⟨⟨qFed.fr3 (hR1.2.2.2.2.2.1) hR1.2.2.2.2.1 hR1.1 hH1 hF2 (by decide +kernel) hS2 hRo2 hH2 hF3 hS3 (hRo2.pre hP3) hH3 hF4 (by decide +kernel), qAR.fr3 (hR1.2.2.2.2.2.2.1) hR1.2.2.2.2.1 hR1.1 hH1 hF2 (by decide +kernel) hS2 hRo2 hH2 hF3 hS3 (hRo2.pre hP3) hH3 hF4 (by decide +kernel), y1, qRDy.fr3 (hR1.2.2.2.2.2.2.2.2) hR1.2.2.2.2.1 hR1.1 hH1 hF2 (by decide +kernel) hS2 hRo2 hH2 hF3 hS3 (hRo2.pre hP3) hH3 hF4 (by decide +kernel)⟩, trivial⟩ : qCl h4 ∧ True)).1
  have hR4 : lR ρ4 ν4 h4 := ⟨(hRo2.pre hP3).pre hP4, x4 _ _ (x3 _ _ (x2 _ _ hR1.2.1)), x4 _ _ (x3 _ _ (x2 _ _ hR1.2.2.1)), x4 _ _ (x3 _ _ (x2 _ _ hR1.2.2.2.1)), hS3.fr (hRo2.pre hP3) hF4 stW_X15_taste, z1⟩
  have x14 : nExt ν ν4 := x1.trans (x2.trans (x3.trans x4))
  have hA4 := hA4.reb rd
  show zE zrx zi 57 243 848 lv3 _ h4 u4 lKK
  refine seg wT_ok lC_e_ok 3000 lY3_e_813_0 (Nat.le_refl _) x14 hlen hA4 rfl rfl hH4 (by omega) (by omega) ?_
  intro x hx N5 ρ5 ν5 lv5 st5 h5 u5 x5 hA5 hH5 hF5 hP5
  rw [List.mem_singleton.mp hx] at hA5 ⊢
  clear hx x
  dsimp only at hA5 ⊢
  have b9 : (h5.length : Int) - h4.length ≤ 0 := Int.le_trans (hA5.cost (by decide +kernel)).1 (by decide +kernel)
  have c1 : (u5 : Int) - u4 ≤ 0 := Int.le_trans (hA5.cost (by decide +kernel)).2 (by decide +kernel)
  obtain ⟨j, j1, j2⟩ := l_i hA5 rfl rfl (x5 _ _ v4)
  exact l_next (g := false) ih [0, 1, 2, 3, 15, 5, 6, 7, 8, 9, 10, 11, 12, 13, 14] (by decide +kernel) (by decide +kernel) hA5 rfl hH5 rfl rfl rfl rfl j1 (x5 _ _ v7) (x5 _ _ v9) (x5 _ _ v11) (acc.dear j2 (by omega) (by omega) false (fun z => z)) (by omega) rfl rfl rfl (lR.fr ⟨hR4.1, x5 _ _ (hR.2.1), x5 _ _ (hR.2.2.1), x5 _ _ (hR.2.2.2.1), hR4.2.2.2.2⟩ hH4 hF5 hP5 (nExt.refl ν5) stW_nil rW_nil)
def lYa_e_853 : sS := ([(3, 0, 0), (3, 8, 0), (3, 40, 0), (3, 36, 0), (0, 0, 4088), (0, 8, 4096), (3, 45, 0), (0, 0, 40), (3, 48, 0), (0, 0, 24), (3, 51, 0), (0, 0, 24), (0, 0, 4088), (0, 0, 4088), (3, 1, 0), (0, 1, 1), (0, 1, 4089), (0, -2147483648, 2147483647), (0, 2, 2), (0, 2, 4090), (0, -2147483648, 2147483647)], [(0, 0), (1, 1), (2, 2), (3, 3), (4, 4)], [3, 20, 17, 1], [(4, 0, 19, 20, 0), (0, 19, 4, 0, 2), (0, 4, 19, 0, -2), (4, 0, 16, 17, 0), (0, 16, 4, 0, 1), (0, 4, 16, 0, -1), (0, 4, 5, 0, -8), (3, 0, 5, 0, 0), (2, 2, 7, 6, 0), (2, 6, 2, 7, 0), (2, 2, 8, 8, 0), (2, 8, 2, 9, 0), (2, 2, 9, 10, 0), (2, 10, 2, 11, 0), (2, 1, 1, 12, 0), (2, 2, 3, 13, 0), (0, 12, 13, 0, 0), (0, 13, 12, 0, 0), (2, 2, 10, 14, 0), (0, 12, 4, 0, 0), (0, 13, 4, 0, 0)], 0, 0, [])
def lYb_e_853 : sS := vZ (cvS zi lYa_e_853 k_L_pledge (cx1 k_L_pledge))
def lYc_e_853 : sS := ([(3, 0, 0), (3, 8, 0), (3, 40, 0), (3, 36, 0), (0, 0, 4088), (0, 8, 4096), (3, 45, 0), (0, 0, 40), (3, 48, 0), (0, 0, 24), (3, 51, 0), (0, 0, 24), (0, 0, 4088), (0, 0, 4088), (3, 1, 0), (0, 1, 1), (0, 1, 4089), (0, -2147483648, 2147483647), (0, 2, 2), (0, 2, 4090), (0, -2147483648, 2147483647), (0, 0, 2), (0, 1, 1), (0, 2, 2)], [(5, 21), (0, 0), (1, 1), (2, 2), (3, 3), (4, 4)], [20, 17, 2], [(4, 0, 19, 20, 0), (0, 19, 4, 0, 2), (0, 4, 19, 0, -2), (4, 0, 16, 17, 0), (0, 16, 4, 0, 1), (0, 4, 16, 0, -1), (0, 4, 5, 0, -8), (3, 0, 5, 0, 0), (2, 2, 7, 6, 0), (2, 6, 2, 7, 0), (2, 2, 8, 8, 0), (2, 8, 2, 9, 0), (2, 2, 9, 10, 0), (2, 10, 2, 11, 0), (2, 1, 1, 12, 0), (2, 2, 3, 13, 0), (0, 12, 13, 0, 0), (0, 13, 12, 0, 0), (2, 2, 10, 14, 0), (0, 12, 4, 0, 0), (0, 13, 4, 0, 0)], 0, 0, [])
theorem lY1_e_853 : chk zrx zi wT (wRo wSites_15) (wRo wTags_15) lC_e [] 0 0 15 3000 false [(867, lYa_e_853, [])] none 57 243 853 (vZ lM_e) (fun _ _ => false) = true := by decide +kernel
theorem lY2_e_853 : chk zrx zi wT (wRo wSites_15) (wRo wTags_15) lC_e [] 0 0 22 3000 false [(885, lYc_e_853, [])] none 57 243 870 lYb_e_853 (fun _ _ => false) = true := by decide +kernel
theorem lV1_e_853 : cvOk zrx zi wT 243 867 56 lYa_e_853 k_L_pledge = true := by decide +kernel
theorem lV2_e_853 : cvOk zrx zi wT 243 885 56 lYc_e_853 k_X15_pledge = true := by decide +kernel
theorem lYn_e_853 : lYb_e_853.1.length = 22 := by decide +kernel
theorem lYr_e_853 : (vZ lM_e).2.2.2.1.all (fun f => !(f.1 == 7)) = true ∧ lYa_e_853.2.2.2.1.all (fun f => !(f.1 == 7)) = true ∧ (cvS zi lYa_e_853 k_L_pledge (cx1 k_L_pledge)).2.2.2.1.all (fun f => !(f.1 == 7)) = true ∧ lYc_e_853.2.2.2.1.all (fun f => !(f.1 == 7)) = true := by decide +kernel
def lYd0_e_853 : sS := vZ (cvS zi lYc_e_853 k_X15_pledge (cxi k_X15_pledge 0))
theorem lYd0_e_853n : lYd0_e_853.1.length = 25 ∧ (cvS zi lYc_e_853 k_X15_pledge (cxi k_X15_pledge 0)).2.2.2.1.all (fun f => !(f.1 == 7)) = true := by decide +kernel
theorem lY3_e_853_0 : chk zrx zi wT (wRo wSites_15) (wRo wTags_15) lC_e [] 0 0 15 3000 false [(27, lT_eza, [])] none 57 243 888 lYd0_e_853 (fun _ _ => false) = true := by decide +kernel
set_option maxRecDepth 20000 in
theorem lA_e_853 {n : Nat} (ih : lIH n) {hb ub : Nat} {N : Int} {ρ : List Nat} {ν : List Value} {lv : List (Nat × Value)} {st : List Value} {h : List zC} {u : Nat} {i R C A : Int32} {F : Int} (hA : gA hb ub ρ ν lM_e lv st h u) (hH : tHeap wT N ρ h) (v4 : ν[4]? = some (.int i)) (v7 : ν[7]? = some (.int R)) (v9 : ν[9]? = some (.int C)) (v11 : ν[11]? = some (.int A))
    (i4 : i.toInt ≤ 4096) (acc : lAcc false hb ub i.toInt R.toInt C.toInt A.toInt F) (rm1 : (ub : Int) + 17920 ≤ zSN) (rm2 : (hb : Int) + 1152 ≤ zCM) (hn : 4104 - i.toInt ≤ (n + 1 : Nat)) (hR : lR ρ ν h) : zE zrx zi 57 243 853 lv st h u lKK := by
  obtain ⟨dl1, dl2, dl3, dl4⟩ := lD_lo R.toInt C.toInt A.toInt
  obtain ⟨r0, ra, rb, rc⟩ := lYr_e_853
  have q0 : (h.length : Int) - hb ≤ 0 := hA.2.2.2.2.1
  have q1 : (u : Int) - ub ≤ 0 := hA.2.2.2.2.2
  have hlen : ν.length ≤ 15 := by
    rw [← hA.1.1]
    exact Nat.le_of_eq rfl
  refine seg wT_ok lC_e_ok 3000 lY1_e_853 (Nat.le_refl _) (nExt.refl ν) hlen (hA.reb r0) rfl rfl hH (by omega) (by omega) ?_
  intro x hx N1 ρ1 ν1 lv1 st1 h1 u1 x1 hA1 hH1 hF1 hP1
  rw [List.mem_singleton.mp hx] at hA1 ⊢
  clear hx x
  dsimp only at hA1 ⊢
  have hR1 := hR.fr hH hF1 hP1 x1 stW_nil rW_nil
  have b1 : (h1.length : Int) - h.length ≤ 0 := Int.le_trans (hA1.cost (by decide +kernel)).1 (by decide +kernel)
  have b2 : (u1 : Int) - u ≤ 0 := Int.le_trans (hA1.cost (by decide +kernel)).2 (by decide +kernel)
  have hT : gSt ν1 [3, 20, 17, 1] st1 := hA1.2.2.1
  obtain ⟨w0, sa0, ea0, o0, ha0⟩ := hT.inv
  subst ea0
  rw [hR1.2.2.2.1] at o0
  cases o0
  obtain ⟨w1, sa1, ea1, o1, ha1⟩ := ha0.inv
  subst ea1
  obtain ⟨p20, rfl, -⟩ := hA1.int o1 rfl
  obtain ⟨w2, sa2, ea2, o2, ha2⟩ := ha1.inv
  subst ea2
  obtain ⟨p17, rfl, -⟩ := hA1.int o2 rfl
  obtain ⟨w3, sa3, ea3, o3, ha3⟩ := ha2.inv
  subst ea3
  rw [hR1.2.1] at o3
  cases o3
  cases ha3.nil
  obtain ⟨T, L, fs, fa, fbd, t1, t3, fm1⟩ := hR1.2.2.2.2.2.1
  obtain ⟨cnt, el, c0, c2, c1, cel, h0c, h24, -⟩ := hR1.2.2.2.2.2.2.1
  obtain ⟨dd, d1, d2⟩ := hR1.2.2.2.2.2.2.2.2
  have t2 : L ≤ 60 := fm1.l60
  refine call_val con_L_pledge vr_243_867 lV1_e_853 rfl rfl (hA1.reb ra) hH1 (by have : k_L_pledge.2.2.2.2.1 = 1 := rfl; omega) (by have : k_L_pledge.2.2.2.2.2.1 = 6 := rfl; omega) rfl (fun n => C_Lpledge n p17 p20 h1 u1 hR1.2.2.2.2.1 c0 h24) ?_
  intro N2 ρ2 ν2 v h2 u2 n2 x2 hA2 hH2 hF2 hP2 V1
  obtain ⟨k, hk, V1⟩ := V1
  cases hk
  have V1 : Q_Lpledge cnt p17 p20 h1 (.inl (some (.int k))) h2 u2 := ⟨k, rfl, V1⟩
  have b3 : (h2.length : Int) - h1.length ≤ 1 := Int.le_trans (hA2.cost (by decide +kernel)).1 (by decide +kernel)
  have b4 : (u2 : Int) - u1 ≤ 6 := Int.le_trans (hA2.cost (by decide +kernel)).2 (by decide +kernel)
  have hTk : ν2[21]? = some (.int k) := gSt_hd hA2.2.2.1 (by decide +kernel)
  have hlen2 : ν2.length ≤ 22 := by
    rw [← hA2.1.1]
    exact Nat.le_of_eq lYn_e_853
  have hS2 : Stc h2 := hR1.2.2.2.2.1.fr hR1.1 hF2 stW_L_pledge
  have hRo2 : Ro ρ2 := hR1.1.pre hP2
  show zE zrx zi 57 243 870 lv1 _ h2 u2 lKK
  refine seg wT_ok lC_e_ok 3000 lY2_e_853 (Nat.le_refl _) (nExt.refl ν2) hlen2 (hA2.reb rb) rfl rfl hH2 (by omega) (by omega) ?_
  intro x hx N3 ρ3 ν3 lv3 st3 h3 u3 x3 hA3 hH3 hF3 hP3
  rw [List.mem_singleton.mp hx] at hA3 ⊢
  clear hx x
  dsimp only at hA3 ⊢
  have hS3 : Stc h3 := hS2.fr hRo2 hF3 stW_nil
  have b5 : (h3.length : Int) - h2.length ≤ 0 := Int.le_trans (hA3.cost (by decide +kernel)).1 (by decide +kernel)
  have b6 : (u3 : Int) - u2 ≤ 0 := Int.le_trans (hA3.cost (by decide +kernel)).2 (by decide +kernel)
  have hE : ∀ p, p < h2.length → ∀ k, gF h3 p k = gF h2 p k := fun p hp k => gFr_F0 hF3 hH2.1 hp k
  have hT : gSt ν3 [20, 17, 2] st3 := hA3.2.2.1
  obtain ⟨w0, sb0, eb0, c0, hb0⟩ := hT.inv
  subst eb0
  rw [x3 _ _ (x2 _ _ o1)] at c0
  cases c0
  obtain ⟨w1, sb1, eb1, c1, hb1⟩ := hb0.inv
  subst eb1
  rw [x3 _ _ (x2 _ _ o2)] at c1
  cases c1
  obtain ⟨w2, sb2, eb2, c2, hb2⟩ := hb1.inv
  subst eb2
  rw [x3 _ _ (x2 _ _ hR1.2.2.1)] at c2
  cases c2
  cases hb2.nil
  have hl1 := hR1.2.2.2.2.1.1
  have hl2 := gFr_len hF2
  have hl3 := gFr_len hF3
  have ro3 : Ro ρ3 := hRo2.pre hP3
  have m2 := (hE 225 (by omega) 2).trans ((gFr_F hF2 (hR1.1 225 51 (by decide +kernel)) (by decide +kernel) (by omega)).trans c2)
  have m1 := (hE 225 (by omega) 1).trans ((gFr_F hF2 (hR1.1 225 51 (by decide +kernel)) (by decide +kernel) (by omega)).trans c1)
  obtain ⟨⟨l, l1, l2⟩, l3, l4, l5, l6, l7, l8⟩ := al_at hH3 ro3 m1 m2
  have l213 : ¬ el = 213 := by omega
  have hA7 : ∀ k, k < cnt.toNatClampNeg → ∃ A : Nat, gF h3 el k = some (.ref A) ∧ 239 ≤ A := fun k hk => by
    obtain ⟨e, e1, e2⟩ := l8 k hk
    exact ⟨e, e1, A_new ro3 e2⟩
  refine call_val con_X15_pledge vr_243_885 lV2_e_853 rfl rfl (hA3.reb rc) hH3 (by have : k_X15_pledge.2.2.2.2.1 = 0 := rfl; omega) (by have : k_X15_pledge.2.2.2.2.2.1 = 0 := rfl; omega) rfl (fun n => C_mpledge n p17 p20 h3 u3 hS3 m1 m2 h0c l213 hA7 (len_236 hH3 ro3)) ?_
  intro N4 ρ4 ν4 v h4 u4 n4 x4 hA4 hH4 hF4 hP4 V2
  obtain ⟨nd, rd⟩ := lYd0_e_853n
  obtain ⟨r, hr⟩ : ∃ r : Int32, v = .int r := by
    first
      | (obtain ⟨r, h0, hr, -⟩ := V2; cases hr; exact ⟨r, rfl⟩)
      | (obtain ⟨r, hr, -⟩ := V2; cases hr; exact ⟨r, rfl⟩)
  subst hr
  have b7 : (h4.length : Int) - h3.length ≤ 0 := Int.le_trans (hA4.cost (by decide +kernel)).1 (by decide +kernel)
  have b8 : (u4 : Int) - u3 ≤ 0 := Int.le_trans (hA4.cost (by decide +kernel)).2 (by decide +kernel)
  have z1 := ((by
    obtain ⟨y1, y2, y3, y4⟩ := sum_pledge hl1 hH1 hR1.1 (hR1.2.2.2.2.2.2.2.1) (hR1.2.2.2.2.2.2.1) c0 c1 h0c h24 hl2 V1 hE V2
    exact ⟨⟨qFed.fr3 (hR1.2.2.2.2.2.1) hR1.2.2.2.2.1 hR1.1 hH1 hF2 (by decide +kernel) hS2 hRo2 hH2 hF3 hS3 (hRo2.pre hP3) hH3 hF4 (by decide +kernel), qAR.fr3 (hR1.2.2.2.2.2.2.1) hR1.2.2.2.2.1 hR1.1 hH1 hF2 (by decide +kernel) hS2 hRo2 hH2 hF3 hS3 (hRo2.pre hP3) hH3 hF4 (by decide +kernel), y1, qRDy.fr3 (hR1.2.2.2.2.2.2.2.2) hR1.2.2.2.2.1 hR1.1 hH1 hF2 (by decide +kernel) hS2 hRo2 hH2 hF3 hS3 (hRo2.pre hP3) hH3 hF4 (by decide +kernel)⟩, trivial⟩ : qCl h4 ∧ True)).1
  have hR4 : lR ρ4 ν4 h4 := ⟨(hRo2.pre hP3).pre hP4, x4 _ _ (x3 _ _ (x2 _ _ hR1.2.1)), x4 _ _ (x3 _ _ (x2 _ _ hR1.2.2.1)), x4 _ _ (x3 _ _ (x2 _ _ hR1.2.2.2.1)), hS3.fr (hRo2.pre hP3) hF4 stW_X15_pledge, z1⟩
  have x14 : nExt ν ν4 := x1.trans (x2.trans (x3.trans x4))
  have hA4 := hA4.reb rd
  show zE zrx zi 57 243 888 lv3 _ h4 u4 lKK
  refine seg wT_ok lC_e_ok 3000 lY3_e_853_0 (Nat.le_refl _) x14 hlen hA4 rfl rfl hH4 (by omega) (by omega) ?_
  intro x hx N5 ρ5 ν5 lv5 st5 h5 u5 x5 hA5 hH5 hF5 hP5
  rw [List.mem_singleton.mp hx] at hA5 ⊢
  clear hx x
  dsimp only at hA5 ⊢
  have b9 : (h5.length : Int) - h4.length ≤ 0 := Int.le_trans (hA5.cost (by decide +kernel)).1 (by decide +kernel)
  have c1 : (u5 : Int) - u4 ≤ 0 := Int.le_trans (hA5.cost (by decide +kernel)).2 (by decide +kernel)
  obtain ⟨j, j1, j2⟩ := l_i hA5 rfl rfl (x5 _ _ v4)
  exact l_next (g := false) ih [0, 1, 2, 3, 15, 5, 6, 7, 8, 9, 10, 11, 12, 13, 14] (by decide +kernel) (by decide +kernel) hA5 rfl hH5 rfl rfl rfl rfl j1 (x5 _ _ v7) (x5 _ _ v9) (x5 _ _ v11) (acc.dear j2 (by omega) (by omega) false (fun z => z)) (by omega) rfl rfl rfl (lR.fr ⟨hR4.1, x5 _ _ (hR.2.1), x5 _ _ (hR.2.2.1), x5 _ _ (hR.2.2.2.1), hR4.2.2.2.2⟩ hH4 hF5 hP5 (nExt.refl ν5) stW_nil rW_nil)
def lYa_e_893 : sS := ([(3, 0, 0), (3, 8, 0), (3, 40, 0), (3, 36, 0), (0, 0, 4088), (0, 8, 4096), (3, 45, 0), (0, 0, 40), (3, 48, 0), (0, 0, 24), (3, 51, 0), (0, 0, 24), (0, 0, 4088), (0, 0, 4088), (3, 1, 0), (0, 1, 1), (0, 1, 4089), (0, -2147483648, 2147483647)], [(0, 0), (1, 1), (2, 2), (3, 3), (4, 4)], [3, 17, 1], [(4, 0, 16, 17, 0), (0, 16, 4, 0, 1), (0, 4, 16, 0, -1), (0, 4, 5, 0, -8), (3, 0, 5, 0, 0), (2, 2, 7, 6, 0), (2, 6, 2, 7, 0), (2, 2, 8, 8, 0), (2, 8, 2, 9, 0), (2, 2, 9, 10, 0), (2, 10, 2, 11, 0), (2, 1, 1, 12, 0), (2, 2, 3, 13, 0), (0, 12, 13, 0, 0), (0, 13, 12, 0, 0), (2, 2, 10, 14, 0), (0, 12, 4, 0, 0), (0, 13, 4, 0, 0)], 0, 0, [])
def lYb_e_893 : sS := vZ (cvS zi lYa_e_893 k_L_vote (cx1 k_L_vote))
def lYc_e_893 : sS := ([(3, 0, 0), (3, 8, 0), (3, 40, 0), (3, 36, 0), (0, 0, 4088), (0, 8, 4096), (3, 45, 0), (0, 0, 40), (3, 48, 0), (0, 0, 24), (3, 51, 0), (0, 0, 24), (0, 0, 4088), (0, 0, 4088), (3, 1, 0), (0, 1, 1), (0, 1, 4089), (0, -2147483648, 2147483647), (0, 0, 2), (0, 1, 1)], [(5, 18), (0, 0), (1, 1), (2, 2), (3, 3), (4, 4)], [17, 2], [(4, 0, 16, 17, 0), (0, 16, 4, 0, 1), (0, 4, 16, 0, -1), (0, 4, 5, 0, -8), (3, 0, 5, 0, 0), (2, 2, 7, 6, 0), (2, 6, 2, 7, 0), (2, 2, 8, 8, 0), (2, 8, 2, 9, 0), (2, 2, 9, 10, 0), (2, 10, 2, 11, 0), (2, 1, 1, 12, 0), (2, 2, 3, 13, 0), (0, 12, 13, 0, 0), (0, 13, 12, 0, 0), (2, 2, 10, 14, 0), (0, 12, 4, 0, 0), (0, 13, 4, 0, 0)], 0, 0, [])
theorem lY1_e_893 : chk zrx zi wT (wRo wSites_15) (wRo wTags_15) lC_e [] 0 0 15 3000 false [(901, lYa_e_893, [])] none 57 243 893 (vZ lM_e) (fun _ _ => false) = true := by decide +kernel
theorem lY2_e_893 : chk zrx zi wT (wRo wSites_15) (wRo wTags_15) lC_e [] 0 0 19 3000 false [(913, lYc_e_893, [])] none 57 243 904 lYb_e_893 (fun _ _ => false) = true := by decide +kernel
theorem lV1_e_893 : cvOk zrx zi wT 243 901 56 lYa_e_893 k_L_vote = true := by decide +kernel
theorem lV2_e_893 : cvOk zrx zi wT 243 913 56 lYc_e_893 k_X15_vote = true := by decide +kernel
theorem lYn_e_893 : lYb_e_893.1.length = 19 := by decide +kernel
theorem lYr_e_893 : (vZ lM_e).2.2.2.1.all (fun f => !(f.1 == 7)) = true ∧ lYa_e_893.2.2.2.1.all (fun f => !(f.1 == 7)) = true ∧ (cvS zi lYa_e_893 k_L_vote (cx1 k_L_vote)).2.2.2.1.all (fun f => !(f.1 == 7)) = true ∧ lYc_e_893.2.2.2.1.all (fun f => !(f.1 == 7)) = true := by decide +kernel
def lYd0_e_893 : sS := vZ (cvS zi lYc_e_893 k_X15_vote (cxi k_X15_vote 0))
theorem lYd0_e_893n : lYd0_e_893.1.length = 21 ∧ (cvS zi lYc_e_893 k_X15_vote (cxi k_X15_vote 0)).2.2.2.1.all (fun f => !(f.1 == 7)) = true := by decide +kernel
theorem lY3_e_893_0 : chk zrx zi wT (wRo wSites_15) (wRo wTags_15) lC_e [] 0 0 15 3000 false [(27, lT_eza, [])] none 57 243 916 lYd0_e_893 (fun _ _ => false) = true := by decide +kernel
set_option maxRecDepth 20000 in
theorem lA_e_893 {n : Nat} (ih : lIH n) {hb ub : Nat} {N : Int} {ρ : List Nat} {ν : List Value} {lv : List (Nat × Value)} {st : List Value} {h : List zC} {u : Nat} {i R C A : Int32} {F : Int} (hA : gA hb ub ρ ν lM_e lv st h u) (hH : tHeap wT N ρ h) (v4 : ν[4]? = some (.int i)) (v7 : ν[7]? = some (.int R)) (v9 : ν[9]? = some (.int C)) (v11 : ν[11]? = some (.int A))
    (i4 : i.toInt ≤ 4096) (acc : lAcc false hb ub i.toInt R.toInt C.toInt A.toInt F) (rm1 : (ub : Int) + 17920 ≤ zSN) (rm2 : (hb : Int) + 1152 ≤ zCM) (hn : 4104 - i.toInt ≤ (n + 1 : Nat)) (hR : lR ρ ν h) : zE zrx zi 57 243 893 lv st h u lKK := by
  obtain ⟨dl1, dl2, dl3, dl4⟩ := lD_lo R.toInt C.toInt A.toInt
  obtain ⟨r0, ra, rb, rc⟩ := lYr_e_893
  have q0 : (h.length : Int) - hb ≤ 0 := hA.2.2.2.2.1
  have q1 : (u : Int) - ub ≤ 0 := hA.2.2.2.2.2
  have hlen : ν.length ≤ 15 := by
    rw [← hA.1.1]
    exact Nat.le_of_eq rfl
  refine seg wT_ok lC_e_ok 3000 lY1_e_893 (Nat.le_refl _) (nExt.refl ν) hlen (hA.reb r0) rfl rfl hH (by omega) (by omega) ?_
  intro x hx N1 ρ1 ν1 lv1 st1 h1 u1 x1 hA1 hH1 hF1 hP1
  rw [List.mem_singleton.mp hx] at hA1 ⊢
  clear hx x
  dsimp only at hA1 ⊢
  have hR1 := hR.fr hH hF1 hP1 x1 stW_nil rW_nil
  have b1 : (h1.length : Int) - h.length ≤ 0 := Int.le_trans (hA1.cost (by decide +kernel)).1 (by decide +kernel)
  have b2 : (u1 : Int) - u ≤ 0 := Int.le_trans (hA1.cost (by decide +kernel)).2 (by decide +kernel)
  have hT : gSt ν1 [3, 17, 1] st1 := hA1.2.2.1
  obtain ⟨w0, sa0, ea0, o0, ha0⟩ := hT.inv
  subst ea0
  rw [hR1.2.2.2.1] at o0
  cases o0
  obtain ⟨w1, sa1, ea1, o1, ha1⟩ := ha0.inv
  subst ea1
  obtain ⟨p17, rfl, -⟩ := hA1.int o1 rfl
  obtain ⟨w2, sa2, ea2, o2, ha2⟩ := ha1.inv
  subst ea2
  rw [hR1.2.1] at o2
  cases o2
  cases ha2.nil
  obtain ⟨T, L, fs, fa, fbd, t1, t3, fm1⟩ := hR1.2.2.2.2.2.1
  obtain ⟨cnt, el, c0, c2, c1, cel, h0c, h24, -⟩ := hR1.2.2.2.2.2.2.1
  obtain ⟨dd, d1, d2⟩ := hR1.2.2.2.2.2.2.2.2
  have t2 : L ≤ 60 := fm1.l60
  refine call_val con_L_vote vr_243_901 lV1_e_893 rfl rfl (hA1.reb ra) hH1 (by have : k_L_vote.2.2.2.2.1 = 1 := rfl; omega) (by have : k_L_vote.2.2.2.2.2.1 = 6 := rfl; omega) rfl (fun n => C_Lvote n p17 h1 u1 hR1.2.2.2.2.1 c0 h24 (clause_at (hR1.2.2.2.2.2.2.1) c0)) ?_
  intro N2 ρ2 ν2 v h2 u2 n2 x2 hA2 hH2 hF2 hP2 V1
  obtain ⟨k, hk, V1⟩ := V1
  cases hk
  have V1 : Q_Lvote cnt p17 h1 (.inl (some (.int k))) h2 u2 := ⟨k, rfl, V1⟩
  have b3 : (h2.length : Int) - h1.length ≤ 1 := Int.le_trans (hA2.cost (by decide +kernel)).1 (by decide +kernel)
  have b4 : (u2 : Int) - u1 ≤ 6 := Int.le_trans (hA2.cost (by decide +kernel)).2 (by decide +kernel)
  have hTk : ν2[18]? = some (.int k) := gSt_hd hA2.2.2.1 (by decide +kernel)
  have hlen2 : ν2.length ≤ 19 := by
    rw [← hA2.1.1]
    exact Nat.le_of_eq lYn_e_893
  have hS2 : Stc h2 := hR1.2.2.2.2.1.fr hR1.1 hF2 stW_L_vote
  have hRo2 : Ro ρ2 := hR1.1.pre hP2
  show zE zrx zi 57 243 904 lv1 _ h2 u2 lKK
  refine seg wT_ok lC_e_ok 3000 lY2_e_893 (Nat.le_refl _) (nExt.refl ν2) hlen2 (hA2.reb rb) rfl rfl hH2 (by omega) (by omega) ?_
  intro x hx N3 ρ3 ν3 lv3 st3 h3 u3 x3 hA3 hH3 hF3 hP3
  rw [List.mem_singleton.mp hx] at hA3 ⊢
  clear hx x
  dsimp only at hA3 ⊢
  have hS3 : Stc h3 := hS2.fr hRo2 hF3 stW_nil
  have b5 : (h3.length : Int) - h2.length ≤ 0 := Int.le_trans (hA3.cost (by decide +kernel)).1 (by decide +kernel)
  have b6 : (u3 : Int) - u2 ≤ 0 := Int.le_trans (hA3.cost (by decide +kernel)).2 (by decide +kernel)
  have hE : ∀ p, p < h2.length → ∀ k, gF h3 p k = gF h2 p k := fun p hp k => gFr_F0 hF3 hH2.1 hp k
  have hT : gSt ν3 [17, 2] st3 := hA3.2.2.1
  obtain ⟨w0, sb0, eb0, c0, hb0⟩ := hT.inv
  subst eb0
  rw [x3 _ _ (x2 _ _ o1)] at c0
  cases c0
  obtain ⟨w1, sb1, eb1, c1, hb1⟩ := hb0.inv
  subst eb1
  rw [x3 _ _ (x2 _ _ hR1.2.2.1)] at c1
  cases c1
  cases hb1.nil
  have hl1 := hR1.2.2.2.2.1.1
  have hl2 := gFr_len hF2
  have hl3 := gFr_len hF3
  have ro3 : Ro ρ3 := hRo2.pre hP3
  have m2 := (hE 225 (by omega) 2).trans ((gFr_F hF2 (hR1.1 225 51 (by decide +kernel)) (by decide +kernel) (by omega)).trans c2)
  have m1 := (hE 225 (by omega) 1).trans ((gFr_F hF2 (hR1.1 225 51 (by decide +kernel)) (by decide +kernel) (by omega)).trans c1)
  obtain ⟨⟨l, l1, l2⟩, l3, l4, l5, l6, l7, l8⟩ := al_at hH3 ro3 m1 m2
  have l213 : ¬ el = 213 := by omega
  have hA7 : ∀ k, k < cnt.toNatClampNeg → ∃ A : Nat, gF h3 el k = some (.ref A) ∧ 239 ≤ A := fun k hk => by
    obtain ⟨e, e1, e2⟩ := l8 k hk
    exact ⟨e, e1, A_new ro3 e2⟩
  refine call_val con_X15_vote vr_243_913 lV2_e_893 rfl rfl (hA3.reb rc) hH3 (by have : k_X15_vote.2.2.2.2.1 = 0 := rfl; omega) (by have : k_X15_vote.2.2.2.2.2.1 = 0 := rfl; omega) rfl (fun n => C_mvote n p17 h3 u3 hS3 m1 m2 h0c l213 hA7 (fun hx A hA => by
    obtain ⟨e, e1, e2⟩ := l8 _ (iN_cl h0c hx)
    rw [hA] at e1
    cases e1
    exact art_ints hH3 e2)) ?_
  intro N4 ρ4 ν4 v h4 u4 n4 x4 hA4 hH4 hF4 hP4 V2
  obtain ⟨nd, rd⟩ := lYd0_e_893n
  obtain ⟨r, hr⟩ : ∃ r : Int32, v = .int r := by
    first
      | (obtain ⟨r, h0, hr, -⟩ := V2; cases hr; exact ⟨r, rfl⟩)
      | (obtain ⟨r, hr, -⟩ := V2; cases hr; exact ⟨r, rfl⟩)
  subst hr
  have b7 : (h4.length : Int) - h3.length ≤ 0 := Int.le_trans (hA4.cost (by decide +kernel)).1 (by decide +kernel)
  have b8 : (u4 : Int) - u3 ≤ 0 := Int.le_trans (hA4.cost (by decide +kernel)).2 (by decide +kernel)
  have z1 := ((by
    obtain ⟨⟨y1, y5⟩, y2, y3, y4⟩ := sum_vote hl1 hH1 hR1.1 (hR1.2.2.2.2.2.2.2.1) (hR1.2.2.2.2.2.2.1) d1 d2 c0 c1 h0c h24 hl2 V1 hE V2
    exact ⟨⟨qFed.fr3 (hR1.2.2.2.2.2.1) hR1.2.2.2.2.1 hR1.1 hH1 hF2 (by decide +kernel) hS2 hRo2 hH2 hF3 hS3 (hRo2.pre hP3) hH3 hF4 (by decide +kernel), y5, y1, qRDy.fr3 (hR1.2.2.2.2.2.2.2.2) hR1.2.2.2.2.1 hR1.1 hH1 hF2 (by decide +kernel) hS2 hRo2 hH2 hF3 hS3 (hRo2.pre hP3) hH3 hF4 (by decide +kernel)⟩, trivial⟩ : qCl h4 ∧ True)).1
  have hR4 : lR ρ4 ν4 h4 := ⟨(hRo2.pre hP3).pre hP4, x4 _ _ (x3 _ _ (x2 _ _ hR1.2.1)), x4 _ _ (x3 _ _ (x2 _ _ hR1.2.2.1)), x4 _ _ (x3 _ _ (x2 _ _ hR1.2.2.2.1)), hS3.fr (hRo2.pre hP3) hF4 stW_X15_vote, z1⟩
  have x14 : nExt ν ν4 := x1.trans (x2.trans (x3.trans x4))
  have hA4 := hA4.reb rd
  show zE zrx zi 57 243 916 lv3 _ h4 u4 lKK
  refine seg wT_ok lC_e_ok 3000 lY3_e_893_0 (Nat.le_refl _) x14 hlen hA4 rfl rfl hH4 (by omega) (by omega) ?_
  intro x hx N5 ρ5 ν5 lv5 st5 h5 u5 x5 hA5 hH5 hF5 hP5
  rw [List.mem_singleton.mp hx] at hA5 ⊢
  clear hx x
  dsimp only at hA5 ⊢
  have b9 : (h5.length : Int) - h4.length ≤ 0 := Int.le_trans (hA5.cost (by decide +kernel)).1 (by decide +kernel)
  have c1 : (u5 : Int) - u4 ≤ 0 := Int.le_trans (hA5.cost (by decide +kernel)).2 (by decide +kernel)
  obtain ⟨j, j1, j2⟩ := l_i hA5 rfl rfl (x5 _ _ v4)
  exact l_next (g := false) ih [0, 1, 2, 3, 15, 5, 6, 7, 8, 9, 10, 11, 12, 13, 14] (by decide +kernel) (by decide +kernel) hA5 rfl hH5 rfl rfl rfl rfl j1 (x5 _ _ v7) (x5 _ _ v9) (x5 _ _ v11) (acc.dear j2 (by omega) (by omega) false (fun z => z)) (by omega) rfl rfl rfl (lR.fr ⟨hR4.1, x5 _ _ (hR.2.1), x5 _ _ (hR.2.2.1), x5 _ _ (hR.2.2.2.1), hR4.2.2.2.2⟩ hH4 hF5 hP5 (nExt.refl ν5) stW_nil rW_nil)
def lYa_e_921 : sS := ([(3, 0, 0), (3, 8, 0), (3, 40, 0), (3, 36, 0), (0, 0, 4088), (0, 8, 4096), (3, 45, 0), (0, 0, 40), (3, 48, 0), (0, 0, 24), (3, 51, 0), (0, 0, 24), (0, 0, 4088), (0, 0, 4088), (3, 1, 0), (0, 1, 1), (0, 1, 4089), (0, -2147483648, 2147483647)], [(0, 0), (1, 1), (2, 2), (3, 3), (4, 4)], [3, 17, 1], [(4, 0, 16, 17, 0), (0, 16, 4, 0, 1), (0, 4, 16, 0, -1), (0, 4, 5, 0, -8), (3, 0, 5, 0, 0), (2, 2, 7, 6, 0), (2, 6, 2, 7, 0), (2, 2, 8, 8, 0), (2, 8, 2, 9, 0), (2, 2, 9, 10, 0), (2, 10, 2, 11, 0), (2, 1, 1, 12, 0), (2, 2, 3, 13, 0), (0, 12, 13, 0, 0), (0, 13, 12, 0, 0), (2, 2, 10, 14, 0), (0, 12, 4, 0, 0), (0, 13, 4, 0, 0)], 0, 0, [])
def lYb_e_921 : sS := vZ (cvS zi lYa_e_921 k_L_repeal (cx1 k_L_repeal))
def lYc_e_921 : sS := ([(3, 0, 0), (3, 8, 0), (3, 40, 0), (3, 36, 0), (0, 0, 4088), (0, 8, 4096), (3, 45, 0), (0, 0, 40), (3, 48, 0), (0, 0, 24), (3, 51, 0), (0, 0, 24), (0, 0, 4088), (0, 0, 4088), (3, 1, 0), (0, 1, 1), (0, 1, 4089), (0, -2147483648, 2147483647), (0, 0, 2), (0, 1, 1)], [(5, 18), (0, 0), (1, 1), (2, 2), (3, 3), (4, 4)], [17, 2], [(4, 0, 16, 17, 0), (0, 16, 4, 0, 1), (0, 4, 16, 0, -1), (0, 4, 5, 0, -8), (3, 0, 5, 0, 0), (2, 2, 7, 6, 0), (2, 6, 2, 7, 0), (2, 2, 8, 8, 0), (2, 8, 2, 9, 0), (2, 2, 9, 10, 0), (2, 10, 2, 11, 0), (2, 1, 1, 12, 0), (2, 2, 3, 13, 0), (0, 12, 13, 0, 0), (0, 13, 12, 0, 0), (2, 2, 10, 14, 0), (0, 12, 4, 0, 0), (0, 13, 4, 0, 0)], 0, 0, [])
theorem lY1_e_921 : chk zrx zi wT (wRo wSites_15) (wRo wTags_15) lC_e [] 0 0 15 3000 false [(929, lYa_e_921, [])] none 57 243 921 (vZ lM_e) (fun _ _ => false) = true := by decide +kernel
theorem lY2_e_921 : chk zrx zi wT (wRo wSites_15) (wRo wTags_15) lC_e [] 0 0 19 3000 false [(941, lYc_e_921, [])] none 57 243 932 lYb_e_921 (fun _ _ => false) = true := by decide +kernel
theorem lV1_e_921 : cvOk zrx zi wT 243 929 56 lYa_e_921 k_L_repeal = true := by decide +kernel
theorem lV2_e_921 : cvOk zrx zi wT 243 941 56 lYc_e_921 k_X15_repeal = true := by decide +kernel
theorem lYn_e_921 : lYb_e_921.1.length = 19 := by decide +kernel
theorem lYr_e_921 : (vZ lM_e).2.2.2.1.all (fun f => !(f.1 == 7)) = true ∧ lYa_e_921.2.2.2.1.all (fun f => !(f.1 == 7)) = true ∧ (cvS zi lYa_e_921 k_L_repeal (cx1 k_L_repeal)).2.2.2.1.all (fun f => !(f.1 == 7)) = true ∧ lYc_e_921.2.2.2.1.all (fun f => !(f.1 == 7)) = true := by decide +kernel
def lYd0_e_921 : sS := vZ (cvS zi lYc_e_921 k_X15_repeal (cxi k_X15_repeal 0))
theorem lYd0_e_921n : lYd0_e_921.1.length = 21 ∧ (cvS zi lYc_e_921 k_X15_repeal (cxi k_X15_repeal 0)).2.2.2.1.all (fun f => !(f.1 == 7)) = true := by decide +kernel
theorem lY3_e_921_0 : chk zrx zi wT (wRo wSites_15) (wRo wTags_15) lC_e [] 0 0 15 3000 false [(27, lT_eza, [])] none 57 243 944 lYd0_e_921 (fun _ _ => false) = true := by decide +kernel
set_option maxRecDepth 20000 in
theorem lA_e_921 {n : Nat} (ih : lIH n) {hb ub : Nat} {N : Int} {ρ : List Nat} {ν : List Value} {lv : List (Nat × Value)} {st : List Value} {h : List zC} {u : Nat} {i R C A : Int32} {F : Int} (hA : gA hb ub ρ ν lM_e lv st h u) (hH : tHeap wT N ρ h) (v4 : ν[4]? = some (.int i)) (v7 : ν[7]? = some (.int R)) (v9 : ν[9]? = some (.int C)) (v11 : ν[11]? = some (.int A))
    (i4 : i.toInt ≤ 4096) (acc : lAcc false hb ub i.toInt R.toInt C.toInt A.toInt F) (rm1 : (ub : Int) + 17920 ≤ zSN) (rm2 : (hb : Int) + 1152 ≤ zCM) (hn : 4104 - i.toInt ≤ (n + 1 : Nat)) (hR : lR ρ ν h) : zE zrx zi 57 243 921 lv st h u lKK := by
  obtain ⟨dl1, dl2, dl3, dl4⟩ := lD_lo R.toInt C.toInt A.toInt
  obtain ⟨r0, ra, rb, rc⟩ := lYr_e_921
  have q0 : (h.length : Int) - hb ≤ 0 := hA.2.2.2.2.1
  have q1 : (u : Int) - ub ≤ 0 := hA.2.2.2.2.2
  have hlen : ν.length ≤ 15 := by
    rw [← hA.1.1]
    exact Nat.le_of_eq rfl
  refine seg wT_ok lC_e_ok 3000 lY1_e_921 (Nat.le_refl _) (nExt.refl ν) hlen (hA.reb r0) rfl rfl hH (by omega) (by omega) ?_
  intro x hx N1 ρ1 ν1 lv1 st1 h1 u1 x1 hA1 hH1 hF1 hP1
  rw [List.mem_singleton.mp hx] at hA1 ⊢
  clear hx x
  dsimp only at hA1 ⊢
  have hR1 := hR.fr hH hF1 hP1 x1 stW_nil rW_nil
  have b1 : (h1.length : Int) - h.length ≤ 0 := Int.le_trans (hA1.cost (by decide +kernel)).1 (by decide +kernel)
  have b2 : (u1 : Int) - u ≤ 0 := Int.le_trans (hA1.cost (by decide +kernel)).2 (by decide +kernel)
  have hT : gSt ν1 [3, 17, 1] st1 := hA1.2.2.1
  obtain ⟨w0, sa0, ea0, o0, ha0⟩ := hT.inv
  subst ea0
  rw [hR1.2.2.2.1] at o0
  cases o0
  obtain ⟨w1, sa1, ea1, o1, ha1⟩ := ha0.inv
  subst ea1
  obtain ⟨p17, rfl, -⟩ := hA1.int o1 rfl
  obtain ⟨w2, sa2, ea2, o2, ha2⟩ := ha1.inv
  subst ea2
  rw [hR1.2.1] at o2
  cases o2
  cases ha2.nil
  obtain ⟨T, L, fs, fa, fbd, t1, t3, fm1⟩ := hR1.2.2.2.2.2.1
  obtain ⟨cnt, el, c0, c2, c1, cel, h0c, h24, -⟩ := hR1.2.2.2.2.2.2.1
  obtain ⟨dd, d1, d2⟩ := hR1.2.2.2.2.2.2.2.2
  have t2 : L ≤ 60 := fm1.l60
  refine call_val con_L_repeal vr_243_929 lV1_e_921 rfl rfl (hA1.reb ra) hH1 (by have : k_L_repeal.2.2.2.2.1 = 1 := rfl; omega) (by have : k_L_repeal.2.2.2.2.2.1 = 6 := rfl; omega) rfl (fun n => C_Lrepeal n p17 h1 u1 hR1.2.2.2.2.1 c0 h24 (clause_at (hR1.2.2.2.2.2.2.1) c0)) ?_
  intro N2 ρ2 ν2 v h2 u2 n2 x2 hA2 hH2 hF2 hP2 V1
  obtain ⟨k, hk, V1⟩ := V1
  cases hk
  have V1 : Q_Lrepeal cnt p17 h1 (.inl (some (.int k))) h2 u2 := ⟨k, rfl, V1⟩
  have b3 : (h2.length : Int) - h1.length ≤ 1 := Int.le_trans (hA2.cost (by decide +kernel)).1 (by decide +kernel)
  have b4 : (u2 : Int) - u1 ≤ 6 := Int.le_trans (hA2.cost (by decide +kernel)).2 (by decide +kernel)
  have hTk : ν2[18]? = some (.int k) := gSt_hd hA2.2.2.1 (by decide +kernel)
  have hlen2 : ν2.length ≤ 19 := by
    rw [← hA2.1.1]
    exact Nat.le_of_eq lYn_e_921
  have hS2 : Stc h2 := hR1.2.2.2.2.1.fr hR1.1 hF2 stW_L_repeal
  have hRo2 : Ro ρ2 := hR1.1.pre hP2
  show zE zrx zi 57 243 932 lv1 _ h2 u2 lKK
  refine seg wT_ok lC_e_ok 3000 lY2_e_921 (Nat.le_refl _) (nExt.refl ν2) hlen2 (hA2.reb rb) rfl rfl hH2 (by omega) (by omega) ?_
  intro x hx N3 ρ3 ν3 lv3 st3 h3 u3 x3 hA3 hH3 hF3 hP3
  rw [List.mem_singleton.mp hx] at hA3 ⊢
  clear hx x
  dsimp only at hA3 ⊢
  have hS3 : Stc h3 := hS2.fr hRo2 hF3 stW_nil
  have b5 : (h3.length : Int) - h2.length ≤ 0 := Int.le_trans (hA3.cost (by decide +kernel)).1 (by decide +kernel)
  have b6 : (u3 : Int) - u2 ≤ 0 := Int.le_trans (hA3.cost (by decide +kernel)).2 (by decide +kernel)
  have hE : ∀ p, p < h2.length → ∀ k, gF h3 p k = gF h2 p k := fun p hp k => gFr_F0 hF3 hH2.1 hp k
  have hT : gSt ν3 [17, 2] st3 := hA3.2.2.1
  obtain ⟨w0, sb0, eb0, c0, hb0⟩ := hT.inv
  subst eb0
  rw [x3 _ _ (x2 _ _ o1)] at c0
  cases c0
  obtain ⟨w1, sb1, eb1, c1, hb1⟩ := hb0.inv
  subst eb1
  rw [x3 _ _ (x2 _ _ hR1.2.2.1)] at c1
  cases c1
  cases hb1.nil
  have hl1 := hR1.2.2.2.2.1.1
  have hl2 := gFr_len hF2
  have hl3 := gFr_len hF3
  have ro3 : Ro ρ3 := hRo2.pre hP3
  have m2 := (hE 225 (by omega) 2).trans ((gFr_F hF2 (hR1.1 225 51 (by decide +kernel)) (by decide +kernel) (by omega)).trans c2)
  have m1 := (hE 225 (by omega) 1).trans ((gFr_F hF2 (hR1.1 225 51 (by decide +kernel)) (by decide +kernel) (by omega)).trans c1)
  obtain ⟨⟨l, l1, l2⟩, l3, l4, l5, l6, l7, l8⟩ := al_at hH3 ro3 m1 m2
  have l213 : ¬ el = 213 := by omega
  have hA7 : ∀ k, k < cnt.toNatClampNeg → ∃ A : Nat, gF h3 el k = some (.ref A) ∧ 239 ≤ A := fun k hk => by
    obtain ⟨e, e1, e2⟩ := l8 k hk
    exact ⟨e, e1, A_new ro3 e2⟩
  refine call_val con_X15_repeal vr_243_941 lV2_e_921 rfl rfl (hA3.reb rc) hH3 (by have : k_X15_repeal.2.2.2.2.1 = 0 := rfl; omega) (by have : k_X15_repeal.2.2.2.2.2.1 = 0 := rfl; omega) rfl (fun n => C_mrepeal n p17 h3 u3 hS3 m1 m2 h0c l213 hA7) ?_
  intro N4 ρ4 ν4 v h4 u4 n4 x4 hA4 hH4 hF4 hP4 V2
  obtain ⟨nd, rd⟩ := lYd0_e_921n
  obtain ⟨r, hr⟩ : ∃ r : Int32, v = .int r := by
    first
      | (obtain ⟨r, h0, hr, -⟩ := V2; cases hr; exact ⟨r, rfl⟩)
      | (obtain ⟨r, hr, -⟩ := V2; cases hr; exact ⟨r, rfl⟩)
  subst hr
  have b7 : (h4.length : Int) - h3.length ≤ 0 := Int.le_trans (hA4.cost (by decide +kernel)).1 (by decide +kernel)
  have b8 : (u4 : Int) - u3 ≤ 0 := Int.le_trans (hA4.cost (by decide +kernel)).2 (by decide +kernel)
  have z1 := ((by
    obtain ⟨y1, y2, y3, y4⟩ := sum_repeal hl1 hH1 hR1.1 (hR1.2.2.2.2.2.2.2.1) (hR1.2.2.2.2.2.2.1) d1 d2 c0 c1 h0c h24 hl2 V1 hE V2
    exact ⟨⟨qFed.fr3 (hR1.2.2.2.2.2.1) hR1.2.2.2.2.1 hR1.1 hH1 hF2 (by decide +kernel) hS2 hRo2 hH2 hF3 hS3 (hRo2.pre hP3) hH3 hF4 (by decide +kernel), y1, qHO.fr3 (hR1.2.2.2.2.2.2.2.1) hR1.2.2.2.2.1 hR1.1 hH1 hF2 (by decide +kernel) hS2 hRo2 hH2 hF3 hS3 (hRo2.pre hP3) hH3 hF4 (by decide +kernel), qRDy.fr3 (hR1.2.2.2.2.2.2.2.2) hR1.2.2.2.2.1 hR1.1 hH1 hF2 (by decide +kernel) hS2 hRo2 hH2 hF3 hS3 (hRo2.pre hP3) hH3 hF4 (by decide +kernel)⟩, trivial⟩ : qCl h4 ∧ True)).1
  have hR4 : lR ρ4 ν4 h4 := ⟨(hRo2.pre hP3).pre hP4, x4 _ _ (x3 _ _ (x2 _ _ hR1.2.1)), x4 _ _ (x3 _ _ (x2 _ _ hR1.2.2.1)), x4 _ _ (x3 _ _ (x2 _ _ hR1.2.2.2.1)), hS3.fr (hRo2.pre hP3) hF4 stW_X15_repeal, z1⟩
  have x14 : nExt ν ν4 := x1.trans (x2.trans (x3.trans x4))
  have hA4 := hA4.reb rd
  show zE zrx zi 57 243 944 lv3 _ h4 u4 lKK
  refine seg wT_ok lC_e_ok 3000 lY3_e_921_0 (Nat.le_refl _) x14 hlen hA4 rfl rfl hH4 (by omega) (by omega) ?_
  intro x hx N5 ρ5 ν5 lv5 st5 h5 u5 x5 hA5 hH5 hF5 hP5
  rw [List.mem_singleton.mp hx] at hA5 ⊢
  clear hx x
  dsimp only at hA5 ⊢
  have b9 : (h5.length : Int) - h4.length ≤ 0 := Int.le_trans (hA5.cost (by decide +kernel)).1 (by decide +kernel)
  have c1 : (u5 : Int) - u4 ≤ 0 := Int.le_trans (hA5.cost (by decide +kernel)).2 (by decide +kernel)
  obtain ⟨j, j1, j2⟩ := l_i hA5 rfl rfl (x5 _ _ v4)
  exact l_next (g := false) ih [0, 1, 2, 3, 15, 5, 6, 7, 8, 9, 10, 11, 12, 13, 14] (by decide +kernel) (by decide +kernel) hA5 rfl hH5 rfl rfl rfl rfl j1 (x5 _ _ v7) (x5 _ _ v9) (x5 _ _ v11) (acc.dear j2 (by omega) (by omega) false (fun z => z)) (by omega) rfl rfl rfl (lR.fr ⟨hR4.1, x5 _ _ (hR.2.1), x5 _ _ (hR.2.2.1), x5 _ _ (hR.2.2.2.1), hR4.2.2.2.2⟩ hH4 hF5 hP5 (nExt.refl ν5) stW_nil rW_nil)
def lYa_e_1057 : sS := ([(3, 0, 0), (3, 8, 0), (3, 40, 0), (3, 36, 0), (0, 0, 4088), (0, 8, 4096), (3, 45, 0), (0, 0, 40), (3, 48, 0), (0, 0, 24), (3, 51, 0), (0, 0, 24), (0, 0, 4088), (0, 0, 4088), (3, 1, 0), (0, 1, 1), (0, 1, 4089), (0, -2147483648, 2147483647)], [(0, 0), (1, 1), (2, 2), (3, 3), (4, 4)], [3, 17, 1], [(4, 0, 16, 17, 0), (0, 16, 4, 0, 1), (0, 4, 16, 0, -1), (0, 4, 5, 0, -8), (3, 0, 5, 0, 0), (2, 2, 7, 6, 0), (2, 6, 2, 7, 0), (2, 2, 8, 8, 0), (2, 8, 2, 9, 0), (2, 2, 9, 10, 0), (2, 10, 2, 11, 0), (2, 1, 1, 12, 0), (2, 2, 3, 13, 0), (0, 12, 13, 0, 0), (0, 13, 12, 0, 0), (2, 2, 10, 14, 0), (0, 12, 4, 0, 0), (0, 13, 4, 0, 0)], 0, 0, [])
def lYb_e_1057 : sS := vZ (cvS zi lYa_e_1057 k_L_pass (cx1 k_L_pass))
def lYc_e_1057 : sS := ([(3, 0, 0), (3, 8, 0), (3, 40, 0), (3, 36, 0), (0, 0, 4088), (0, 8, 4096), (3, 45, 0), (0, 0, 40), (3, 48, 0), (0, 0, 24), (3, 51, 0), (0, 0, 24), (0, 0, 4088), (0, 0, 4088), (3, 1, 0), (0, 1, 1), (0, 1, 4089), (0, -2147483648, 2147483647), (0, 0, 2), (0, 1, 1)], [(5, 18), (0, 0), (1, 1), (2, 2), (3, 3), (4, 4)], [17, 2], [(4, 0, 16, 17, 0), (0, 16, 4, 0, 1), (0, 4, 16, 0, -1), (0, 4, 5, 0, -8), (3, 0, 5, 0, 0), (2, 2, 7, 6, 0), (2, 6, 2, 7, 0), (2, 2, 8, 8, 0), (2, 8, 2, 9, 0), (2, 2, 9, 10, 0), (2, 10, 2, 11, 0), (2, 1, 1, 12, 0), (2, 2, 3, 13, 0), (0, 12, 13, 0, 0), (0, 13, 12, 0, 0), (2, 2, 10, 14, 0), (0, 12, 4, 0, 0), (0, 13, 4, 0, 0)], 0, 0, [])
theorem lY1_e_1057 : chk zrx zi wT (wRo wSites_15) (wRo wTags_15) lC_e [] 0 0 15 3000 false [(1065, lYa_e_1057, [])] none 57 243 1057 (vZ lM_e) (fun _ _ => false) = true := by decide +kernel
theorem lY2_e_1057 : chk zrx zi wT (wRo wSites_15) (wRo wTags_15) lC_e [] 0 0 19 3000 false [(1077, lYc_e_1057, [])] none 57 243 1068 lYb_e_1057 (fun _ _ => false) = true := by decide +kernel
theorem lV1_e_1057 : cvOk zrx zi wT 243 1065 56 lYa_e_1057 k_L_pass = true := by decide +kernel
theorem lV2_e_1057 : cvOk zrx zi wT 243 1077 56 lYc_e_1057 k_X15_pass = true := by decide +kernel
theorem lYn_e_1057 : lYb_e_1057.1.length = 19 := by decide +kernel
theorem lYr_e_1057 : (vZ lM_e).2.2.2.1.all (fun f => !(f.1 == 7)) = true ∧ lYa_e_1057.2.2.2.1.all (fun f => !(f.1 == 7)) = true ∧ (cvS zi lYa_e_1057 k_L_pass (cx1 k_L_pass)).2.2.2.1.all (fun f => !(f.1 == 7)) = true ∧ lYc_e_1057.2.2.2.1.all (fun f => !(f.1 == 7)) = true := by decide +kernel
def lYd0_e_1057 : sS := vZ (cvS zi lYc_e_1057 k_X15_pass (cxi k_X15_pass 0))
theorem lYd0_e_1057n : lYd0_e_1057.1.length = 21 ∧ (cvS zi lYc_e_1057 k_X15_pass (cxi k_X15_pass 0)).2.2.2.1.all (fun f => !(f.1 == 7)) = true := by decide +kernel
theorem lY3_e_1057_0 : chk zrx zi wT (wRo wSites_15) (wRo wTags_15) lC_e [] 0 0 15 3000 false [(27, lT_eza, [])] none 57 243 1080 lYd0_e_1057 (fun _ _ => false) = true := by decide +kernel
set_option maxRecDepth 20000 in
theorem lA_e_1057 {n : Nat} (ih : lIH n) {hb ub : Nat} {N : Int} {ρ : List Nat} {ν : List Value} {lv : List (Nat × Value)} {st : List Value} {h : List zC} {u : Nat} {i R C A : Int32} {F : Int} (hA : gA hb ub ρ ν lM_e lv st h u) (hH : tHeap wT N ρ h) (v4 : ν[4]? = some (.int i)) (v7 : ν[7]? = some (.int R)) (v9 : ν[9]? = some (.int C)) (v11 : ν[11]? = some (.int A))
    (i4 : i.toInt ≤ 4096) (acc : lAcc false hb ub i.toInt R.toInt C.toInt A.toInt F) (rm1 : (ub : Int) + 17920 ≤ zSN) (rm2 : (hb : Int) + 1152 ≤ zCM) (hn : 4104 - i.toInt ≤ (n + 1 : Nat)) (hR : lR ρ ν h) : zE zrx zi 57 243 1057 lv st h u lKK := by
  obtain ⟨dl1, dl2, dl3, dl4⟩ := lD_lo R.toInt C.toInt A.toInt
  obtain ⟨r0, ra, rb, rc⟩ := lYr_e_1057
  have q0 : (h.length : Int) - hb ≤ 0 := hA.2.2.2.2.1
  have q1 : (u : Int) - ub ≤ 0 := hA.2.2.2.2.2
  have hlen : ν.length ≤ 15 := by
    rw [← hA.1.1]
    exact Nat.le_of_eq rfl
  refine seg wT_ok lC_e_ok 3000 lY1_e_1057 (Nat.le_refl _) (nExt.refl ν) hlen (hA.reb r0) rfl rfl hH (by omega) (by omega) ?_
  intro x hx N1 ρ1 ν1 lv1 st1 h1 u1 x1 hA1 hH1 hF1 hP1
  rw [List.mem_singleton.mp hx] at hA1 ⊢
  clear hx x
  dsimp only at hA1 ⊢
  have hR1 := hR.fr hH hF1 hP1 x1 stW_nil rW_nil
  have b1 : (h1.length : Int) - h.length ≤ 0 := Int.le_trans (hA1.cost (by decide +kernel)).1 (by decide +kernel)
  have b2 : (u1 : Int) - u ≤ 0 := Int.le_trans (hA1.cost (by decide +kernel)).2 (by decide +kernel)
  have hT : gSt ν1 [3, 17, 1] st1 := hA1.2.2.1
  obtain ⟨w0, sa0, ea0, o0, ha0⟩ := hT.inv
  subst ea0
  rw [hR1.2.2.2.1] at o0
  cases o0
  obtain ⟨w1, sa1, ea1, o1, ha1⟩ := ha0.inv
  subst ea1
  obtain ⟨p17, rfl, -⟩ := hA1.int o1 rfl
  obtain ⟨w2, sa2, ea2, o2, ha2⟩ := ha1.inv
  subst ea2
  rw [hR1.2.1] at o2
  cases o2
  cases ha2.nil
  obtain ⟨T, L, fs, fa, fbd, t1, t3, fm1⟩ := hR1.2.2.2.2.2.1
  obtain ⟨cnt, el, c0, c2, c1, cel, h0c, h24, -⟩ := hR1.2.2.2.2.2.2.1
  obtain ⟨dd, d1, d2⟩ := hR1.2.2.2.2.2.2.2.2
  have t2 : L ≤ 60 := fm1.l60
  refine call_val con_L_pass vr_243_1065 lV1_e_1057 rfl rfl (hA1.reb ra) hH1 (by have : k_L_pass.2.2.2.2.1 = 1 := rfl; omega) (by have : k_L_pass.2.2.2.2.2.1 = 6 := rfl; omega) rfl (fun n => C_Lpass n p17 h1 u1 d1) ?_
  intro N2 ρ2 ν2 v h2 u2 n2 x2 hA2 hH2 hF2 hP2 V1
  obtain ⟨k, hk, V1⟩ := V1
  cases hk
  have V1 : Q_Lpass dd p17 h1 (.inl (some (.int k))) h2 u2 := ⟨k, rfl, V1⟩
  have b3 : (h2.length : Int) - h1.length ≤ 1 := Int.le_trans (hA2.cost (by decide +kernel)).1 (by decide +kernel)
  have b4 : (u2 : Int) - u1 ≤ 6 := Int.le_trans (hA2.cost (by decide +kernel)).2 (by decide +kernel)
  have hTk : ν2[18]? = some (.int k) := gSt_hd hA2.2.2.1 (by decide +kernel)
  have hlen2 : ν2.length ≤ 19 := by
    rw [← hA2.1.1]
    exact Nat.le_of_eq lYn_e_1057
  have hS2 : Stc h2 := hR1.2.2.2.2.1.fr hR1.1 hF2 stW_L_pass
  have hRo2 : Ro ρ2 := hR1.1.pre hP2
  show zE zrx zi 57 243 1068 lv1 _ h2 u2 lKK
  refine seg wT_ok lC_e_ok 3000 lY2_e_1057 (Nat.le_refl _) (nExt.refl ν2) hlen2 (hA2.reb rb) rfl rfl hH2 (by omega) (by omega) ?_
  intro x hx N3 ρ3 ν3 lv3 st3 h3 u3 x3 hA3 hH3 hF3 hP3
  rw [List.mem_singleton.mp hx] at hA3 ⊢
  clear hx x
  dsimp only at hA3 ⊢
  have hS3 : Stc h3 := hS2.fr hRo2 hF3 stW_nil
  have b5 : (h3.length : Int) - h2.length ≤ 0 := Int.le_trans (hA3.cost (by decide +kernel)).1 (by decide +kernel)
  have b6 : (u3 : Int) - u2 ≤ 0 := Int.le_trans (hA3.cost (by decide +kernel)).2 (by decide +kernel)
  have hE : ∀ p, p < h2.length → ∀ k, gF h3 p k = gF h2 p k := fun p hp k => gFr_F0 hF3 hH2.1 hp k
  have hT : gSt ν3 [17, 2] st3 := hA3.2.2.1
  obtain ⟨w0, sb0, eb0, c0, hb0⟩ := hT.inv
  subst eb0
  rw [x3 _ _ (x2 _ _ o1)] at c0
  cases c0
  obtain ⟨w1, sb1, eb1, c1, hb1⟩ := hb0.inv
  subst eb1
  rw [x3 _ _ (x2 _ _ hR1.2.2.1)] at c1
  cases c1
  cases hb1.nil
  have hl1 := hR1.2.2.2.2.1.1
  have hl2 := gFr_len hF2
  have hl3 := gFr_len hF3
  have ro3 : Ro ρ3 := hRo2.pre hP3
  have d3 := (hE 213 (by omega) 1).trans ((gFr_F hF2 (hR1.1 213 40 (by decide +kernel)) (by decide +kernel) (by omega)).trans d2)
  refine call_val con_X15_pass vr_243_1077 lV2_e_1057 rfl rfl (hA3.reb rc) hH3 (by have : k_X15_pass.2.2.2.2.1 = 0 := rfl; omega) (by have : k_X15_pass.2.2.2.2.2.1 = 0 := rfl; omega) rfl (fun n => C_mpass n p17 h3 u3 d3) ?_
  intro N4 ρ4 ν4 v h4 u4 n4 x4 hA4 hH4 hF4 hP4 V2
  obtain ⟨nd, rd⟩ := lYd0_e_1057n
  obtain ⟨r, hr⟩ : ∃ r : Int32, v = .int r := by
    first
      | (obtain ⟨r, h0, hr, -⟩ := V2; cases hr; exact ⟨r, rfl⟩)
      | (obtain ⟨r, hr, -⟩ := V2; cases hr; exact ⟨r, rfl⟩)
  subst hr
  have b7 : (h4.length : Int) - h3.length ≤ 0 := Int.le_trans (hA4.cost (by decide +kernel)).1 (by decide +kernel)
  have b8 : (u4 : Int) - u3 ≤ 0 := Int.le_trans (hA4.cost (by decide +kernel)).2 (by decide +kernel)
  have z1 := ((⟨⟨qFed.fr3 (hR1.2.2.2.2.2.1) hR1.2.2.2.2.1 hR1.1 hH1 hF2 (by decide +kernel) hS2 hRo2 hH2 hF3 hS3 (hRo2.pre hP3) hH3 hF4 (by decide +kernel), qAR.fr3 (hR1.2.2.2.2.2.2.1) hR1.2.2.2.2.1 hR1.1 hH1 hF2 (by decide +kernel) hS2 hRo2 hH2 hF3 hS3 (hRo2.pre hP3) hH3 hF4 (by decide +kernel), qHO.fr3 (hR1.2.2.2.2.2.2.2.1) hR1.2.2.2.2.1 hR1.1 hH1 hF2 (by decide +kernel) hS2 hRo2 hH2 hF3 hS3 (hRo2.pre hP3) hH3 hF4 (by decide +kernel), sum_pass d1 d2 hl1 hl2 V1 hE V2⟩, trivial⟩ : qCl h4 ∧ True)).1
  have hR4 : lR ρ4 ν4 h4 := ⟨(hRo2.pre hP3).pre hP4, x4 _ _ (x3 _ _ (x2 _ _ hR1.2.1)), x4 _ _ (x3 _ _ (x2 _ _ hR1.2.2.1)), x4 _ _ (x3 _ _ (x2 _ _ hR1.2.2.2.1)), hS3.fr (hRo2.pre hP3) hF4 stW_X15_pass, z1⟩
  have x14 : nExt ν ν4 := x1.trans (x2.trans (x3.trans x4))
  have hA4 := hA4.reb rd
  show zE zrx zi 57 243 1080 lv3 _ h4 u4 lKK
  refine seg wT_ok lC_e_ok 3000 lY3_e_1057_0 (Nat.le_refl _) x14 hlen hA4 rfl rfl hH4 (by omega) (by omega) ?_
  intro x hx N5 ρ5 ν5 lv5 st5 h5 u5 x5 hA5 hH5 hF5 hP5
  rw [List.mem_singleton.mp hx] at hA5 ⊢
  clear hx x
  dsimp only at hA5 ⊢
  have b9 : (h5.length : Int) - h4.length ≤ 0 := Int.le_trans (hA5.cost (by decide +kernel)).1 (by decide +kernel)
  have c1 : (u5 : Int) - u4 ≤ 0 := Int.le_trans (hA5.cost (by decide +kernel)).2 (by decide +kernel)
  obtain ⟨j, j1, j2⟩ := l_i hA5 rfl rfl (x5 _ _ v4)
  exact l_next (g := false) ih [0, 1, 2, 3, 15, 5, 6, 7, 8, 9, 10, 11, 12, 13, 14] (by decide +kernel) (by decide +kernel) hA5 rfl hH5 rfl rfl rfl rfl j1 (x5 _ _ v7) (x5 _ _ v9) (x5 _ _ v11) (acc.dear j2 (by omega) (by omega) false (fun z => z)) (by omega) rfl rfl rfl (lR.fr ⟨hR4.1, x5 _ _ (hR.2.1), x5 _ _ (hR.2.2.1), x5 _ _ (hR.2.2.2.1), hR4.2.2.2.2⟩ hH4 hF5 hP5 (nExt.refl ν5) stW_nil rW_nil)
def lT_fza : sS := ([(3, 0, 0), (3, 8, 0), (3, 40, 0), (3, 36, 0), (0, 0, 4096), (0, 0, 4096), (3, 45, 0), (0, 0, 40), (3, 48, 0), (0, 0, 24), (3, 51, 0), (0, 0, 24), (0, 0, 4096), (0, 0, 4096), (3, 56, 0), (0, 0, 4096)], [(0, 0), (1, 1), (2, 2), (3, 3), (4, 15)], [], [(3, 0, 5, 0, 0), (2, 2, 7, 6, 0), (2, 6, 2, 7, 0), (2, 2, 8, 8, 0), (2, 8, 2, 9, 0), (2, 2, 9, 10, 0), (2, 10, 2, 11, 0), (2, 1, 1, 12, 0), (2, 2, 3, 13, 0), (0, 12, 13, 0, 0), (0, 13, 12, 0, 0), (2, 2, 10, 14, 0), (0, 15, 5, 0, 0), (0, 15, 4, 0, 8), (0, 4, 15, 0, -8), (0, 12, 15, 0, 0), (0, 13, 15, 0, 0)], 0, 0, [])
def lT_fzw : sS := ([(3, 0, 0), (3, 8, 0), (3, 40, 0), (3, 36, 0), (0, 0, 4096), (0, 0, 4096), (3, 45, 0), (0, 0, 40), (3, 48, 0), (0, 0, 24), (3, 51, 0), (0, 0, 24), (0, 0, 4096), (0, 0, 4096), (3, 56, 0), (0, 0, 4096), (0, 0, 24), (3, 1, 0)], [(0, 0), (1, 1), (2, 2), (3, 3), (4, 15)], [], [(3, 0, 5, 0, 0), (2, 2, 7, 6, 0), (2, 6, 2, 7, 0), (2, 2, 8, 8, 0), (2, 8, 2, 9, 0), (2, 2, 9, 10, 0), (2, 10, 2, 16, 0), (2, 1, 1, 12, 0), (2, 2, 3, 13, 0), (0, 12, 13, 0, 0), (0, 13, 12, 0, 0), (2, 2, 10, 17, 0), (0, 15, 5, 0, 0), (0, 15, 4, 0, 8), (0, 4, 15, 0, -8), (0, 12, 15, 0, 0), (0, 16, 11, 0, 1), (0, 11, 16, 0, -1), (0, 13, 15, 0, 0)], 0, 0, [])
def lT_fze : sS := ([(3, 0, 0), (3, 8, 0), (3, 40, 0), (3, 36, 0), (0, 0, 4096), (0, 0, 4096), (3, 45, 0), (0, 0, 40), (3, 48, 0), (0, 0, 24), (3, 51, 0), (0, 0, 24), (0, 0, 4096), (0, 0, 4096), (3, 56, 0), (0, 0, 4096), (3, 1, 0)], [(0, 0), (1, 1), (2, 2), (3, 3), (4, 15)], [], [(3, 0, 5, 0, 0), (2, 2, 7, 6, 0), (2, 6, 2, 7, 0), (2, 2, 8, 8, 0), (2, 8, 2, 9, 0), (2, 2, 9, 10, 0), (2, 10, 2, 11, 0), (2, 1, 1, 12, 0), (2, 2, 3, 13, 0), (0, 12, 13, 0, 0), (0, 13, 12, 0, 0), (2, 2, 10, 16, 0), (0, 15, 5, 0, 0), (0, 15, 4, 0, 8), (0, 4, 15, 0, -8), (0, 12, 15, 0, 0), (0, 13, 15, 0, 0)], 0, 0, [])
def lT_fzf : sS := ([(3, 0, 0), (3, 8, 0), (3, 40, 0), (3, 36, 0), (0, 0, 4096), (0, 0, 4096), (3, 45, 0), (0, 0, 40), (3, 48, 0), (0, 0, 24), (3, 51, 0), (0, 0, 24), (0, 0, 4096), (0, 0, 4096), (3, 56, 0), (0, 0, 4096), (3, 56, 0)], [(0, 0), (1, 1), (2, 2), (3, 3), (4, 15)], [], [(3, 0, 5, 0, 0), (2, 2, 7, 6, 0), (2, 6, 2, 7, 0), (2, 2, 8, 8, 0), (2, 8, 2, 9, 0), (2, 2, 9, 10, 0), (2, 10, 2, 11, 0), (2, 1, 1, 12, 0), (2, 2, 3, 13, 0), (0, 12, 13, 0, 0), (0, 13, 12, 0, 0), (2, 2, 10, 16, 0), (0, 15, 5, 0, 0), (0, 15, 4, 0, 8), (0, 4, 15, 0, -8), (0, 12, 15, 0, 0), (0, 13, 15, 0, 0)], 0, 0, [])
def lYa_f_608 : sS := ([(3, 0, 0), (3, 8, 0), (3, 40, 0), (3, 36, 0), (0, 0, 4088), (0, 8, 4096), (3, 45, 0), (0, 0, 40), (3, 48, 0), (0, 0, 24), (3, 51, 0), (0, 0, 24), (0, 0, 4088), (0, 0, 4088), (3, 56, 0), (0, 1, 1), (0, 1, 4089), (0, -2147483648, 2147483647)], [(0, 0), (1, 1), (2, 2), (3, 3), (4, 4)], [3, 17, 1], [(4, 0, 16, 17, 0), (0, 16, 4, 0, 1), (0, 4, 16, 0, -1), (0, 4, 5, 0, -8), (3, 0, 5, 0, 0), (2, 2, 7, 6, 0), (2, 6, 2, 7, 0), (2, 2, 8, 8, 0), (2, 8, 2, 9, 0), (2, 2, 9, 10, 0), (2, 10, 2, 11, 0), (2, 1, 1, 12, 0), (2, 2, 3, 13, 0), (0, 12, 13, 0, 0), (0, 13, 12, 0, 0), (2, 2, 10, 14, 0), (0, 12, 4, 0, 0), (0, 13, 4, 0, 0)], 0, 0, [])
def lYb_f_608 : sS := vZ (cvS zi lYa_f_608 k_L_feed (cx1 k_L_feed))
def lYc_f_608 : sS := ([(3, 0, 0), (3, 8, 0), (3, 40, 0), (3, 36, 0), (0, 0, 4088), (0, 8, 4096), (3, 45, 0), (0, 0, 40), (3, 48, 0), (0, 0, 24), (3, 51, 0), (0, 0, 24), (0, 0, 4088), (0, 0, 4088), (3, 56, 0), (0, 1, 1), (0, 1, 4089), (0, -2147483648, 2147483647), (0, 0, 2), (0, 1, 1)], [(5, 18), (0, 0), (1, 1), (2, 2), (3, 3), (4, 4)], [17, 2], [(4, 0, 16, 17, 0), (0, 16, 4, 0, 1), (0, 4, 16, 0, -1), (0, 4, 5, 0, -8), (3, 0, 5, 0, 0), (2, 2, 7, 6, 0), (2, 6, 2, 7, 0), (2, 2, 8, 8, 0), (2, 8, 2, 9, 0), (2, 2, 9, 10, 0), (2, 10, 2, 11, 0), (2, 1, 1, 12, 0), (2, 2, 3, 13, 0), (0, 12, 13, 0, 0), (0, 13, 12, 0, 0), (2, 2, 10, 14, 0), (0, 12, 4, 0, 0), (0, 13, 4, 0, 0)], 0, 0, [])
theorem lY1_f_608 : chk zrx zi wT (wRo wSites_15) (wRo wTags_15) lC_f [] 0 0 15 3000 false [(616, lYa_f_608, [])] none 57 243 608 (vZ lM_f) (fun _ _ => false) = true := by decide +kernel
theorem lY2_f_608 : chk zrx zi wT (wRo wSites_15) (wRo wTags_15) lC_f [] 0 0 19 3000 false [(628, lYc_f_608, [])] none 57 243 619 lYb_f_608 (fun _ _ => false) = true := by decide +kernel
theorem lV1_f_608 : cvOk zrx zi wT 243 616 56 lYa_f_608 k_L_feed = true := by decide +kernel
theorem lV2_f_608 : cvOk zrx zi wT 243 628 56 lYc_f_608 k_X15_feed_Lf = true := by decide +kernel
theorem lYk_f_608 : sGet lYb_f_608.1 18 = (0, 0, 2) := by decide +kernel
theorem lYn_f_608 : lYb_f_608.1.length = 19 := by decide +kernel
theorem lYr_f_608 : (vZ lM_f).2.2.2.1.all (fun f => !(f.1 == 7)) = true ∧ lYa_f_608.2.2.2.1.all (fun f => !(f.1 == 7)) = true ∧ (cvS zi lYa_f_608 k_L_feed (cx1 k_L_feed)).2.2.2.1.all (fun f => !(f.1 == 7)) = true ∧ lYc_f_608.2.2.2.1.all (fun f => !(f.1 == 7)) = true := by decide +kernel
def lYd0_f_608 : sS := vZ (cvS zi lYc_f_608 k_X15_feed_Lf (cxi k_X15_feed_Lf 0))
theorem lYd0_f_608n : lYd0_f_608.1.length = 23 ∧ (cvS zi lYc_f_608 k_X15_feed_Lf (cxi k_X15_feed_Lf 0)).2.2.2.1.all (fun f => !(f.1 == 7)) = true := by decide +kernel
def lYf0_f_608 : sS := sNw (sFs (sNr lYd0_f_608 18 0 0) [(2, 2, 0, 18, 0)]) (1, 0, 0) [(2, 3, 0, 23, 0), (17, 23, 20, 0, 0)]
def lYg0_f_608 : sS := sFs (sNr lYd0_f_608 18 1 2) [(2, 2, 0, 18, 0)]
theorem lY3_f_608_0 : chk zrx zi wT (wRo wSites_15) (wRo wTags_15) lC_f [] 0 0 15 3000 false [(27, lT_fzf, [])] none 57 243 631 lYf0_f_608 (fun _ _ => false) = true := by decide +kernel
theorem lY4_f_608_0 : chk zrx zi wT (wRo wSites_15) (wRo wTags_15) lC_f [] 0 0 15 3000 false [(27, lT_fzf, [])] none 57 243 631 lYg0_f_608 (fun _ _ => false) = true := by decide +kernel
def lYd1_f_608 : sS := vZ (cvS zi lYc_f_608 k_X15_feed_Lf (cxi k_X15_feed_Lf 1))
theorem lYd1_f_608n : lYd1_f_608.1.length = 22 ∧ (cvS zi lYc_f_608 k_X15_feed_Lf (cxi k_X15_feed_Lf 1)).2.2.2.1.all (fun f => !(f.1 == 7)) = true := by decide +kernel
def lYf1_f_608 : sS := sNw (sFs (sNr lYd1_f_608 18 0 0) [(2, 2, 0, 18, 0)]) (1, 0, 0) [(2, 3, 0, 22, 0), (17, 22, 20, 0, 0)]
def lYg1_f_608 : sS := sFs (sNr lYd1_f_608 18 1 2) [(2, 2, 0, 18, 0)]
theorem lY3_f_608_1 : chk zrx zi wT (wRo wSites_15) (wRo wTags_15) lC_f [] 0 0 15 3000 false [(27, lT_fza, [])] none 57 243 631 lYf1_f_608 (fun _ _ => false) = true := by decide +kernel
theorem lY4_f_608_1 : chk zrx zi wT (wRo wSites_15) (wRo wTags_15) lC_f [] 0 0 15 3000 false [(27, lT_fza, [])] none 57 243 631 lYg1_f_608 (fun _ _ => false) = true := by decide +kernel
set_option maxRecDepth 20000 in
theorem lA_f_608 {n : Nat} (ih : lIH n) {hb ub : Nat} {N : Int} {ρ : List Nat} {ν : List Value} {lv : List (Nat × Value)} {st : List Value} {h : List zC} {u : Nat} {i R C A : Int32} {F : Int} (hA : gA hb ub ρ ν lM_f lv st h u) (hH : tHeap wT N ρ h) (v4 : ν[4]? = some (.int i)) (v7 : ν[7]? = some (.int R)) (v9 : ν[9]? = some (.int C)) (v11 : ν[11]? = some (.int A))
    (i4 : i.toInt ≤ 4096) (acc : lAcc true hb ub i.toInt R.toInt C.toInt A.toInt F) (rm1 : (ub : Int) + 17920 ≤ zSN) (rm2 : (hb : Int) + 1152 ≤ zCM) (hn : 4104 - i.toInt ≤ (n + 1 : Nat)) (hR : lR ρ ν h) : zE zrx zi 57 243 608 lv st h u lKK := by
  obtain ⟨dl1, dl2, dl3, dl4⟩ := lD_lo R.toInt C.toInt A.toInt
  obtain ⟨r0, ra, rb, rc⟩ := lYr_f_608
  have q0 : (h.length : Int) - hb ≤ 0 := hA.2.2.2.2.1
  have q1 : (u : Int) - ub ≤ 0 := hA.2.2.2.2.2
  have hlen : ν.length ≤ 15 := by
    rw [← hA.1.1]
    exact Nat.le_of_eq rfl
  refine seg wT_ok lC_f_ok 3000 lY1_f_608 (Nat.le_refl _) (nExt.refl ν) hlen (hA.reb r0) rfl rfl hH (by omega) (by omega) ?_
  intro x hx N1 ρ1 ν1 lv1 st1 h1 u1 x1 hA1 hH1 hF1 hP1
  rw [List.mem_singleton.mp hx] at hA1 ⊢
  clear hx x
  dsimp only at hA1 ⊢
  have hR1 := hR.fr hH hF1 hP1 x1 stW_nil rW_nil
  have b1 : (h1.length : Int) - h.length ≤ 0 := Int.le_trans (hA1.cost (by decide +kernel)).1 (by decide +kernel)
  have b2 : (u1 : Int) - u ≤ 0 := Int.le_trans (hA1.cost (by decide +kernel)).2 (by decide +kernel)
  have hT : gSt ν1 [3, 17, 1] st1 := hA1.2.2.1
  obtain ⟨w0, sa0, ea0, o0, ha0⟩ := hT.inv
  subst ea0
  rw [hR1.2.2.2.1] at o0
  cases o0
  obtain ⟨w1, sa1, ea1, o1, ha1⟩ := ha0.inv
  subst ea1
  obtain ⟨p17, rfl, -⟩ := hA1.int o1 rfl
  obtain ⟨w2, sa2, ea2, o2, ha2⟩ := ha1.inv
  subst ea2
  rw [hR1.2.1] at o2
  cases o2
  cases ha2.nil
  obtain ⟨T, L, fs, fa, fbd, t1, t3, fm1⟩ := hR1.2.2.2.2.2.1
  obtain ⟨cnt, el, c0, c2, c1, cel, h0c, h24, -⟩ := hR1.2.2.2.2.2.2.1
  obtain ⟨dd, d1, d2⟩ := hR1.2.2.2.2.2.2.2.2
  have t2 : L ≤ 60 := fm1.l60
  refine call_val con_L_feed vr_243_616 lV1_f_608 rfl rfl (hA1.reb ra) hH1 (by have : k_L_feed.2.2.2.2.1 = 1 := rfl; omega) (by have : k_L_feed.2.2.2.2.2.1 = 6 := rfl; omega) rfl (fun n => C_Lfeed n p17 h1 u1 hR1.2.2.2.2.1 t1 t2) ?_
  intro N2 ρ2 ν2 v h2 u2 n2 x2 hA2 hH2 hF2 hP2 V1
  obtain ⟨k, hk, V1⟩ := V1
  cases hk
  have V1 : Q_Lfeed L p17 h1 (.inl (some (.int k))) h2 u2 := ⟨k, rfl, V1⟩
  have b3 : (h2.length : Int) - h1.length ≤ 1 := Int.le_trans (hA2.cost (by decide +kernel)).1 (by decide +kernel)
  have b4 : (u2 : Int) - u1 ≤ 6 := Int.le_trans (hA2.cost (by decide +kernel)).2 (by decide +kernel)
  have hTk : ν2[18]? = some (.int k) := gSt_hd hA2.2.2.1 (by decide +kernel)
  have hB2 : gA h2.length u2 ρ2 ν2 lYb_f_608 lv1 _ h2 u2 := hA2.reb rb
  obtain ⟨k', ek, kk1, kk2⟩ := hB2.int hTk (by rw [lYk_f_608])
  cases ek
  rw [lYk_f_608] at kk1 kk2
  have hlen2 : ν2.length ≤ 19 := by
    rw [← hA2.1.1]
    exact Nat.le_of_eq lYn_f_608
  have hS2 : Stc h2 := hR1.2.2.2.2.1.fr hR1.1 hF2 stW_L_feed
  have hRo2 : Ro ρ2 := hR1.1.pre hP2
  show zE zrx zi 57 243 619 lv1 _ h2 u2 lKK
  refine seg wT_ok lC_f_ok 3000 lY2_f_608 (Nat.le_refl _) (nExt.refl ν2) hlen2 (hA2.reb rb) rfl rfl hH2 (by omega) (by omega) ?_
  intro x hx N3 ρ3 ν3 lv3 st3 h3 u3 x3 hA3 hH3 hF3 hP3
  rw [List.mem_singleton.mp hx] at hA3 ⊢
  clear hx x
  dsimp only at hA3 ⊢
  have hS3 : Stc h3 := hS2.fr hRo2 hF3 stW_nil
  have b5 : (h3.length : Int) - h2.length ≤ 0 := Int.le_trans (hA3.cost (by decide +kernel)).1 (by decide +kernel)
  have b6 : (u3 : Int) - u2 ≤ 0 := Int.le_trans (hA3.cost (by decide +kernel)).2 (by decide +kernel)
  have hE : ∀ p, p < h2.length → ∀ k, gF h3 p k = gF h2 p k := fun p hp k => gFr_F0 hF3 hH2.1 hp k
  have hT : gSt ν3 [17, 2] st3 := hA3.2.2.1
  obtain ⟨w0, sb0, eb0, c0, hb0⟩ := hT.inv
  subst eb0
  rw [x3 _ _ (x2 _ _ o1)] at c0
  cases c0
  obtain ⟨w1, sb1, eb1, c1, hb1⟩ := hb0.inv
  subst eb1
  rw [x3 _ _ (x2 _ _ hR1.2.2.1)] at c1
  cases c1
  cases hb1.nil
  have hl1 := hR1.2.2.2.2.1.1
  have hl2 := gFr_len hF2
  have hl3 := gFr_len hF3
  have ro3 : Ro ρ3 := hRo2.pre hP3
  have fm2 := fm1.fr hR1.2.2.2.2.1.1 hR1.1 hH1 hF2 (by decide +kernel)
  have fm3 := fm2.fr hS2.1 hRo2 hH2 hF3 (by decide)
  obtain ⟨fb, sb3⟩ := fm3.sb hH3 ro3
  refine call_valn con_X15_feed_Lf vr_243_628 lV2_f_608 (by decide +kernel) (hA3.reb rc) hH3 (by have : k_X15_feed_Lf.2.2.2.2.1 = 6 := rfl; omega) (by have : k_X15_feed_Lf.2.2.2.2.2.1 = 263 := rfl; omega) rfl (fun n => C_mfeed n p17 h3 u3 hS3.1 sb3 fm3.2.1) ?_
  refine ends2 rfl ?_ ?_
  · intro N4 ρ4 ν4 v h4 u4 n4 x4 hA4 hH4 hF4 hP4 V2
    obtain ⟨nd, rd⟩ := lYd0_f_608n
    obtain ⟨r, hr⟩ : ∃ r : Int32, v = .int r := by
      first
        | (obtain ⟨r, h0, hr, -⟩ := V2; cases hr; exact ⟨r, rfl⟩)
        | (obtain ⟨r, hr, -⟩ := V2; cases hr; exact ⟨r, rfl⟩)
    subst hr
    have b7 : (h4.length : Int) - h3.length ≤ 6 := Int.le_trans (hA4.cost (by decide +kernel)).1 (by decide +kernel)
    have b8 : (u4 : Int) - u3 ≤ 263 := Int.le_trans (hA4.cost (by decide +kernel)).2 (by decide +kernel)
    obtain ⟨z1, z2, z3, z4⟩ := (by
    obtain ⟨y1, y2, y3, y4⟩ := sum_feed t1 t3 fm3 hl1 hl2 hl3 V1 hE V2
    exact ⟨⟨y1, qAR.fr3 (hR1.2.2.2.2.2.2.1) hR1.2.2.2.2.1 hR1.1 hH1 hF2 (by decide +kernel) hS2 hRo2 hH2 hF3 hS3 (hRo2.pre hP3) hH3 hF4 (by decide +kernel), qHO.fr3 (hR1.2.2.2.2.2.2.2.1) hR1.2.2.2.2.1 hR1.1 hH1 hF2 (by decide +kernel) hS2 hRo2 hH2 hF3 hS3 (hRo2.pre hP3) hH3 hF4 (by decide +kernel), qRDy.fr3 (hR1.2.2.2.2.2.2.2.2) hR1.2.2.2.2.1 hR1.1 hH1 hF2 (by decide +kernel) hS2 hRo2 hH2 hF3 hS3 (hRo2.pre hP3) hH3 hF4 (by decide +kernel)⟩, y2, y3, y4⟩ : qCl h4 ∧ gF h4 213 0 = some (.int k) ∧ (k = 0 → gF h4 238 0 = some (.long r.toInt64)) ∧ (k = 0 ∨ k = 1 ∨ k = 2))
    have hR4 : lR ρ4 ν4 h4 := ⟨(hRo2.pre hP3).pre hP4, x4 _ _ (x3 _ _ (x2 _ _ hR1.2.1)), x4 _ _ (x3 _ _ (x2 _ _ hR1.2.2.1)), x4 _ _ (x3 _ _ (x2 _ _ hR1.2.2.2.1)), hS3.fr (hRo2.pre hP3) hF4 stW_X15_feed_Lf, z1⟩
    have x14 : nExt ν ν4 := x1.trans (x2.trans (x3.trans x4))
    have vk : ν4[18]? = some (.int k) := x4 _ _ (x3 _ _ hTk)
    have vr : ν4[20]? = some (.int r) := gSt_hd hA4.2.2.1 (by decide +kernel)
    have hA4 := hA4.reb rd
    show zE zrx zi 57 243 631 lv3 _ h4 u4 lKK
    by_cases hk : k = 0
    · subst hk
      have hA6 := (((hA4.nr (lo := 0) (hi := 0) vk (by decide) (by decide)).fs (G := [(2, 2, 0, 18, 0)]) (fun f hf => by
        rw [List.mem_singleton.mp hf]
        exact fH2 hR4.2.2.1 z2 vk)).nw (t := (1, 0, 0)) (v := .long r.toInt64) (G := [(2, 3, 0, 23, 0), (17, 23, 20, 0, 0)]) ⟨_, rfl⟩ (fun f hf => by
        have hl : ν4.length = 23 := by
          rw [← hA4.1.1]
          exact nd
        have vl : (ν4 ++ [Value.long r.toInt64])[23]? = some (.long r.toInt64) := by
          rw [← hl]
          exact nNew _ _
        rcases List.mem_cons.mp hf with rfl | hf
        · exact fH2 (nExt_app _ _ _ _ hR4.2.2.2.1) (z3 rfl) vl
        · rw [List.mem_singleton.mp hf]
          exact ⟨r, nExt_app _ _ _ _ vr, vl⟩))
      refine seg wT_ok lC_f_ok 3000 lY3_f_608_0 (Nat.le_refl _) (x14.trans (nExt_app _ _)) hlen hA6 rfl rfl hH4 (by omega) (by omega) ?_
      intro x hx N5 ρ5 ν5 lv5 st5 h5 u5 x5 hA5 hH5 hF5 hP5
      rw [List.mem_singleton.mp hx] at hA5 ⊢
      clear hx x
      dsimp only at hA5 ⊢
      have b9 : (h5.length : Int) - h4.length ≤ 0 := Int.le_trans (hA5.cost (by decide +kernel)).1 (by decide +kernel)
      have c1 : (u5 : Int) - u4 ≤ 0 := Int.le_trans (hA5.cost (by decide +kernel)).2 (by decide +kernel)
      obtain ⟨j, j1, j2⟩ := l_i hA5 rfl rfl (x5 _ _ v4)
      exact l_next (g := true) ih [0, 1, 2, 3, 15, 5, 6, 7, 8, 9, 10, 11, 12, 13, 16] (by decide +kernel) (by decide +kernel) hA5 rfl hH5 rfl rfl rfl rfl j1 (x5 _ _ v7) (x5 _ _ v9) (x5 _ _ v11) (acc.feed j2 (by omega) (by omega)) (by omega) rfl rfl rfl (lR.fr ⟨hR4.1, x5 _ _ (hR.2.1), x5 _ _ (hR.2.2.1), x5 _ _ (hR.2.2.2.1), hR4.2.2.2.2⟩ hH4 hF5 hP5 (nExt.refl ν5) stW_nil rW_nil)
    · have hk2 : 1 ≤ k.toInt ∧ k.toInt ≤ 2 := by
        have kk1 : 0 ≤ k.toInt := kk1
        have kk2 : k.toInt ≤ 2 := kk2
        have : ¬ k.toInt = 0 := fun z => hk (Int32.toInt_inj.mp z)
        omega
      have hA6 := (hA4.nr (lo := 1) (hi := 2) vk hk2.1 hk2.2).fs (G := [(2, 2, 0, 18, 0)]) (fun f hf => by
        rw [List.mem_singleton.mp hf]
        exact fH2 hR4.2.2.1 z2 vk)
      refine seg wT_ok lC_f_ok 3000 lY4_f_608_0 (Nat.le_refl _) x14 hlen hA6 rfl rfl hH4 (by omega) (by omega) ?_
      intro x hx N5 ρ5 ν5 lv5 st5 h5 u5 x5 hA5 hH5 hF5 hP5
      rw [List.mem_singleton.mp hx] at hA5 ⊢
      clear hx x
      dsimp only at hA5 ⊢
      have b9 : (h5.length : Int) - h4.length ≤ 0 := Int.le_trans (hA5.cost (by decide +kernel)).1 (by decide +kernel)
      have c1 : (u5 : Int) - u4 ≤ 0 := Int.le_trans (hA5.cost (by decide +kernel)).2 (by decide +kernel)
      obtain ⟨j, j1, j2⟩ := l_i hA5 rfl rfl (x5 _ _ v4)
      exact l_next (g := true) ih [0, 1, 2, 3, 15, 5, 6, 7, 8, 9, 10, 11, 12, 13, 16] (by decide +kernel) (by decide +kernel) hA5 rfl hH5 rfl rfl rfl rfl j1 (x5 _ _ v7) (x5 _ _ v9) (x5 _ _ v11) (acc.feed j2 (by omega) (by omega)) (by omega) rfl rfl rfl (lR.fr ⟨hR4.1, x5 _ _ (hR.2.1), x5 _ _ (hR.2.2.1), x5 _ _ (hR.2.2.2.1), hR4.2.2.2.2⟩ hH4 hF5 hP5 (nExt.refl ν5) stW_nil rW_nil)
  · intro N4 ρ4 ν4 v h4 u4 n4 x4 hA4 hH4 hF4 hP4 V2
    obtain ⟨nd, rd⟩ := lYd1_f_608n
    obtain ⟨r, hr⟩ : ∃ r : Int32, v = .int r := by
      first
        | (obtain ⟨r, h0, hr, -⟩ := V2; cases hr; exact ⟨r, rfl⟩)
        | (obtain ⟨r, hr, -⟩ := V2; cases hr; exact ⟨r, rfl⟩)
    subst hr
    have b7 : (h4.length : Int) - h3.length ≤ 0 := Int.le_trans (hA4.cost (by decide +kernel)).1 (by decide +kernel)
    have b8 : (u4 : Int) - u3 ≤ 0 := Int.le_trans (hA4.cost (by decide +kernel)).2 (by decide +kernel)
    obtain ⟨z1, z2, z3, z4⟩ := (by
    obtain ⟨y1, y2, y3, y4⟩ := sum_feed t1 t3 fm3 hl1 hl2 hl3 V1 hE V2
    exact ⟨⟨y1, qAR.fr3 (hR1.2.2.2.2.2.2.1) hR1.2.2.2.2.1 hR1.1 hH1 hF2 (by decide +kernel) hS2 hRo2 hH2 hF3 hS3 (hRo2.pre hP3) hH3 hF4 (by decide +kernel), qHO.fr3 (hR1.2.2.2.2.2.2.2.1) hR1.2.2.2.2.1 hR1.1 hH1 hF2 (by decide +kernel) hS2 hRo2 hH2 hF3 hS3 (hRo2.pre hP3) hH3 hF4 (by decide +kernel), qRDy.fr3 (hR1.2.2.2.2.2.2.2.2) hR1.2.2.2.2.1 hR1.1 hH1 hF2 (by decide +kernel) hS2 hRo2 hH2 hF3 hS3 (hRo2.pre hP3) hH3 hF4 (by decide +kernel)⟩, y2, y3, y4⟩ : qCl h4 ∧ gF h4 213 0 = some (.int k) ∧ (k = 0 → gF h4 238 0 = some (.long r.toInt64)) ∧ (k = 0 ∨ k = 1 ∨ k = 2))
    have hR4 : lR ρ4 ν4 h4 := ⟨(hRo2.pre hP3).pre hP4, x4 _ _ (x3 _ _ (x2 _ _ hR1.2.1)), x4 _ _ (x3 _ _ (x2 _ _ hR1.2.2.1)), x4 _ _ (x3 _ _ (x2 _ _ hR1.2.2.2.1)), hS3.fr (hRo2.pre hP3) hF4 stW_X15_feed_Lf, z1⟩
    have x14 : nExt ν ν4 := x1.trans (x2.trans (x3.trans x4))
    have vk : ν4[18]? = some (.int k) := x4 _ _ (x3 _ _ hTk)
    have vr : ν4[20]? = some (.int r) := gSt_hd hA4.2.2.1 (by decide +kernel)
    have hA4 := hA4.reb rd
    show zE zrx zi 57 243 631 lv3 _ h4 u4 lKK
    by_cases hk : k = 0
    · subst hk
      have hA6 := (((hA4.nr (lo := 0) (hi := 0) vk (by decide) (by decide)).fs (G := [(2, 2, 0, 18, 0)]) (fun f hf => by
        rw [List.mem_singleton.mp hf]
        exact fH2 hR4.2.2.1 z2 vk)).nw (t := (1, 0, 0)) (v := .long r.toInt64) (G := [(2, 3, 0, 22, 0), (17, 22, 20, 0, 0)]) ⟨_, rfl⟩ (fun f hf => by
        have hl : ν4.length = 22 := by
          rw [← hA4.1.1]
          exact nd
        have vl : (ν4 ++ [Value.long r.toInt64])[22]? = some (.long r.toInt64) := by
          rw [← hl]
          exact nNew _ _
        rcases List.mem_cons.mp hf with rfl | hf
        · exact fH2 (nExt_app _ _ _ _ hR4.2.2.2.1) (z3 rfl) vl
        · rw [List.mem_singleton.mp hf]
          exact ⟨r, nExt_app _ _ _ _ vr, vl⟩))
      refine seg wT_ok lC_f_ok 3000 lY3_f_608_1 (Nat.le_refl _) (x14.trans (nExt_app _ _)) hlen hA6 rfl rfl hH4 (by omega) (by omega) ?_
      intro x hx N5 ρ5 ν5 lv5 st5 h5 u5 x5 hA5 hH5 hF5 hP5
      rw [List.mem_singleton.mp hx] at hA5 ⊢
      clear hx x
      dsimp only at hA5 ⊢
      have b9 : (h5.length : Int) - h4.length ≤ 0 := Int.le_trans (hA5.cost (by decide +kernel)).1 (by decide +kernel)
      have c1 : (u5 : Int) - u4 ≤ 0 := Int.le_trans (hA5.cost (by decide +kernel)).2 (by decide +kernel)
      obtain ⟨j, j1, j2⟩ := l_i hA5 rfl rfl (x5 _ _ v4)
      exact l_next (g := true) ih [0, 1, 2, 3, 15, 5, 6, 7, 8, 9, 10, 11, 12, 13, 14] (by decide +kernel) (by decide +kernel) hA5 rfl hH5 rfl rfl rfl rfl j1 (x5 _ _ v7) (x5 _ _ v9) (x5 _ _ v11) (acc.dear j2 (by omega) (by omega) true (fun z => z)) (by omega) rfl rfl rfl (lR.fr ⟨hR4.1, x5 _ _ (hR.2.1), x5 _ _ (hR.2.2.1), x5 _ _ (hR.2.2.2.1), hR4.2.2.2.2⟩ hH4 hF5 hP5 (nExt.refl ν5) stW_nil rW_nil)
    · have hk2 : 1 ≤ k.toInt ∧ k.toInt ≤ 2 := by
        have kk1 : 0 ≤ k.toInt := kk1
        have kk2 : k.toInt ≤ 2 := kk2
        have : ¬ k.toInt = 0 := fun z => hk (Int32.toInt_inj.mp z)
        omega
      have hA6 := (hA4.nr (lo := 1) (hi := 2) vk hk2.1 hk2.2).fs (G := [(2, 2, 0, 18, 0)]) (fun f hf => by
        rw [List.mem_singleton.mp hf]
        exact fH2 hR4.2.2.1 z2 vk)
      refine seg wT_ok lC_f_ok 3000 lY4_f_608_1 (Nat.le_refl _) x14 hlen hA6 rfl rfl hH4 (by omega) (by omega) ?_
      intro x hx N5 ρ5 ν5 lv5 st5 h5 u5 x5 hA5 hH5 hF5 hP5
      rw [List.mem_singleton.mp hx] at hA5 ⊢
      clear hx x
      dsimp only at hA5 ⊢
      have b9 : (h5.length : Int) - h4.length ≤ 0 := Int.le_trans (hA5.cost (by decide +kernel)).1 (by decide +kernel)
      have c1 : (u5 : Int) - u4 ≤ 0 := Int.le_trans (hA5.cost (by decide +kernel)).2 (by decide +kernel)
      obtain ⟨j, j1, j2⟩ := l_i hA5 rfl rfl (x5 _ _ v4)
      exact l_next (g := true) ih [0, 1, 2, 3, 15, 5, 6, 7, 8, 9, 10, 11, 12, 13, 14] (by decide +kernel) (by decide +kernel) hA5 rfl hH5 rfl rfl rfl rfl j1 (x5 _ _ v7) (x5 _ _ v9) (x5 _ _ v11) (acc.dear j2 (by omega) (by omega) true (fun z => z)) (by omega) rfl rfl rfl (lR.fr ⟨hR4.1, x5 _ _ (hR.2.1), x5 _ _ (hR.2.2.1), x5 _ _ (hR.2.2.2.1), hR4.2.2.2.2⟩ hH4 hF5 hP5 (nExt.refl ν5) stW_nil rW_nil)
def lYa_f_665 : sS := ([(3, 0, 0), (3, 8, 0), (3, 40, 0), (3, 36, 0), (0, 0, 4088), (0, 8, 4096), (3, 45, 0), (0, 0, 40), (3, 48, 0), (0, 0, 24), (3, 51, 0), (0, 0, 24), (0, 0, 4088), (0, 0, 4088), (3, 56, 0)], [(0, 0), (1, 1), (2, 2), (3, 3), (4, 4)], [3, 1], [(0, 4, 5, 0, -8), (3, 0, 5, 0, 0), (2, 2, 7, 6, 0), (2, 6, 2, 7, 0), (2, 2, 8, 8, 0), (2, 8, 2, 9, 0), (2, 2, 9, 10, 0), (2, 10, 2, 11, 0), (2, 1, 1, 12, 0), (2, 2, 3, 13, 0), (0, 12, 13, 0, 0), (0, 13, 12, 0, 0), (2, 2, 10, 14, 0), (0, 12, 4, 0, 0), (0, 13, 4, 0, 0)], 0, 0, [])
def lYb_f_665 : sS := vZ (cvS zi lYa_f_665 k_L_write (cx1 k_L_write))
def lYc_f_665 : sS := ([(3, 0, 0), (3, 8, 0), (3, 40, 0), (3, 36, 0), (0, 0, 4088), (0, 8, 4096), (3, 45, 0), (0, 0, 40), (3, 48, 0), (0, 0, 24), (3, 51, 0), (0, 0, 24), (0, 0, 4088), (0, 0, 4088), (3, 56, 0), (0, 0, 1)], [(5, 15), (0, 0), (1, 1), (2, 2), (3, 3), (4, 4)], [2], [(0, 4, 5, 0, -8), (3, 0, 5, 0, 0), (2, 2, 7, 6, 0), (2, 6, 2, 7, 0), (2, 2, 8, 8, 0), (2, 8, 2, 9, 0), (2, 2, 9, 10, 0), (2, 10, 2, 11, 0), (2, 1, 1, 12, 0), (2, 2, 3, 13, 0), (0, 12, 13, 0, 0), (0, 13, 12, 0, 0), (2, 2, 10, 14, 0), (0, 12, 4, 0, 0), (0, 13, 4, 0, 0)], 0, 0, [])
theorem lY1_f_665 : chk zrx zi wT (wRo wSites_15) (wRo wTags_15) lC_f [] 0 0 15 3000 false [(667, lYa_f_665, [])] none 57 243 665 (vZ lM_f) (fun _ _ => false) = true := by decide +kernel
theorem lY2_f_665 : chk zrx zi wT (wRo wSites_15) (wRo wTags_15) lC_f [] 0 0 16 3000 false [(673, lYc_f_665, [])] none 57 243 670 lYb_f_665 (fun _ _ => false) = true := by decide +kernel
theorem lV1_f_665 : cvOk zrx zi wT 243 667 56 lYa_f_665 k_L_write = true := by decide +kernel
theorem lV2_f_665 : cvOk zrx zi wT 243 673 56 lYc_f_665 k_X15_write_Lf = true := by decide +kernel
theorem lYn_f_665 : lYb_f_665.1.length = 16 := by decide +kernel
theorem lYr_f_665 : (vZ lM_f).2.2.2.1.all (fun f => !(f.1 == 7)) = true ∧ lYa_f_665.2.2.2.1.all (fun f => !(f.1 == 7)) = true ∧ (cvS zi lYa_f_665 k_L_write (cx1 k_L_write)).2.2.2.1.all (fun f => !(f.1 == 7)) = true ∧ lYc_f_665.2.2.2.1.all (fun f => !(f.1 == 7)) = true := by decide +kernel
def lYd0_f_665 : sS := vZ (cvS zi lYc_f_665 k_X15_write_Lf (cxi k_X15_write_Lf 0))
theorem lYd0_f_665n : lYd0_f_665.1.length = 22 ∧ (cvS zi lYc_f_665 k_X15_write_Lf (cxi k_X15_write_Lf 0)).2.2.2.1.all (fun f => !(f.1 == 7)) = true := by decide +kernel
theorem lY3_f_665_0 : chk zrx zi wT (wRo wSites_15) (wRo wTags_15) lC_f [] 0 0 15 3000 false [(27, lT_fzw, [])] none 57 243 676 lYd0_f_665 (fun _ _ => false) = true := by decide +kernel
def lYd1_f_665 : sS := vZ (cvS zi lYc_f_665 k_X15_write_Lf (cxi k_X15_write_Lf 1))
theorem lYd1_f_665n : lYd1_f_665.1.length = 21 ∧ (cvS zi lYc_f_665 k_X15_write_Lf (cxi k_X15_write_Lf 1)).2.2.2.1.all (fun f => !(f.1 == 7)) = true := by decide +kernel
theorem lY3_f_665_1 : chk zrx zi wT (wRo wSites_15) (wRo wTags_15) lC_f [] 0 0 15 3000 false [(27, lT_fze, [])] none 57 243 676 lYd1_f_665 (fun _ _ => false) = true := by decide +kernel
def lYd2_f_665 : sS := vZ (cvS zi lYc_f_665 k_X15_write_Lf (cxi k_X15_write_Lf 2))
theorem lYd2_f_665n : lYd2_f_665.1.length = 18 ∧ (cvS zi lYc_f_665 k_X15_write_Lf (cxi k_X15_write_Lf 2)).2.2.2.1.all (fun f => !(f.1 == 7)) = true := by decide +kernel
theorem lY3_f_665_2 : chk zrx zi wT (wRo wSites_15) (wRo wTags_15) lC_f [] 0 0 15 3000 false [(27, lT_fza, [])] none 57 243 676 lYd2_f_665 (fun _ _ => false) = true := by decide +kernel
set_option maxRecDepth 20000 in
theorem lA_f_665 {n : Nat} (ih : lIH n) {hb ub : Nat} {N : Int} {ρ : List Nat} {ν : List Value} {lv : List (Nat × Value)} {st : List Value} {h : List zC} {u : Nat} {i R C A : Int32} {F : Int} (hA : gA hb ub ρ ν lM_f lv st h u) (hH : tHeap wT N ρ h) (v4 : ν[4]? = some (.int i)) (v7 : ν[7]? = some (.int R)) (v9 : ν[9]? = some (.int C)) (v11 : ν[11]? = some (.int A))
    (i4 : i.toInt ≤ 4096) (acc : lAcc true hb ub i.toInt R.toInt C.toInt A.toInt F) (rm1 : (ub : Int) + 17920 ≤ zSN) (rm2 : (hb : Int) + 1152 ≤ zCM) (hn : 4104 - i.toInt ≤ (n + 1 : Nat)) (hR : lR ρ ν h) : zE zrx zi 57 243 665 lv st h u lKK := by
  obtain ⟨dl1, dl2, dl3, dl4⟩ := lD_lo R.toInt C.toInt A.toInt
  obtain ⟨r0, ra, rb, rc⟩ := lYr_f_665
  have q0 : (h.length : Int) - hb ≤ 0 := hA.2.2.2.2.1
  have q1 : (u : Int) - ub ≤ 0 := hA.2.2.2.2.2
  have hlen : ν.length ≤ 15 := by
    rw [← hA.1.1]
    exact Nat.le_of_eq rfl
  refine seg wT_ok lC_f_ok 3000 lY1_f_665 (Nat.le_refl _) (nExt.refl ν) hlen (hA.reb r0) rfl rfl hH (by omega) (by omega) ?_
  intro x hx N1 ρ1 ν1 lv1 st1 h1 u1 x1 hA1 hH1 hF1 hP1
  rw [List.mem_singleton.mp hx] at hA1 ⊢
  clear hx x
  dsimp only at hA1 ⊢
  have hR1 := hR.fr hH hF1 hP1 x1 stW_nil rW_nil
  have b1 : (h1.length : Int) - h.length ≤ 0 := Int.le_trans (hA1.cost (by decide +kernel)).1 (by decide +kernel)
  have b2 : (u1 : Int) - u ≤ 0 := Int.le_trans (hA1.cost (by decide +kernel)).2 (by decide +kernel)
  have hT : gSt ν1 [3, 1] st1 := hA1.2.2.1
  obtain ⟨w0, sa0, ea0, o0, ha0⟩ := hT.inv
  subst ea0
  rw [hR1.2.2.2.1] at o0
  cases o0
  obtain ⟨w1, sa1, ea1, o1, ha1⟩ := ha0.inv
  subst ea1
  rw [hR1.2.1] at o1
  cases o1
  cases ha1.nil
  obtain ⟨T, L, fs, fa, fbd, t1, t3, fm1⟩ := hR1.2.2.2.2.2.1
  obtain ⟨cnt, el, c0, c2, c1, cel, h0c, h24, -⟩ := hR1.2.2.2.2.2.2.1
  obtain ⟨dd, d1, d2⟩ := hR1.2.2.2.2.2.2.2.2
  have t2 : L ≤ 60 := fm1.l60
  refine call_val con_L_write vr_243_667 lV1_f_665 rfl rfl (hA1.reb ra) hH1 (by have : k_L_write.2.2.2.2.1 = 3 := rfl; omega) (by have : k_L_write.2.2.2.2.2.1 = 15 := rfl; omega) rfl (fun n => C_Lwrite n  h1 u1 hR1.2.2.2.2.1 h0c h24 t1 t2 t3 c0) ?_
  intro N2 ρ2 ν2 v h2 u2 n2 x2 hA2 hH2 hF2 hP2 V1
  obtain ⟨k, hk, V1⟩ := V1
  cases hk
  have V1 : Q_Lwrite T L cnt  h1 (.inl (some (.int k))) h2 u2 := ⟨k, rfl, V1⟩
  have b3 : (h2.length : Int) - h1.length ≤ 3 := Int.le_trans (hA2.cost (by decide +kernel)).1 (by decide +kernel)
  have b4 : (u2 : Int) - u1 ≤ 15 := Int.le_trans (hA2.cost (by decide +kernel)).2 (by decide +kernel)
  have hTk : ν2[15]? = some (.int k) := gSt_hd hA2.2.2.1 (by decide +kernel)
  have hlen2 : ν2.length ≤ 16 := by
    rw [← hA2.1.1]
    exact Nat.le_of_eq lYn_f_665
  have hS2 : Stc h2 := hR1.2.2.2.2.1.fr hR1.1 hF2 stW_L_write
  have hRo2 : Ro ρ2 := hR1.1.pre hP2
  show zE zrx zi 57 243 670 lv1 _ h2 u2 lKK
  refine seg wT_ok lC_f_ok 3000 lY2_f_665 (Nat.le_refl _) (nExt.refl ν2) hlen2 (hA2.reb rb) rfl rfl hH2 (by omega) (by omega) ?_
  intro x hx N3 ρ3 ν3 lv3 st3 h3 u3 x3 hA3 hH3 hF3 hP3
  rw [List.mem_singleton.mp hx] at hA3 ⊢
  clear hx x
  dsimp only at hA3 ⊢
  have hS3 : Stc h3 := hS2.fr hRo2 hF3 stW_nil
  have b5 : (h3.length : Int) - h2.length ≤ 0 := Int.le_trans (hA3.cost (by decide +kernel)).1 (by decide +kernel)
  have b6 : (u3 : Int) - u2 ≤ 0 := Int.le_trans (hA3.cost (by decide +kernel)).2 (by decide +kernel)
  have hE : ∀ p, p < h2.length → ∀ k, gF h3 p k = gF h2 p k := fun p hp k => gFr_F0 hF3 hH2.1 hp k
  have hT : gSt ν3 [2] st3 := hA3.2.2.1
  obtain ⟨w0, sb0, eb0, c0, hb0⟩ := hT.inv
  subst eb0
  rw [x3 _ _ (x2 _ _ hR1.2.2.1)] at c0
  cases c0
  cases hb0.nil
  have hl1 := hR1.2.2.2.2.1.1
  have hl2 := gFr_len hF2
  have hl3 := gFr_len hF3
  have ro3 : Ro ρ3 := hRo2.pre hP3
  have m2 := (hE 225 (by omega) 2).trans ((gFr_F hF2 (hR1.1 225 51 (by decide +kernel)) (by decide +kernel) (by omega)).trans c2)
  have m1 := (hE 225 (by omega) 1).trans ((gFr_F hF2 (hR1.1 225 51 (by decide +kernel)) (by decide +kernel) (by omega)).trans c1)
  obtain ⟨⟨l, l1, l2⟩, l3, l4, l5, l6, l7, l8⟩ := al_at hH3 ro3 m1 m2
  have l213 : ¬ el = 213 := by omega
  have hA7 : ∀ k, k < cnt.toNatClampNeg → ∃ A : Nat, gF h3 el k = some (.ref A) ∧ 239 ≤ A := fun k hk => by
    obtain ⟨e, e1, e2⟩ := l8 k hk
    exact ⟨e, e1, A_new ro3 e2⟩
  have fm2 := fm1.fr hR1.2.2.2.2.1.1 hR1.1 hH1 hF2 (by decide +kernel)
  have fm3 := fm2.fr hS2.1 hRo2 hH2 hF3 (by decide)
  obtain ⟨fb, sb3⟩ := fm3.sb hH3 ro3
  refine call_valn con_X15_write_Lf vr_243_673 lV2_f_665 (by decide +kernel) (hA3.reb rc) hH3 (by have : k_X15_write_Lf.2.2.2.2.1 = 5 := rfl; omega) (by have : k_X15_write_Lf.2.2.2.2.2.1 = 64 := rfl; omega) rfl (fun n => C_mwrite n  h3 u3 hS3 sb3 fm3.2.1 fm3.2.2.2.1 fm3.2.2.2.2 m1 m2 l1 l2 l3 h0c l213) ?_
  refine ends3 rfl ?_ ?_ ?_
  · intro N4 ρ4 ν4 v h4 u4 n4 x4 hA4 hH4 hF4 hP4 V2
    obtain ⟨nd, rd⟩ := lYd0_f_665n
    obtain ⟨r, hr⟩ : ∃ r : Int32, v = .int r := by
      first
        | (obtain ⟨r, h0, hr, -⟩ := V2; cases hr; exact ⟨r, rfl⟩)
        | (obtain ⟨r, hr, -⟩ := V2; cases hr; exact ⟨r, rfl⟩)
    subst hr
    have b7 : (h4.length : Int) - h3.length ≤ 5 := Int.le_trans (hA4.cost (by decide +kernel)).1 (by decide +kernel)
    have b8 : (u4 : Int) - u3 ≤ 64 := Int.le_trans (hA4.cost (by decide +kernel)).2 (by decide +kernel)
    have z1 := ((by
    obtain ⟨⟨y1, y5⟩, y2, y3, y4⟩ := sum_write (i := 0) hl1 hH1 hR1.1 (hR1.2.2.2.2.2.2.1) c0 c1 h0c h24 t2 hl2 hl3 t1 t3 fm3 V1 hE V2
    exact ⟨⟨y1, y5, qHO.fr3 (hR1.2.2.2.2.2.2.2.1) hR1.2.2.2.2.1 hR1.1 hH1 hF2 (by decide +kernel) hS2 hRo2 hH2 hF3 hS3 (hRo2.pre hP3) hH3 hF4 (by decide +kernel), qRDy.fr3 (hR1.2.2.2.2.2.2.2.2) hR1.2.2.2.2.1 hR1.1 hH1 hF2 (by decide +kernel) hS2 hRo2 hH2 hF3 hS3 (hRo2.pre hP3) hH3 hF4 (by decide +kernel)⟩, trivial⟩ : qCl h4 ∧ True)).1
    have hR4 : lR ρ4 ν4 h4 := ⟨(hRo2.pre hP3).pre hP4, x4 _ _ (x3 _ _ (x2 _ _ hR1.2.1)), x4 _ _ (x3 _ _ (x2 _ _ hR1.2.2.1)), x4 _ _ (x3 _ _ (x2 _ _ hR1.2.2.2.1)), hS3.fr (hRo2.pre hP3) hF4 stW_X15_write_Lf, z1⟩
    have x14 : nExt ν ν4 := x1.trans (x2.trans (x3.trans x4))
    have hA4 := hA4.reb rd
    show zE zrx zi 57 243 676 lv3 _ h4 u4 lKK
    refine seg wT_ok lC_f_ok 3000 lY3_f_665_0 (Nat.le_refl _) x14 hlen hA4 rfl rfl hH4 (by omega) (by omega) ?_
    intro x hx N5 ρ5 ν5 lv5 st5 h5 u5 x5 hA5 hH5 hF5 hP5
    rw [List.mem_singleton.mp hx] at hA5 ⊢
    clear hx x
    dsimp only at hA5 ⊢
    have b9 : (h5.length : Int) - h4.length ≤ 0 := Int.le_trans (hA5.cost (by decide +kernel)).1 (by decide +kernel)
    have c1 : (u5 : Int) - u4 ≤ 0 := Int.le_trans (hA5.cost (by decide +kernel)).2 (by decide +kernel)
    obtain ⟨j, j1, j2⟩ := l_i hA5 rfl rfl (x5 _ _ v4)
    obtain ⟨y, y1, y2⟩ := l_one hA5 rfl rfl (x5 _ _ v11)
    exact l_next (g := false) ih [0, 1, 2, 3, 15, 5, 6, 7, 8, 9, 10, 16, 12, 13, 17] (by decide +kernel) (by decide +kernel) hA5 rfl hH5 rfl rfl rfl rfl j1 (x5 _ _ v7) (x5 _ _ v9) y1 (acc.grow (g := false) j2 (by omega) (by omega) (by omega) (by omega) (by simp; omega) (by omega) (by omega)) (by omega) rfl rfl rfl (lR.fr ⟨hR4.1, x5 _ _ (hR.2.1), x5 _ _ (hR.2.2.1), x5 _ _ (hR.2.2.2.1), hR4.2.2.2.2⟩ hH4 hF5 hP5 (nExt.refl ν5) stW_nil rW_nil)
  · intro N4 ρ4 ν4 v h4 u4 n4 x4 hA4 hH4 hF4 hP4 V2
    obtain ⟨nd, rd⟩ := lYd1_f_665n
    obtain ⟨r, hr⟩ : ∃ r : Int32, v = .int r := by
      first
        | (obtain ⟨r, h0, hr, -⟩ := V2; cases hr; exact ⟨r, rfl⟩)
        | (obtain ⟨r, hr, -⟩ := V2; cases hr; exact ⟨r, rfl⟩)
    subst hr
    have b7 : (h4.length : Int) - h3.length ≤ 4 := Int.le_trans (hA4.cost (by decide +kernel)).1 (by decide +kernel)
    have b8 : (u4 : Int) - u3 ≤ 30 := Int.le_trans (hA4.cost (by decide +kernel)).2 (by decide +kernel)
    have z1 := ((by
    obtain ⟨⟨y1, y5⟩, y2, y3, y4⟩ := sum_write (i := 0) hl1 hH1 hR1.1 (hR1.2.2.2.2.2.2.1) c0 c1 h0c h24 t2 hl2 hl3 t1 t3 fm3 V1 hE V2
    exact ⟨⟨y1, y5, qHO.fr3 (hR1.2.2.2.2.2.2.2.1) hR1.2.2.2.2.1 hR1.1 hH1 hF2 (by decide +kernel) hS2 hRo2 hH2 hF3 hS3 (hRo2.pre hP3) hH3 hF4 (by decide +kernel), qRDy.fr3 (hR1.2.2.2.2.2.2.2.2) hR1.2.2.2.2.1 hR1.1 hH1 hF2 (by decide +kernel) hS2 hRo2 hH2 hF3 hS3 (hRo2.pre hP3) hH3 hF4 (by decide +kernel)⟩, trivial⟩ : qCl h4 ∧ True)).1
    have hR4 : lR ρ4 ν4 h4 := ⟨(hRo2.pre hP3).pre hP4, x4 _ _ (x3 _ _ (x2 _ _ hR1.2.1)), x4 _ _ (x3 _ _ (x2 _ _ hR1.2.2.1)), x4 _ _ (x3 _ _ (x2 _ _ hR1.2.2.2.1)), hS3.fr (hRo2.pre hP3) hF4 stW_X15_write_Lf, z1⟩
    have x14 : nExt ν ν4 := x1.trans (x2.trans (x3.trans x4))
    have hA4 := hA4.reb rd
    show zE zrx zi 57 243 676 lv3 _ h4 u4 lKK
    refine seg wT_ok lC_f_ok 3000 lY3_f_665_1 (Nat.le_refl _) x14 hlen hA4 rfl rfl hH4 (by omega) (by omega) ?_
    intro x hx N5 ρ5 ν5 lv5 st5 h5 u5 x5 hA5 hH5 hF5 hP5
    rw [List.mem_singleton.mp hx] at hA5 ⊢
    clear hx x
    dsimp only at hA5 ⊢
    have b9 : (h5.length : Int) - h4.length ≤ 0 := Int.le_trans (hA5.cost (by decide +kernel)).1 (by decide +kernel)
    have c1 : (u5 : Int) - u4 ≤ 0 := Int.le_trans (hA5.cost (by decide +kernel)).2 (by decide +kernel)
    obtain ⟨j, j1, j2⟩ := l_i hA5 rfl rfl (x5 _ _ v4)
    exact l_next (g := false) ih [0, 1, 2, 3, 15, 5, 6, 7, 8, 9, 10, 11, 12, 13, 16] (by decide +kernel) (by decide +kernel) hA5 rfl hH5 rfl rfl rfl rfl j1 (x5 _ _ v7) (x5 _ _ v9) (x5 _ _ v11) (acc.dear j2 (by omega) (by omega) false (fun z => by cases z)) (by omega) rfl rfl rfl (lR.fr ⟨hR4.1, x5 _ _ (hR.2.1), x5 _ _ (hR.2.2.1), x5 _ _ (hR.2.2.2.1), hR4.2.2.2.2⟩ hH4 hF5 hP5 (nExt.refl ν5) stW_nil rW_nil)
  · intro N4 ρ4 ν4 v h4 u4 n4 x4 hA4 hH4 hF4 hP4 V2
    obtain ⟨nd, rd⟩ := lYd2_f_665n
    obtain ⟨r, hr⟩ : ∃ r : Int32, v = .int r := by
      first
        | (obtain ⟨r, h0, hr, -⟩ := V2; cases hr; exact ⟨r, rfl⟩)
        | (obtain ⟨r, hr, -⟩ := V2; cases hr; exact ⟨r, rfl⟩)
    subst hr
    have b7 : (h4.length : Int) - h3.length ≤ 0 := Int.le_trans (hA4.cost (by decide +kernel)).1 (by decide +kernel)
    have b8 : (u4 : Int) - u3 ≤ 0 := Int.le_trans (hA4.cost (by decide +kernel)).2 (by decide +kernel)
    have z1 := ((by
    obtain ⟨⟨y1, y5⟩, y2, y3, y4⟩ := sum_write (i := 0) hl1 hH1 hR1.1 (hR1.2.2.2.2.2.2.1) c0 c1 h0c h24 t2 hl2 hl3 t1 t3 fm3 V1 hE V2
    exact ⟨⟨y1, y5, qHO.fr3 (hR1.2.2.2.2.2.2.2.1) hR1.2.2.2.2.1 hR1.1 hH1 hF2 (by decide +kernel) hS2 hRo2 hH2 hF3 hS3 (hRo2.pre hP3) hH3 hF4 (by decide +kernel), qRDy.fr3 (hR1.2.2.2.2.2.2.2.2) hR1.2.2.2.2.1 hR1.1 hH1 hF2 (by decide +kernel) hS2 hRo2 hH2 hF3 hS3 (hRo2.pre hP3) hH3 hF4 (by decide +kernel)⟩, trivial⟩ : qCl h4 ∧ True)).1
    have hR4 : lR ρ4 ν4 h4 := ⟨(hRo2.pre hP3).pre hP4, x4 _ _ (x3 _ _ (x2 _ _ hR1.2.1)), x4 _ _ (x3 _ _ (x2 _ _ hR1.2.2.1)), x4 _ _ (x3 _ _ (x2 _ _ hR1.2.2.2.1)), hS3.fr (hRo2.pre hP3) hF4 stW_X15_write_Lf, z1⟩
    have x14 : nExt ν ν4 := x1.trans (x2.trans (x3.trans x4))
    have hA4 := hA4.reb rd
    show zE zrx zi 57 243 676 lv3 _ h4 u4 lKK
    refine seg wT_ok lC_f_ok 3000 lY3_f_665_2 (Nat.le_refl _) x14 hlen hA4 rfl rfl hH4 (by omega) (by omega) ?_
    intro x hx N5 ρ5 ν5 lv5 st5 h5 u5 x5 hA5 hH5 hF5 hP5
    rw [List.mem_singleton.mp hx] at hA5 ⊢
    clear hx x
    dsimp only at hA5 ⊢
    have b9 : (h5.length : Int) - h4.length ≤ 0 := Int.le_trans (hA5.cost (by decide +kernel)).1 (by decide +kernel)
    have c1 : (u5 : Int) - u4 ≤ 0 := Int.le_trans (hA5.cost (by decide +kernel)).2 (by decide +kernel)
    obtain ⟨j, j1, j2⟩ := l_i hA5 rfl rfl (x5 _ _ v4)
    exact l_next (g := true) ih [0, 1, 2, 3, 15, 5, 6, 7, 8, 9, 10, 11, 12, 13, 14] (by decide +kernel) (by decide +kernel) hA5 rfl hH5 rfl rfl rfl rfl j1 (x5 _ _ v7) (x5 _ _ v9) (x5 _ _ v11) (acc.dear j2 (by omega) (by omega) true (fun z => z)) (by omega) rfl rfl rfl (lR.fr ⟨hR4.1, x5 _ _ (hR.2.1), x5 _ _ (hR.2.2.1), x5 _ _ (hR.2.2.2.1), hR4.2.2.2.2⟩ hH4 hF5 hP5 (nExt.refl ν5) stW_nil rW_nil)
def lYa_f_681 : sS := ([(3, 0, 0), (3, 8, 0), (3, 40, 0), (3, 36, 0), (0, 0, 4088), (0, 8, 4096), (3, 45, 0), (0, 0, 40), (3, 48, 0), (0, 0, 24), (3, 51, 0), (0, 0, 24), (0, 0, 4088), (0, 0, 4088), (3, 56, 0), (0, 1, 1), (0, 1, 4089), (0, -2147483648, 2147483647)], [(0, 0), (1, 1), (2, 2), (3, 3), (4, 4)], [3, 17, 1], [(4, 0, 16, 17, 0), (0, 16, 4, 0, 1), (0, 4, 16, 0, -1), (0, 4, 5, 0, -8), (3, 0, 5, 0, 0), (2, 2, 7, 6, 0), (2, 6, 2, 7, 0), (2, 2, 8, 8, 0), (2, 8, 2, 9, 0), (2, 2, 9, 10, 0), (2, 10, 2, 11, 0), (2, 1, 1, 12, 0), (2, 2, 3, 13, 0), (0, 12, 13, 0, 0), (0, 13, 12, 0, 0), (2, 2, 10, 14, 0), (0, 12, 4, 0, 0), (0, 13, 4, 0, 0)], 0, 0, [])
def lYb_f_681 : sS := vZ (cvS zi lYa_f_681 k_L_amend (cx1 k_L_amend))
def lYc_f_681 : sS := ([(3, 0, 0), (3, 8, 0), (3, 40, 0), (3, 36, 0), (0, 0, 4088), (0, 8, 4096), (3, 45, 0), (0, 0, 40), (3, 48, 0), (0, 0, 24), (3, 51, 0), (0, 0, 24), (0, 0, 4088), (0, 0, 4088), (3, 56, 0), (0, 1, 1), (0, 1, 4089), (0, -2147483648, 2147483647), (0, 0, 2), (0, 1, 1)], [(5, 18), (0, 0), (1, 1), (2, 2), (3, 3), (4, 4)], [17, 2], [(4, 0, 16, 17, 0), (0, 16, 4, 0, 1), (0, 4, 16, 0, -1), (0, 4, 5, 0, -8), (3, 0, 5, 0, 0), (2, 2, 7, 6, 0), (2, 6, 2, 7, 0), (2, 2, 8, 8, 0), (2, 8, 2, 9, 0), (2, 2, 9, 10, 0), (2, 10, 2, 11, 0), (2, 1, 1, 12, 0), (2, 2, 3, 13, 0), (0, 12, 13, 0, 0), (0, 13, 12, 0, 0), (2, 2, 10, 14, 0), (0, 12, 4, 0, 0), (0, 13, 4, 0, 0)], 0, 0, [])
theorem lY1_f_681 : chk zrx zi wT (wRo wSites_15) (wRo wTags_15) lC_f [] 0 0 15 3000 false [(689, lYa_f_681, [])] none 57 243 681 (vZ lM_f) (fun _ _ => false) = true := by decide +kernel
theorem lY2_f_681 : chk zrx zi wT (wRo wSites_15) (wRo wTags_15) lC_f [] 0 0 19 3000 false [(701, lYc_f_681, [])] none 57 243 692 lYb_f_681 (fun _ _ => false) = true := by decide +kernel
theorem lV1_f_681 : cvOk zrx zi wT 243 689 56 lYa_f_681 k_L_amend = true := by decide +kernel
theorem lV2_f_681 : cvOk zrx zi wT 243 701 56 lYc_f_681 k_X15_amend_Lf = true := by decide +kernel
theorem lYn_f_681 : lYb_f_681.1.length = 19 := by decide +kernel
theorem lYr_f_681 : (vZ lM_f).2.2.2.1.all (fun f => !(f.1 == 7)) = true ∧ lYa_f_681.2.2.2.1.all (fun f => !(f.1 == 7)) = true ∧ (cvS zi lYa_f_681 k_L_amend (cx1 k_L_amend)).2.2.2.1.all (fun f => !(f.1 == 7)) = true ∧ lYc_f_681.2.2.2.1.all (fun f => !(f.1 == 7)) = true := by decide +kernel
def lYd0_f_681 : sS := vZ (cvS zi lYc_f_681 k_X15_amend_Lf (cxi k_X15_amend_Lf 0))
theorem lYd0_f_681n : lYd0_f_681.1.length = 25 ∧ (cvS zi lYc_f_681 k_X15_amend_Lf (cxi k_X15_amend_Lf 0)).2.2.2.1.all (fun f => !(f.1 == 7)) = true := by decide +kernel
theorem lY3_f_681_0 : chk zrx zi wT (wRo wSites_15) (wRo wTags_15) lC_f [] 0 0 15 3000 false [(27, lT_fze, [])] none 57 243 704 lYd0_f_681 (fun _ _ => false) = true := by decide +kernel
def lYd1_f_681 : sS := vZ (cvS zi lYc_f_681 k_X15_amend_Lf (cxi k_X15_amend_Lf 1))
theorem lYd1_f_681n : lYd1_f_681.1.length = 22 ∧ (cvS zi lYc_f_681 k_X15_amend_Lf (cxi k_X15_amend_Lf 1)).2.2.2.1.all (fun f => !(f.1 == 7)) = true := by decide +kernel
theorem lY3_f_681_1 : chk zrx zi wT (wRo wSites_15) (wRo wTags_15) lC_f [] 0 0 15 3000 false [(27, lT_fza, [])] none 57 243 704 lYd1_f_681 (fun _ _ => false) = true := by decide +kernel
set_option maxRecDepth 20000 in
theorem lA_f_681 {n : Nat} (ih : lIH n) {hb ub : Nat} {N : Int} {ρ : List Nat} {ν : List Value} {lv : List (Nat × Value)} {st : List Value} {h : List zC} {u : Nat} {i R C A : Int32} {F : Int} (hA : gA hb ub ρ ν lM_f lv st h u) (hH : tHeap wT N ρ h) (v4 : ν[4]? = some (.int i)) (v7 : ν[7]? = some (.int R)) (v9 : ν[9]? = some (.int C)) (v11 : ν[11]? = some (.int A))
    (i4 : i.toInt ≤ 4096) (acc : lAcc true hb ub i.toInt R.toInt C.toInt A.toInt F) (rm1 : (ub : Int) + 17920 ≤ zSN) (rm2 : (hb : Int) + 1152 ≤ zCM) (hn : 4104 - i.toInt ≤ (n + 1 : Nat)) (hR : lR ρ ν h) : zE zrx zi 57 243 681 lv st h u lKK := by
  obtain ⟨dl1, dl2, dl3, dl4⟩ := lD_lo R.toInt C.toInt A.toInt
  obtain ⟨r0, ra, rb, rc⟩ := lYr_f_681
  have q0 : (h.length : Int) - hb ≤ 0 := hA.2.2.2.2.1
  have q1 : (u : Int) - ub ≤ 0 := hA.2.2.2.2.2
  have hlen : ν.length ≤ 15 := by
    rw [← hA.1.1]
    exact Nat.le_of_eq rfl
  refine seg wT_ok lC_f_ok 3000 lY1_f_681 (Nat.le_refl _) (nExt.refl ν) hlen (hA.reb r0) rfl rfl hH (by omega) (by omega) ?_
  intro x hx N1 ρ1 ν1 lv1 st1 h1 u1 x1 hA1 hH1 hF1 hP1
  rw [List.mem_singleton.mp hx] at hA1 ⊢
  clear hx x
  dsimp only at hA1 ⊢
  have hR1 := hR.fr hH hF1 hP1 x1 stW_nil rW_nil
  have b1 : (h1.length : Int) - h.length ≤ 0 := Int.le_trans (hA1.cost (by decide +kernel)).1 (by decide +kernel)
  have b2 : (u1 : Int) - u ≤ 0 := Int.le_trans (hA1.cost (by decide +kernel)).2 (by decide +kernel)
  have hT : gSt ν1 [3, 17, 1] st1 := hA1.2.2.1
  obtain ⟨w0, sa0, ea0, o0, ha0⟩ := hT.inv
  subst ea0
  rw [hR1.2.2.2.1] at o0
  cases o0
  obtain ⟨w1, sa1, ea1, o1, ha1⟩ := ha0.inv
  subst ea1
  obtain ⟨p17, rfl, -⟩ := hA1.int o1 rfl
  obtain ⟨w2, sa2, ea2, o2, ha2⟩ := ha1.inv
  subst ea2
  rw [hR1.2.1] at o2
  cases o2
  cases ha2.nil
  obtain ⟨T, L, fs, fa, fbd, t1, t3, fm1⟩ := hR1.2.2.2.2.2.1
  obtain ⟨cnt, el, c0, c2, c1, cel, h0c, h24, -⟩ := hR1.2.2.2.2.2.2.1
  obtain ⟨dd, d1, d2⟩ := hR1.2.2.2.2.2.2.2.2
  have t2 : L ≤ 60 := fm1.l60
  refine call_val con_L_amend vr_243_689 lV1_f_681 rfl rfl (hA1.reb ra) hH1 (by have : k_L_amend.2.2.2.2.1 = 3 := rfl; omega) (by have : k_L_amend.2.2.2.2.2.1 = 15 := rfl; omega) rfl (fun n => C_Lamend n p17 h1 u1 hR1.2.2.2.2.1 h0c h24 t1 t2 t3 c0) ?_
  intro N2 ρ2 ν2 v h2 u2 n2 x2 hA2 hH2 hF2 hP2 V1
  obtain ⟨k, hk, V1⟩ := V1
  cases hk
  have V1 : Q_Lamend T L cnt p17 h1 (.inl (some (.int k))) h2 u2 := ⟨k, rfl, V1⟩
  have b3 : (h2.length : Int) - h1.length ≤ 3 := Int.le_trans (hA2.cost (by decide +kernel)).1 (by decide +kernel)
  have b4 : (u2 : Int) - u1 ≤ 15 := Int.le_trans (hA2.cost (by decide +kernel)).2 (by decide +kernel)
  have hTk : ν2[18]? = some (.int k) := gSt_hd hA2.2.2.1 (by decide +kernel)
  have hlen2 : ν2.length ≤ 19 := by
    rw [← hA2.1.1]
    exact Nat.le_of_eq lYn_f_681
  have hS2 : Stc h2 := hR1.2.2.2.2.1.fr hR1.1 hF2 stW_L_amend
  have hRo2 : Ro ρ2 := hR1.1.pre hP2
  show zE zrx zi 57 243 692 lv1 _ h2 u2 lKK
  refine seg wT_ok lC_f_ok 3000 lY2_f_681 (Nat.le_refl _) (nExt.refl ν2) hlen2 (hA2.reb rb) rfl rfl hH2 (by omega) (by omega) ?_
  intro x hx N3 ρ3 ν3 lv3 st3 h3 u3 x3 hA3 hH3 hF3 hP3
  rw [List.mem_singleton.mp hx] at hA3 ⊢
  clear hx x
  dsimp only at hA3 ⊢
  have hS3 : Stc h3 := hS2.fr hRo2 hF3 stW_nil
  have b5 : (h3.length : Int) - h2.length ≤ 0 := Int.le_trans (hA3.cost (by decide +kernel)).1 (by decide +kernel)
  have b6 : (u3 : Int) - u2 ≤ 0 := Int.le_trans (hA3.cost (by decide +kernel)).2 (by decide +kernel)
  have hE : ∀ p, p < h2.length → ∀ k, gF h3 p k = gF h2 p k := fun p hp k => gFr_F0 hF3 hH2.1 hp k
  have hT : gSt ν3 [17, 2] st3 := hA3.2.2.1
  obtain ⟨w0, sb0, eb0, c0, hb0⟩ := hT.inv
  subst eb0
  rw [x3 _ _ (x2 _ _ o1)] at c0
  cases c0
  obtain ⟨w1, sb1, eb1, c1, hb1⟩ := hb0.inv
  subst eb1
  rw [x3 _ _ (x2 _ _ hR1.2.2.1)] at c1
  cases c1
  cases hb1.nil
  have hl1 := hR1.2.2.2.2.1.1
  have hl2 := gFr_len hF2
  have hl3 := gFr_len hF3
  have ro3 : Ro ρ3 := hRo2.pre hP3
  have m2 := (hE 225 (by omega) 2).trans ((gFr_F hF2 (hR1.1 225 51 (by decide +kernel)) (by decide +kernel) (by omega)).trans c2)
  have m1 := (hE 225 (by omega) 1).trans ((gFr_F hF2 (hR1.1 225 51 (by decide +kernel)) (by decide +kernel) (by omega)).trans c1)
  obtain ⟨⟨l, l1, l2⟩, l3, l4, l5, l6, l7, l8⟩ := al_at hH3 ro3 m1 m2
  have l213 : ¬ el = 213 := by omega
  have hA7 : ∀ k, k < cnt.toNatClampNeg → ∃ A : Nat, gF h3 el k = some (.ref A) ∧ 239 ≤ A := fun k hk => by
    obtain ⟨e, e1, e2⟩ := l8 k hk
    exact ⟨e, e1, A_new ro3 e2⟩
  have fm2 := fm1.fr hR1.2.2.2.2.1.1 hR1.1 hH1 hF2 (by decide +kernel)
  have fm3 := fm2.fr hS2.1 hRo2 hH2 hF3 (by decide)
  obtain ⟨fb, sb3⟩ := fm3.sb hH3 ro3
  refine call_valn con_X15_amend_Lf vr_243_701 lV2_f_681 (by decide +kernel) (hA3.reb rc) hH3 (by have : k_X15_amend_Lf.2.2.2.2.1 = 3 := rfl; omega) (by have : k_X15_amend_Lf.2.2.2.2.2.1 = 16 := rfl; omega) rfl (fun n => C_mamend n p17 h3 u3 hS3 sb3 fm3.2.1 fm3.2.2.2.1 fm3.2.2.2.2 m1 m2 l1 l2 l3 h0c l213 hA7) ?_
  refine ends2 rfl ?_ ?_
  · intro N4 ρ4 ν4 v h4 u4 n4 x4 hA4 hH4 hF4 hP4 V2
    obtain ⟨nd, rd⟩ := lYd0_f_681n
    obtain ⟨r, hr⟩ : ∃ r : Int32, v = .int r := by
      first
        | (obtain ⟨r, h0, hr, -⟩ := V2; cases hr; exact ⟨r, rfl⟩)
        | (obtain ⟨r, hr, -⟩ := V2; cases hr; exact ⟨r, rfl⟩)
    subst hr
    have b7 : (h4.length : Int) - h3.length ≤ 4 := Int.le_trans (hA4.cost (by decide +kernel)).1 (by decide +kernel)
    have b8 : (u4 : Int) - u3 ≤ 30 := Int.le_trans (hA4.cost (by decide +kernel)).2 (by decide +kernel)
    have z1 := ((by
    obtain ⟨⟨y1, y5⟩, y2, y3, y4⟩ := sum_amend (i := 0) hl1 hH1 hR1.1 (hR1.2.2.2.2.2.2.1) c0 c1 h0c h24 t2 hl2 hl3 t1 t3 fm3 V1 hE V2
    exact ⟨⟨y1, y5, qHO.fr3 (hR1.2.2.2.2.2.2.2.1) hR1.2.2.2.2.1 hR1.1 hH1 hF2 (by decide +kernel) hS2 hRo2 hH2 hF3 hS3 (hRo2.pre hP3) hH3 hF4 (by decide +kernel), qRDy.fr3 (hR1.2.2.2.2.2.2.2.2) hR1.2.2.2.2.1 hR1.1 hH1 hF2 (by decide +kernel) hS2 hRo2 hH2 hF3 hS3 (hRo2.pre hP3) hH3 hF4 (by decide +kernel)⟩, trivial⟩ : qCl h4 ∧ True)).1
    have hR4 : lR ρ4 ν4 h4 := ⟨(hRo2.pre hP3).pre hP4, x4 _ _ (x3 _ _ (x2 _ _ hR1.2.1)), x4 _ _ (x3 _ _ (x2 _ _ hR1.2.2.1)), x4 _ _ (x3 _ _ (x2 _ _ hR1.2.2.2.1)), hS3.fr (hRo2.pre hP3) hF4 stW_X15_amend_Lf, z1⟩
    have x14 : nExt ν ν4 := x1.trans (x2.trans (x3.trans x4))
    have hA4 := hA4.reb rd
    show zE zrx zi 57 243 704 lv3 _ h4 u4 lKK
    refine seg wT_ok lC_f_ok 3000 lY3_f_681_0 (Nat.le_refl _) x14 hlen hA4 rfl rfl hH4 (by omega) (by omega) ?_
    intro x hx N5 ρ5 ν5 lv5 st5 h5 u5 x5 hA5 hH5 hF5 hP5
    rw [List.mem_singleton.mp hx] at hA5 ⊢
    clear hx x
    dsimp only at hA5 ⊢
    have b9 : (h5.length : Int) - h4.length ≤ 0 := Int.le_trans (hA5.cost (by decide +kernel)).1 (by decide +kernel)
    have c1 : (u5 : Int) - u4 ≤ 0 := Int.le_trans (hA5.cost (by decide +kernel)).2 (by decide +kernel)
    obtain ⟨j, j1, j2⟩ := l_i hA5 rfl rfl (x5 _ _ v4)
    exact l_next (g := false) ih [0, 1, 2, 3, 15, 5, 6, 7, 8, 9, 10, 11, 12, 13, 16] (by decide +kernel) (by decide +kernel) hA5 rfl hH5 rfl rfl rfl rfl j1 (x5 _ _ v7) (x5 _ _ v9) (x5 _ _ v11) (acc.dear j2 (by omega) (by omega) false (fun z => by cases z)) (by omega) rfl rfl rfl (lR.fr ⟨hR4.1, x5 _ _ (hR.2.1), x5 _ _ (hR.2.2.1), x5 _ _ (hR.2.2.2.1), hR4.2.2.2.2⟩ hH4 hF5 hP5 (nExt.refl ν5) stW_nil rW_nil)
  · intro N4 ρ4 ν4 v h4 u4 n4 x4 hA4 hH4 hF4 hP4 V2
    obtain ⟨nd, rd⟩ := lYd1_f_681n
    obtain ⟨r, hr⟩ : ∃ r : Int32, v = .int r := by
      first
        | (obtain ⟨r, h0, hr, -⟩ := V2; cases hr; exact ⟨r, rfl⟩)
        | (obtain ⟨r, hr, -⟩ := V2; cases hr; exact ⟨r, rfl⟩)
    subst hr
    have b7 : (h4.length : Int) - h3.length ≤ 0 := Int.le_trans (hA4.cost (by decide +kernel)).1 (by decide +kernel)
    have b8 : (u4 : Int) - u3 ≤ 0 := Int.le_trans (hA4.cost (by decide +kernel)).2 (by decide +kernel)
    have z1 := ((by
    obtain ⟨⟨y1, y5⟩, y2, y3, y4⟩ := sum_amend (i := 0) hl1 hH1 hR1.1 (hR1.2.2.2.2.2.2.1) c0 c1 h0c h24 t2 hl2 hl3 t1 t3 fm3 V1 hE V2
    exact ⟨⟨y1, y5, qHO.fr3 (hR1.2.2.2.2.2.2.2.1) hR1.2.2.2.2.1 hR1.1 hH1 hF2 (by decide +kernel) hS2 hRo2 hH2 hF3 hS3 (hRo2.pre hP3) hH3 hF4 (by decide +kernel), qRDy.fr3 (hR1.2.2.2.2.2.2.2.2) hR1.2.2.2.2.1 hR1.1 hH1 hF2 (by decide +kernel) hS2 hRo2 hH2 hF3 hS3 (hRo2.pre hP3) hH3 hF4 (by decide +kernel)⟩, trivial⟩ : qCl h4 ∧ True)).1
    have hR4 : lR ρ4 ν4 h4 := ⟨(hRo2.pre hP3).pre hP4, x4 _ _ (x3 _ _ (x2 _ _ hR1.2.1)), x4 _ _ (x3 _ _ (x2 _ _ hR1.2.2.1)), x4 _ _ (x3 _ _ (x2 _ _ hR1.2.2.2.1)), hS3.fr (hRo2.pre hP3) hF4 stW_X15_amend_Lf, z1⟩
    have x14 : nExt ν ν4 := x1.trans (x2.trans (x3.trans x4))
    have hA4 := hA4.reb rd
    show zE zrx zi 57 243 704 lv3 _ h4 u4 lKK
    refine seg wT_ok lC_f_ok 3000 lY3_f_681_1 (Nat.le_refl _) x14 hlen hA4 rfl rfl hH4 (by omega) (by omega) ?_
    intro x hx N5 ρ5 ν5 lv5 st5 h5 u5 x5 hA5 hH5 hF5 hP5
    rw [List.mem_singleton.mp hx] at hA5 ⊢
    clear hx x
    dsimp only at hA5 ⊢
    have b9 : (h5.length : Int) - h4.length ≤ 0 := Int.le_trans (hA5.cost (by decide +kernel)).1 (by decide +kernel)
    have c1 : (u5 : Int) - u4 ≤ 0 := Int.le_trans (hA5.cost (by decide +kernel)).2 (by decide +kernel)
    obtain ⟨j, j1, j2⟩ := l_i hA5 rfl rfl (x5 _ _ v4)
    exact l_next (g := true) ih [0, 1, 2, 3, 15, 5, 6, 7, 8, 9, 10, 11, 12, 13, 14] (by decide +kernel) (by decide +kernel) hA5 rfl hH5 rfl rfl rfl rfl j1 (x5 _ _ v7) (x5 _ _ v9) (x5 _ _ v11) (acc.dear j2 (by omega) (by omega) true (fun z => z)) (by omega) rfl rfl rfl (lR.fr ⟨hR4.1, x5 _ _ (hR.2.1), x5 _ _ (hR.2.2.1), x5 _ _ (hR.2.2.2.1), hR4.2.2.2.2⟩ hH4 hF5 hP5 (nExt.refl ν5) stW_nil rW_nil)
def lYa_f_709 : sS := ([(3, 0, 0), (3, 8, 0), (3, 40, 0), (3, 36, 0), (0, 0, 4088), (0, 8, 4096), (3, 45, 0), (0, 0, 40), (3, 48, 0), (0, 0, 24), (3, 51, 0), (0, 0, 24), (0, 0, 4088), (0, 0, 4088), (3, 56, 0), (0, 1, 1), (0, 1, 4089), (0, -2147483648, 2147483647), (0, 2, 2), (0, 2, 4090), (0, -2147483648, 2147483647), (0, 3, 3), (0, 3, 4091), (0, -2147483648, 2147483647)], [(0, 0), (1, 1), (2, 2), (3, 3), (4, 4)], [3, 23, 20, 17, 1], [(4, 0, 22, 23, 0), (0, 22, 4, 0, 3), (0, 4, 22, 0, -3), (4, 0, 19, 20, 0), (0, 19, 4, 0, 2), (0, 4, 19, 0, -2), (4, 0, 16, 17, 0), (0, 16, 4, 0, 1), (0, 4, 16, 0, -1), (0, 4, 5, 0, -8), (3, 0, 5, 0, 0), (2, 2, 7, 6, 0), (2, 6, 2, 7, 0), (2, 2, 8, 8, 0), (2, 8, 2, 9, 0), (2, 2, 9, 10, 0), (2, 10, 2, 11, 0), (2, 1, 1, 12, 0), (2, 2, 3, 13, 0), (0, 12, 13, 0, 0), (0, 13, 12, 0, 0), (2, 2, 10, 14, 0), (0, 12, 4, 0, 0), (0, 13, 4, 0, 0)], 0, 0, [])
def lYb_f_709 : sS := vZ (cvS zi lYa_f_709 k_L_seats (cx1 k_L_seats))
def lYc_f_709 : sS := ([(3, 0, 0), (3, 8, 0), (3, 40, 0), (3, 36, 0), (0, 0, 4088), (0, 8, 4096), (3, 45, 0), (0, 0, 40), (3, 48, 0), (0, 0, 24), (3, 51, 0), (0, 0, 24), (0, 0, 4088), (0, 0, 4088), (3, 56, 0), (0, 1, 1), (0, 1, 4089), (0, -2147483648, 2147483647), (0, 2, 2), (0, 2, 4090), (0, -2147483648, 2147483647), (0, 3, 3), (0, 3, 4091), (0, -2147483648, 2147483647), (0, 0, 2), (0, 1, 1), (0, 2, 2), (0, 3, 3)], [(5, 24), (0, 0), (1, 1), (2, 2), (3, 3), (4, 4)], [23, 20, 17, 2], [(4, 0, 22, 23, 0), (0, 22, 4, 0, 3), (0, 4, 22, 0, -3), (4, 0, 19, 20, 0), (0, 19, 4, 0, 2), (0, 4, 19, 0, -2), (4, 0, 16, 17, 0), (0, 16, 4, 0, 1), (0, 4, 16, 0, -1), (0, 4, 5, 0, -8), (3, 0, 5, 0, 0), (2, 2, 7, 6, 0), (2, 6, 2, 7, 0), (2, 2, 8, 8, 0), (2, 8, 2, 9, 0), (2, 2, 9, 10, 0), (2, 10, 2, 11, 0), (2, 1, 1, 12, 0), (2, 2, 3, 13, 0), (0, 12, 13, 0, 0), (0, 13, 12, 0, 0), (2, 2, 10, 14, 0), (0, 12, 4, 0, 0), (0, 13, 4, 0, 0)], 0, 0, [])
theorem lY1_f_709 : chk zrx zi wT (wRo wSites_15) (wRo wTags_15) lC_f [] 0 0 15 3000 false [(729, lYa_f_709, [])] none 57 243 709 (vZ lM_f) (fun _ _ => false) = true := by decide +kernel
theorem lY2_f_709 : chk zrx zi wT (wRo wSites_15) (wRo wTags_15) lC_f [] 0 0 25 3000 false [(753, lYc_f_709, [])] none 57 243 732 lYb_f_709 (fun _ _ => false) = true := by decide +kernel
theorem lV1_f_709 : cvOk zrx zi wT 243 729 56 lYa_f_709 k_L_seats = true := by decide +kernel
theorem lV2_f_709 : cvOk zrx zi wT 243 753 56 lYc_f_709 k_X15_seats = true := by decide +kernel
theorem lYn_f_709 : lYb_f_709.1.length = 25 := by decide +kernel
theorem lYr_f_709 : (vZ lM_f).2.2.2.1.all (fun f => !(f.1 == 7)) = true ∧ lYa_f_709.2.2.2.1.all (fun f => !(f.1 == 7)) = true ∧ (cvS zi lYa_f_709 k_L_seats (cx1 k_L_seats)).2.2.2.1.all (fun f => !(f.1 == 7)) = true ∧ lYc_f_709.2.2.2.1.all (fun f => !(f.1 == 7)) = true := by decide +kernel
def lYd0_f_709 : sS := vZ (cvS zi lYc_f_709 k_X15_seats (cxi k_X15_seats 0))
theorem lYd0_f_709n : lYd0_f_709.1.length = 29 ∧ (cvS zi lYc_f_709 k_X15_seats (cxi k_X15_seats 0)).2.2.2.1.all (fun f => !(f.1 == 7)) = true := by decide +kernel
theorem lY3_f_709_0 : chk zrx zi wT (wRo wSites_15) (wRo wTags_15) lC_f [] 0 0 15 3000 false [(27, lT_fza, [])] none 57 243 756 lYd0_f_709 (fun _ _ => false) = true := by decide +kernel
set_option maxRecDepth 20000 in
theorem lA_f_709 {n : Nat} (ih : lIH n) {hb ub : Nat} {N : Int} {ρ : List Nat} {ν : List Value} {lv : List (Nat × Value)} {st : List Value} {h : List zC} {u : Nat} {i R C A : Int32} {F : Int} (hA : gA hb ub ρ ν lM_f lv st h u) (hH : tHeap wT N ρ h) (v4 : ν[4]? = some (.int i)) (v7 : ν[7]? = some (.int R)) (v9 : ν[9]? = some (.int C)) (v11 : ν[11]? = some (.int A))
    (i4 : i.toInt ≤ 4096) (acc : lAcc true hb ub i.toInt R.toInt C.toInt A.toInt F) (rm1 : (ub : Int) + 17920 ≤ zSN) (rm2 : (hb : Int) + 1152 ≤ zCM) (hn : 4104 - i.toInt ≤ (n + 1 : Nat)) (hR : lR ρ ν h) : zE zrx zi 57 243 709 lv st h u lKK := by
  obtain ⟨dl1, dl2, dl3, dl4⟩ := lD_lo R.toInt C.toInt A.toInt
  obtain ⟨r0, ra, rb, rc⟩ := lYr_f_709
  have q0 : (h.length : Int) - hb ≤ 0 := hA.2.2.2.2.1
  have q1 : (u : Int) - ub ≤ 0 := hA.2.2.2.2.2
  have hlen : ν.length ≤ 15 := by
    rw [← hA.1.1]
    exact Nat.le_of_eq rfl
  refine seg wT_ok lC_f_ok 3000 lY1_f_709 (Nat.le_refl _) (nExt.refl ν) hlen (hA.reb r0) rfl rfl hH (by omega) (by omega) ?_
  intro x hx N1 ρ1 ν1 lv1 st1 h1 u1 x1 hA1 hH1 hF1 hP1
  rw [List.mem_singleton.mp hx] at hA1 ⊢
  clear hx x
  dsimp only at hA1 ⊢
  have hR1 := hR.fr hH hF1 hP1 x1 stW_nil rW_nil
  have b1 : (h1.length : Int) - h.length ≤ 0 := Int.le_trans (hA1.cost (by decide +kernel)).1 (by decide +kernel)
  have b2 : (u1 : Int) - u ≤ 0 := Int.le_trans (hA1.cost (by decide +kernel)).2 (by decide +kernel)
  have hT : gSt ν1 [3, 23, 20, 17, 1] st1 := hA1.2.2.1
  obtain ⟨w0, sa0, ea0, o0, ha0⟩ := hT.inv
  subst ea0
  rw [hR1.2.2.2.1] at o0
  cases o0
  obtain ⟨w1, sa1, ea1, o1, ha1⟩ := ha0.inv
  subst ea1
  obtain ⟨p23, rfl, -⟩ := hA1.int o1 rfl
  obtain ⟨w2, sa2, ea2, o2, ha2⟩ := ha1.inv
  subst ea2
  obtain ⟨p20, rfl, -⟩ := hA1.int o2 rfl
  obtain ⟨w3, sa3, ea3, o3, ha3⟩ := ha2.inv
  subst ea3
  obtain ⟨p17, rfl, -⟩ := hA1.int o3 rfl
  obtain ⟨w4, sa4, ea4, o4, ha4⟩ := ha3.inv
  subst ea4
  rw [hR1.2.1] at o4
  cases o4
  cases ha4.nil
  obtain ⟨T, L, fs, fa, fbd, t1, t3, fm1⟩ := hR1.2.2.2.2.2.1
  obtain ⟨cnt, el, c0, c2, c1, cel, h0c, h24, -⟩ := hR1.2.2.2.2.2.2.1
  obtain ⟨dd, d1, d2⟩ := hR1.2.2.2.2.2.2.2.2
  have t2 : L ≤ 60 := fm1.l60
  refine call_val con_L_seats vr_243_729 lV1_f_709 rfl rfl (hA1.reb ra) hH1 (by have : k_L_seats.2.2.2.2.1 = 1 := rfl; omega) (by have : k_L_seats.2.2.2.2.2.1 = 6 := rfl; omega) rfl (fun n => C_Lseats n p17 p20 p23 h1 u1 hR1.2.2.2.2.1) ?_
  intro N2 ρ2 ν2 v h2 u2 n2 x2 hA2 hH2 hF2 hP2 V1
  obtain ⟨k, hk, V1⟩ := V1
  cases hk
  have V1 : Q_Lseats p17 p20 p23 h1 (.inl (some (.int k))) h2 u2 := ⟨k, rfl, V1⟩
  have b3 : (h2.length : Int) - h1.length ≤ 1 := Int.le_trans (hA2.cost (by decide +kernel)).1 (by decide +kernel)
  have b4 : (u2 : Int) - u1 ≤ 6 := Int.le_trans (hA2.cost (by decide +kernel)).2 (by decide +kernel)
  have hTk : ν2[24]? = some (.int k) := gSt_hd hA2.2.2.1 (by decide +kernel)
  have hlen2 : ν2.length ≤ 25 := by
    rw [← hA2.1.1]
    exact Nat.le_of_eq lYn_f_709
  have hS2 : Stc h2 := hR1.2.2.2.2.1.fr hR1.1 hF2 stW_L_seats
  have hRo2 : Ro ρ2 := hR1.1.pre hP2
  show zE zrx zi 57 243 732 lv1 _ h2 u2 lKK
  refine seg wT_ok lC_f_ok 3000 lY2_f_709 (Nat.le_refl _) (nExt.refl ν2) hlen2 (hA2.reb rb) rfl rfl hH2 (by omega) (by omega) ?_
  intro x hx N3 ρ3 ν3 lv3 st3 h3 u3 x3 hA3 hH3 hF3 hP3
  rw [List.mem_singleton.mp hx] at hA3 ⊢
  clear hx x
  dsimp only at hA3 ⊢
  have hS3 : Stc h3 := hS2.fr hRo2 hF3 stW_nil
  have b5 : (h3.length : Int) - h2.length ≤ 0 := Int.le_trans (hA3.cost (by decide +kernel)).1 (by decide +kernel)
  have b6 : (u3 : Int) - u2 ≤ 0 := Int.le_trans (hA3.cost (by decide +kernel)).2 (by decide +kernel)
  have hE : ∀ p, p < h2.length → ∀ k, gF h3 p k = gF h2 p k := fun p hp k => gFr_F0 hF3 hH2.1 hp k
  have hT : gSt ν3 [23, 20, 17, 2] st3 := hA3.2.2.1
  obtain ⟨w0, sb0, eb0, c0, hb0⟩ := hT.inv
  subst eb0
  rw [x3 _ _ (x2 _ _ o1)] at c0
  cases c0
  obtain ⟨w1, sb1, eb1, c1, hb1⟩ := hb0.inv
  subst eb1
  rw [x3 _ _ (x2 _ _ o2)] at c1
  cases c1
  obtain ⟨w2, sb2, eb2, c2, hb2⟩ := hb1.inv
  subst eb2
  rw [x3 _ _ (x2 _ _ o3)] at c2
  cases c2
  obtain ⟨w3, sb3, eb3, c3, hb3⟩ := hb2.inv
  subst eb3
  rw [x3 _ _ (x2 _ _ hR1.2.2.1)] at c3
  cases c3
  cases hb3.nil
  have hl1 := hR1.2.2.2.2.1.1
  have hl2 := gFr_len hF2
  have hl3 := gFr_len hF3
  have ro3 : Ro ρ3 := hRo2.pre hP3
  refine call_val con_X15_seats vr_243_753 lV2_f_709 rfl rfl (hA3.reb rc) hH3 (by have : k_X15_seats.2.2.2.2.1 = 0 := rfl; omega) (by have : k_X15_seats.2.2.2.2.2.1 = 0 := rfl; omega) rfl (fun n => C_mseats n p17 p20 p23 h3 u3 hS3) ?_
  intro N4 ρ4 ν4 v h4 u4 n4 x4 hA4 hH4 hF4 hP4 V2
  obtain ⟨nd, rd⟩ := lYd0_f_709n
  obtain ⟨r, hr⟩ : ∃ r : Int32, v = .int r := by
    first
      | (obtain ⟨r, h0, hr, -⟩ := V2; cases hr; exact ⟨r, rfl⟩)
      | (obtain ⟨r, hr, -⟩ := V2; cases hr; exact ⟨r, rfl⟩)
  subst hr
  have b7 : (h4.length : Int) - h3.length ≤ 0 := Int.le_trans (hA4.cost (by decide +kernel)).1 (by decide +kernel)
  have b8 : (u4 : Int) - u3 ≤ 0 := Int.le_trans (hA4.cost (by decide +kernel)).2 (by decide +kernel)
  have z1 := ((by
    obtain ⟨y1, y2, y3, y4⟩ := sum_seats (hR1.2.2.2.2.2.2.2.1) hl1 hl2 V1 hE V2
    exact ⟨⟨qFed.fr3 (hR1.2.2.2.2.2.1) hR1.2.2.2.2.1 hR1.1 hH1 hF2 (by decide +kernel) hS2 hRo2 hH2 hF3 hS3 (hRo2.pre hP3) hH3 hF4 (by decide +kernel), qAR.fr3 (hR1.2.2.2.2.2.2.1) hR1.2.2.2.2.1 hR1.1 hH1 hF2 (by decide +kernel) hS2 hRo2 hH2 hF3 hS3 (hRo2.pre hP3) hH3 hF4 (by decide +kernel), y1, qRDy.fr3 (hR1.2.2.2.2.2.2.2.2) hR1.2.2.2.2.1 hR1.1 hH1 hF2 (by decide +kernel) hS2 hRo2 hH2 hF3 hS3 (hRo2.pre hP3) hH3 hF4 (by decide +kernel)⟩, trivial⟩ : qCl h4 ∧ True)).1
  have hR4 : lR ρ4 ν4 h4 := ⟨(hRo2.pre hP3).pre hP4, x4 _ _ (x3 _ _ (x2 _ _ hR1.2.1)), x4 _ _ (x3 _ _ (x2 _ _ hR1.2.2.1)), x4 _ _ (x3 _ _ (x2 _ _ hR1.2.2.2.1)), hS3.fr (hRo2.pre hP3) hF4 stW_X15_seats, z1⟩
  have x14 : nExt ν ν4 := x1.trans (x2.trans (x3.trans x4))
  have hA4 := hA4.reb rd
  show zE zrx zi 57 243 756 lv3 _ h4 u4 lKK
  refine seg wT_ok lC_f_ok 3000 lY3_f_709_0 (Nat.le_refl _) x14 hlen hA4 rfl rfl hH4 (by omega) (by omega) ?_
  intro x hx N5 ρ5 ν5 lv5 st5 h5 u5 x5 hA5 hH5 hF5 hP5
  rw [List.mem_singleton.mp hx] at hA5 ⊢
  clear hx x
  dsimp only at hA5 ⊢
  have b9 : (h5.length : Int) - h4.length ≤ 0 := Int.le_trans (hA5.cost (by decide +kernel)).1 (by decide +kernel)
  have c1 : (u5 : Int) - u4 ≤ 0 := Int.le_trans (hA5.cost (by decide +kernel)).2 (by decide +kernel)
  obtain ⟨j, j1, j2⟩ := l_i hA5 rfl rfl (x5 _ _ v4)
  exact l_next (g := true) ih [0, 1, 2, 3, 15, 5, 6, 7, 8, 9, 10, 11, 12, 13, 14] (by decide +kernel) (by decide +kernel) hA5 rfl hH5 rfl rfl rfl rfl j1 (x5 _ _ v7) (x5 _ _ v9) (x5 _ _ v11) (acc.dear j2 (by omega) (by omega) true (fun z => z)) (by omega) rfl rfl rfl (lR.fr ⟨hR4.1, x5 _ _ (hR.2.1), x5 _ _ (hR.2.2.1), x5 _ _ (hR.2.2.2.1), hR4.2.2.2.2⟩ hH4 hF5 hP5 (nExt.refl ν5) stW_nil rW_nil)
def lYa_f_761 : sS := ([(3, 0, 0), (3, 8, 0), (3, 40, 0), (3, 36, 0), (0, 0, 4088), (0, 8, 4096), (3, 45, 0), (0, 0, 40), (3, 48, 0), (0, 0, 24), (3, 51, 0), (0, 0, 24), (0, 0, 4088), (0, 0, 4088), (3, 56, 0), (0, 1, 1), (0, 1, 4089), (0, -2147483648, 2147483647), (0, 2, 2), (0, 2, 4090), (0, -2147483648, 2147483647), (0, 3, 3), (0, 3, 4091), (0, -2147483648, 2147483647)], [(0, 0), (1, 1), (2, 2), (3, 3), (4, 4)], [3, 23, 20, 17, 1], [(4, 0, 22, 23, 0), (0, 22, 4, 0, 3), (0, 4, 22, 0, -3), (4, 0, 19, 20, 0), (0, 19, 4, 0, 2), (0, 4, 19, 0, -2), (4, 0, 16, 17, 0), (0, 16, 4, 0, 1), (0, 4, 16, 0, -1), (0, 4, 5, 0, -8), (3, 0, 5, 0, 0), (2, 2, 7, 6, 0), (2, 6, 2, 7, 0), (2, 2, 8, 8, 0), (2, 8, 2, 9, 0), (2, 2, 9, 10, 0), (2, 10, 2, 11, 0), (2, 1, 1, 12, 0), (2, 2, 3, 13, 0), (0, 12, 13, 0, 0), (0, 13, 12, 0, 0), (2, 2, 10, 14, 0), (0, 12, 4, 0, 0), (0, 13, 4, 0, 0)], 0, 0, [])
def lYb_f_761 : sS := vZ (cvS zi lYa_f_761 k_L_mood (cx1 k_L_mood))
def lYc_f_761 : sS := ([(3, 0, 0), (3, 8, 0), (3, 40, 0), (3, 36, 0), (0, 0, 4088), (0, 8, 4096), (3, 45, 0), (0, 0, 40), (3, 48, 0), (0, 0, 24), (3, 51, 0), (0, 0, 24), (0, 0, 4088), (0, 0, 4088), (3, 56, 0), (0, 1, 1), (0, 1, 4089), (0, -2147483648, 2147483647), (0, 2, 2), (0, 2, 4090), (0, -2147483648, 2147483647), (0, 3, 3), (0, 3, 4091), (0, -2147483648, 2147483647), (0, 0, 2), (0, 1, 1), (0, 2, 2), (0, 3, 3)], [(5, 24), (0, 0), (1, 1), (2, 2), (3, 3), (4, 4)], [23, 20, 17, 2], [(4, 0, 22, 23, 0), (0, 22, 4, 0, 3), (0, 4, 22, 0, -3), (4, 0, 19, 20, 0), (0, 19, 4, 0, 2), (0, 4, 19, 0, -2), (4, 0, 16, 17, 0), (0, 16, 4, 0, 1), (0, 4, 16, 0, -1), (0, 4, 5, 0, -8), (3, 0, 5, 0, 0), (2, 2, 7, 6, 0), (2, 6, 2, 7, 0), (2, 2, 8, 8, 0), (2, 8, 2, 9, 0), (2, 2, 9, 10, 0), (2, 10, 2, 11, 0), (2, 1, 1, 12, 0), (2, 2, 3, 13, 0), (0, 12, 13, 0, 0), (0, 13, 12, 0, 0), (2, 2, 10, 14, 0), (0, 12, 4, 0, 0), (0, 13, 4, 0, 0)], 0, 0, [])
theorem lY1_f_761 : chk zrx zi wT (wRo wSites_15) (wRo wTags_15) lC_f [] 0 0 15 3000 false [(781, lYa_f_761, [])] none 57 243 761 (vZ lM_f) (fun _ _ => false) = true := by decide +kernel
theorem lY2_f_761 : chk zrx zi wT (wRo wSites_15) (wRo wTags_15) lC_f [] 0 0 25 3000 false [(805, lYc_f_761, [])] none 57 243 784 lYb_f_761 (fun _ _ => false) = true := by decide +kernel
theorem lV1_f_761 : cvOk zrx zi wT 243 781 56 lYa_f_761 k_L_mood = true := by decide +kernel
theorem lV2_f_761 : cvOk zrx zi wT 243 805 56 lYc_f_761 k_X15_mood = true := by decide +kernel
theorem lYn_f_761 : lYb_f_761.1.length = 25 := by decide +kernel
theorem lYr_f_761 : (vZ lM_f).2.2.2.1.all (fun f => !(f.1 == 7)) = true ∧ lYa_f_761.2.2.2.1.all (fun f => !(f.1 == 7)) = true ∧ (cvS zi lYa_f_761 k_L_mood (cx1 k_L_mood)).2.2.2.1.all (fun f => !(f.1 == 7)) = true ∧ lYc_f_761.2.2.2.1.all (fun f => !(f.1 == 7)) = true := by decide +kernel
def lYd0_f_761 : sS := vZ (cvS zi lYc_f_761 k_X15_mood (cxi k_X15_mood 0))
theorem lYd0_f_761n : lYd0_f_761.1.length = 29 ∧ (cvS zi lYc_f_761 k_X15_mood (cxi k_X15_mood 0)).2.2.2.1.all (fun f => !(f.1 == 7)) = true := by decide +kernel
theorem lY3_f_761_0 : chk zrx zi wT (wRo wSites_15) (wRo wTags_15) lC_f [] 0 0 15 3000 false [(27, lT_fza, [])] none 57 243 808 lYd0_f_761 (fun _ _ => false) = true := by decide +kernel
set_option maxRecDepth 20000 in
theorem lA_f_761 {n : Nat} (ih : lIH n) {hb ub : Nat} {N : Int} {ρ : List Nat} {ν : List Value} {lv : List (Nat × Value)} {st : List Value} {h : List zC} {u : Nat} {i R C A : Int32} {F : Int} (hA : gA hb ub ρ ν lM_f lv st h u) (hH : tHeap wT N ρ h) (v4 : ν[4]? = some (.int i)) (v7 : ν[7]? = some (.int R)) (v9 : ν[9]? = some (.int C)) (v11 : ν[11]? = some (.int A))
    (i4 : i.toInt ≤ 4096) (acc : lAcc true hb ub i.toInt R.toInt C.toInt A.toInt F) (rm1 : (ub : Int) + 17920 ≤ zSN) (rm2 : (hb : Int) + 1152 ≤ zCM) (hn : 4104 - i.toInt ≤ (n + 1 : Nat)) (hR : lR ρ ν h) : zE zrx zi 57 243 761 lv st h u lKK := by
  obtain ⟨dl1, dl2, dl3, dl4⟩ := lD_lo R.toInt C.toInt A.toInt
  obtain ⟨r0, ra, rb, rc⟩ := lYr_f_761
  have q0 : (h.length : Int) - hb ≤ 0 := hA.2.2.2.2.1
  have q1 : (u : Int) - ub ≤ 0 := hA.2.2.2.2.2
  have hlen : ν.length ≤ 15 := by
    rw [← hA.1.1]
    exact Nat.le_of_eq rfl
  refine seg wT_ok lC_f_ok 3000 lY1_f_761 (Nat.le_refl _) (nExt.refl ν) hlen (hA.reb r0) rfl rfl hH (by omega) (by omega) ?_
  intro x hx N1 ρ1 ν1 lv1 st1 h1 u1 x1 hA1 hH1 hF1 hP1
  rw [List.mem_singleton.mp hx] at hA1 ⊢
  clear hx x
  dsimp only at hA1 ⊢
  have hR1 := hR.fr hH hF1 hP1 x1 stW_nil rW_nil
  have b1 : (h1.length : Int) - h.length ≤ 0 := Int.le_trans (hA1.cost (by decide +kernel)).1 (by decide +kernel)
  have b2 : (u1 : Int) - u ≤ 0 := Int.le_trans (hA1.cost (by decide +kernel)).2 (by decide +kernel)
  have hT : gSt ν1 [3, 23, 20, 17, 1] st1 := hA1.2.2.1
  obtain ⟨w0, sa0, ea0, o0, ha0⟩ := hT.inv
  subst ea0
  rw [hR1.2.2.2.1] at o0
  cases o0
  obtain ⟨w1, sa1, ea1, o1, ha1⟩ := ha0.inv
  subst ea1
  obtain ⟨p23, rfl, -⟩ := hA1.int o1 rfl
  obtain ⟨w2, sa2, ea2, o2, ha2⟩ := ha1.inv
  subst ea2
  obtain ⟨p20, rfl, -⟩ := hA1.int o2 rfl
  obtain ⟨w3, sa3, ea3, o3, ha3⟩ := ha2.inv
  subst ea3
  obtain ⟨p17, rfl, -⟩ := hA1.int o3 rfl
  obtain ⟨w4, sa4, ea4, o4, ha4⟩ := ha3.inv
  subst ea4
  rw [hR1.2.1] at o4
  cases o4
  cases ha4.nil
  obtain ⟨T, L, fs, fa, fbd, t1, t3, fm1⟩ := hR1.2.2.2.2.2.1
  obtain ⟨cnt, el, c0, c2, c1, cel, h0c, h24, -⟩ := hR1.2.2.2.2.2.2.1
  obtain ⟨dd, d1, d2⟩ := hR1.2.2.2.2.2.2.2.2
  have t2 : L ≤ 60 := fm1.l60
  refine call_val con_L_mood vr_243_781 lV1_f_761 rfl rfl (hA1.reb ra) hH1 (by have : k_L_mood.2.2.2.2.1 = 1 := rfl; omega) (by have : k_L_mood.2.2.2.2.2.1 = 6 := rfl; omega) rfl (fun n => C_Lmood n p17 p20 p23 h1 u1 hR1.2.2.2.2.1) ?_
  intro N2 ρ2 ν2 v h2 u2 n2 x2 hA2 hH2 hF2 hP2 V1
  obtain ⟨k, hk, V1⟩ := V1
  cases hk
  have V1 : Q_Lmood p17 p20 p23 h1 (.inl (some (.int k))) h2 u2 := ⟨k, rfl, V1⟩
  have b3 : (h2.length : Int) - h1.length ≤ 1 := Int.le_trans (hA2.cost (by decide +kernel)).1 (by decide +kernel)
  have b4 : (u2 : Int) - u1 ≤ 6 := Int.le_trans (hA2.cost (by decide +kernel)).2 (by decide +kernel)
  have hTk : ν2[24]? = some (.int k) := gSt_hd hA2.2.2.1 (by decide +kernel)
  have hlen2 : ν2.length ≤ 25 := by
    rw [← hA2.1.1]
    exact Nat.le_of_eq lYn_f_761
  have hS2 : Stc h2 := hR1.2.2.2.2.1.fr hR1.1 hF2 stW_L_mood
  have hRo2 : Ro ρ2 := hR1.1.pre hP2
  show zE zrx zi 57 243 784 lv1 _ h2 u2 lKK
  refine seg wT_ok lC_f_ok 3000 lY2_f_761 (Nat.le_refl _) (nExt.refl ν2) hlen2 (hA2.reb rb) rfl rfl hH2 (by omega) (by omega) ?_
  intro x hx N3 ρ3 ν3 lv3 st3 h3 u3 x3 hA3 hH3 hF3 hP3
  rw [List.mem_singleton.mp hx] at hA3 ⊢
  clear hx x
  dsimp only at hA3 ⊢
  have hS3 : Stc h3 := hS2.fr hRo2 hF3 stW_nil
  have b5 : (h3.length : Int) - h2.length ≤ 0 := Int.le_trans (hA3.cost (by decide +kernel)).1 (by decide +kernel)
  have b6 : (u3 : Int) - u2 ≤ 0 := Int.le_trans (hA3.cost (by decide +kernel)).2 (by decide +kernel)
  have hE : ∀ p, p < h2.length → ∀ k, gF h3 p k = gF h2 p k := fun p hp k => gFr_F0 hF3 hH2.1 hp k
  have hT : gSt ν3 [23, 20, 17, 2] st3 := hA3.2.2.1
  obtain ⟨w0, sb0, eb0, c0, hb0⟩ := hT.inv
  subst eb0
  rw [x3 _ _ (x2 _ _ o1)] at c0
  cases c0
  obtain ⟨w1, sb1, eb1, c1, hb1⟩ := hb0.inv
  subst eb1
  rw [x3 _ _ (x2 _ _ o2)] at c1
  cases c1
  obtain ⟨w2, sb2, eb2, c2, hb2⟩ := hb1.inv
  subst eb2
  rw [x3 _ _ (x2 _ _ o3)] at c2
  cases c2
  obtain ⟨w3, sb3, eb3, c3, hb3⟩ := hb2.inv
  subst eb3
  rw [x3 _ _ (x2 _ _ hR1.2.2.1)] at c3
  cases c3
  cases hb3.nil
  have hl1 := hR1.2.2.2.2.1.1
  have hl2 := gFr_len hF2
  have hl3 := gFr_len hF3
  have ro3 : Ro ρ3 := hRo2.pre hP3
  refine call_val con_X15_mood vr_243_805 lV2_f_761 rfl rfl (hA3.reb rc) hH3 (by have : k_X15_mood.2.2.2.2.1 = 0 := rfl; omega) (by have : k_X15_mood.2.2.2.2.2.1 = 0 := rfl; omega) rfl (fun n => C_mmood n p17 p20 p23 h3 u3 hS3) ?_
  intro N4 ρ4 ν4 v h4 u4 n4 x4 hA4 hH4 hF4 hP4 V2
  obtain ⟨nd, rd⟩ := lYd0_f_761n
  obtain ⟨r, hr⟩ : ∃ r : Int32, v = .int r := by
    first
      | (obtain ⟨r, h0, hr, -⟩ := V2; cases hr; exact ⟨r, rfl⟩)
      | (obtain ⟨r, hr, -⟩ := V2; cases hr; exact ⟨r, rfl⟩)
  subst hr
  have b7 : (h4.length : Int) - h3.length ≤ 0 := Int.le_trans (hA4.cost (by decide +kernel)).1 (by decide +kernel)
  have b8 : (u4 : Int) - u3 ≤ 0 := Int.le_trans (hA4.cost (by decide +kernel)).2 (by decide +kernel)
  have z1 := ((by
    obtain ⟨y1, y2, y3, y4⟩ := sum_mood (hR1.2.2.2.2.2.2.2.1) hl1 hl2 V1 hE V2
    exact ⟨⟨qFed.fr3 (hR1.2.2.2.2.2.1) hR1.2.2.2.2.1 hR1.1 hH1 hF2 (by decide +kernel) hS2 hRo2 hH2 hF3 hS3 (hRo2.pre hP3) hH3 hF4 (by decide +kernel), qAR.fr3 (hR1.2.2.2.2.2.2.1) hR1.2.2.2.2.1 hR1.1 hH1 hF2 (by decide +kernel) hS2 hRo2 hH2 hF3 hS3 (hRo2.pre hP3) hH3 hF4 (by decide +kernel), y1, qRDy.fr3 (hR1.2.2.2.2.2.2.2.2) hR1.2.2.2.2.1 hR1.1 hH1 hF2 (by decide +kernel) hS2 hRo2 hH2 hF3 hS3 (hRo2.pre hP3) hH3 hF4 (by decide +kernel)⟩, trivial⟩ : qCl h4 ∧ True)).1
  have hR4 : lR ρ4 ν4 h4 := ⟨(hRo2.pre hP3).pre hP4, x4 _ _ (x3 _ _ (x2 _ _ hR1.2.1)), x4 _ _ (x3 _ _ (x2 _ _ hR1.2.2.1)), x4 _ _ (x3 _ _ (x2 _ _ hR1.2.2.2.1)), hS3.fr (hRo2.pre hP3) hF4 stW_X15_mood, z1⟩
  have x14 : nExt ν ν4 := x1.trans (x2.trans (x3.trans x4))
  have hA4 := hA4.reb rd
  show zE zrx zi 57 243 808 lv3 _ h4 u4 lKK
  refine seg wT_ok lC_f_ok 3000 lY3_f_761_0 (Nat.le_refl _) x14 hlen hA4 rfl rfl hH4 (by omega) (by omega) ?_
  intro x hx N5 ρ5 ν5 lv5 st5 h5 u5 x5 hA5 hH5 hF5 hP5
  rw [List.mem_singleton.mp hx] at hA5 ⊢
  clear hx x
  dsimp only at hA5 ⊢
  have b9 : (h5.length : Int) - h4.length ≤ 0 := Int.le_trans (hA5.cost (by decide +kernel)).1 (by decide +kernel)
  have c1 : (u5 : Int) - u4 ≤ 0 := Int.le_trans (hA5.cost (by decide +kernel)).2 (by decide +kernel)
  obtain ⟨j, j1, j2⟩ := l_i hA5 rfl rfl (x5 _ _ v4)
  exact l_next (g := true) ih [0, 1, 2, 3, 15, 5, 6, 7, 8, 9, 10, 11, 12, 13, 14] (by decide +kernel) (by decide +kernel) hA5 rfl hH5 rfl rfl rfl rfl j1 (x5 _ _ v7) (x5 _ _ v9) (x5 _ _ v11) (acc.dear j2 (by omega) (by omega) true (fun z => z)) (by omega) rfl rfl rfl (lR.fr ⟨hR4.1, x5 _ _ (hR.2.1), x5 _ _ (hR.2.2.1), x5 _ _ (hR.2.2.2.1), hR4.2.2.2.2⟩ hH4 hF5 hP5 (nExt.refl ν5) stW_nil rW_nil)
def lYa_f_813 : sS := ([(3, 0, 0), (3, 8, 0), (3, 40, 0), (3, 36, 0), (0, 0, 4088), (0, 8, 4096), (3, 45, 0), (0, 0, 40), (3, 48, 0), (0, 0, 24), (3, 51, 0), (0, 0, 24), (0, 0, 4088), (0, 0, 4088), (3, 56, 0), (0, 1, 1), (0, 1, 4089), (0, -2147483648, 2147483647), (0, 2, 2), (0, 2, 4090), (0, -2147483648, 2147483647)], [(0, 0), (1, 1), (2, 2), (3, 3), (4, 4)], [3, 20, 17, 1], [(4, 0, 19, 20, 0), (0, 19, 4, 0, 2), (0, 4, 19, 0, -2), (4, 0, 16, 17, 0), (0, 16, 4, 0, 1), (0, 4, 16, 0, -1), (0, 4, 5, 0, -8), (3, 0, 5, 0, 0), (2, 2, 7, 6, 0), (2, 6, 2, 7, 0), (2, 2, 8, 8, 0), (2, 8, 2, 9, 0), (2, 2, 9, 10, 0), (2, 10, 2, 11, 0), (2, 1, 1, 12, 0), (2, 2, 3, 13, 0), (0, 12, 13, 0, 0), (0, 13, 12, 0, 0), (2, 2, 10, 14, 0), (0, 12, 4, 0, 0), (0, 13, 4, 0, 0)], 0, 0, [])
def lYb_f_813 : sS := vZ (cvS zi lYa_f_813 k_L_taste (cx1 k_L_taste))
def lYc_f_813 : sS := ([(3, 0, 0), (3, 8, 0), (3, 40, 0), (3, 36, 0), (0, 0, 4088), (0, 8, 4096), (3, 45, 0), (0, 0, 40), (3, 48, 0), (0, 0, 24), (3, 51, 0), (0, 0, 24), (0, 0, 4088), (0, 0, 4088), (3, 56, 0), (0, 1, 1), (0, 1, 4089), (0, -2147483648, 2147483647), (0, 2, 2), (0, 2, 4090), (0, -2147483648, 2147483647), (0, 0, 2), (0, 1, 1), (0, 2, 2)], [(5, 21), (0, 0), (1, 1), (2, 2), (3, 3), (4, 4)], [20, 17, 2], [(4, 0, 19, 20, 0), (0, 19, 4, 0, 2), (0, 4, 19, 0, -2), (4, 0, 16, 17, 0), (0, 16, 4, 0, 1), (0, 4, 16, 0, -1), (0, 4, 5, 0, -8), (3, 0, 5, 0, 0), (2, 2, 7, 6, 0), (2, 6, 2, 7, 0), (2, 2, 8, 8, 0), (2, 8, 2, 9, 0), (2, 2, 9, 10, 0), (2, 10, 2, 11, 0), (2, 1, 1, 12, 0), (2, 2, 3, 13, 0), (0, 12, 13, 0, 0), (0, 13, 12, 0, 0), (2, 2, 10, 14, 0), (0, 12, 4, 0, 0), (0, 13, 4, 0, 0)], 0, 0, [])
theorem lY1_f_813 : chk zrx zi wT (wRo wSites_15) (wRo wTags_15) lC_f [] 0 0 15 3000 false [(827, lYa_f_813, [])] none 57 243 813 (vZ lM_f) (fun _ _ => false) = true := by decide +kernel
theorem lY2_f_813 : chk zrx zi wT (wRo wSites_15) (wRo wTags_15) lC_f [] 0 0 22 3000 false [(845, lYc_f_813, [])] none 57 243 830 lYb_f_813 (fun _ _ => false) = true := by decide +kernel
theorem lV1_f_813 : cvOk zrx zi wT 243 827 56 lYa_f_813 k_L_taste = true := by decide +kernel
theorem lV2_f_813 : cvOk zrx zi wT 243 845 56 lYc_f_813 k_X15_taste = true := by decide +kernel
theorem lYn_f_813 : lYb_f_813.1.length = 22 := by decide +kernel
theorem lYr_f_813 : (vZ lM_f).2.2.2.1.all (fun f => !(f.1 == 7)) = true ∧ lYa_f_813.2.2.2.1.all (fun f => !(f.1 == 7)) = true ∧ (cvS zi lYa_f_813 k_L_taste (cx1 k_L_taste)).2.2.2.1.all (fun f => !(f.1 == 7)) = true ∧ lYc_f_813.2.2.2.1.all (fun f => !(f.1 == 7)) = true := by decide +kernel
def lYd0_f_813 : sS := vZ (cvS zi lYc_f_813 k_X15_taste (cxi k_X15_taste 0))
theorem lYd0_f_813n : lYd0_f_813.1.length = 25 ∧ (cvS zi lYc_f_813 k_X15_taste (cxi k_X15_taste 0)).2.2.2.1.all (fun f => !(f.1 == 7)) = true := by decide +kernel
theorem lY3_f_813_0 : chk zrx zi wT (wRo wSites_15) (wRo wTags_15) lC_f [] 0 0 15 3000 false [(27, lT_fza, [])] none 57 243 848 lYd0_f_813 (fun _ _ => false) = true := by decide +kernel
set_option maxRecDepth 20000 in
theorem lA_f_813 {n : Nat} (ih : lIH n) {hb ub : Nat} {N : Int} {ρ : List Nat} {ν : List Value} {lv : List (Nat × Value)} {st : List Value} {h : List zC} {u : Nat} {i R C A : Int32} {F : Int} (hA : gA hb ub ρ ν lM_f lv st h u) (hH : tHeap wT N ρ h) (v4 : ν[4]? = some (.int i)) (v7 : ν[7]? = some (.int R)) (v9 : ν[9]? = some (.int C)) (v11 : ν[11]? = some (.int A))
    (i4 : i.toInt ≤ 4096) (acc : lAcc true hb ub i.toInt R.toInt C.toInt A.toInt F) (rm1 : (ub : Int) + 17920 ≤ zSN) (rm2 : (hb : Int) + 1152 ≤ zCM) (hn : 4104 - i.toInt ≤ (n + 1 : Nat)) (hR : lR ρ ν h) : zE zrx zi 57 243 813 lv st h u lKK := by
  obtain ⟨dl1, dl2, dl3, dl4⟩ := lD_lo R.toInt C.toInt A.toInt
  obtain ⟨r0, ra, rb, rc⟩ := lYr_f_813
  have q0 : (h.length : Int) - hb ≤ 0 := hA.2.2.2.2.1
  have q1 : (u : Int) - ub ≤ 0 := hA.2.2.2.2.2
  have hlen : ν.length ≤ 15 := by
    rw [← hA.1.1]
    exact Nat.le_of_eq rfl
  refine seg wT_ok lC_f_ok 3000 lY1_f_813 (Nat.le_refl _) (nExt.refl ν) hlen (hA.reb r0) rfl rfl hH (by omega) (by omega) ?_
  intro x hx N1 ρ1 ν1 lv1 st1 h1 u1 x1 hA1 hH1 hF1 hP1
  rw [List.mem_singleton.mp hx] at hA1 ⊢
  clear hx x
  dsimp only at hA1 ⊢
  have hR1 := hR.fr hH hF1 hP1 x1 stW_nil rW_nil
  have b1 : (h1.length : Int) - h.length ≤ 0 := Int.le_trans (hA1.cost (by decide +kernel)).1 (by decide +kernel)
  have b2 : (u1 : Int) - u ≤ 0 := Int.le_trans (hA1.cost (by decide +kernel)).2 (by decide +kernel)
  have hT : gSt ν1 [3, 20, 17, 1] st1 := hA1.2.2.1
  obtain ⟨w0, sa0, ea0, o0, ha0⟩ := hT.inv
  subst ea0
  rw [hR1.2.2.2.1] at o0
  cases o0
  obtain ⟨w1, sa1, ea1, o1, ha1⟩ := ha0.inv
  subst ea1
  obtain ⟨p20, rfl, -⟩ := hA1.int o1 rfl
  obtain ⟨w2, sa2, ea2, o2, ha2⟩ := ha1.inv
  subst ea2
  obtain ⟨p17, rfl, -⟩ := hA1.int o2 rfl
  obtain ⟨w3, sa3, ea3, o3, ha3⟩ := ha2.inv
  subst ea3
  rw [hR1.2.1] at o3
  cases o3
  cases ha3.nil
  obtain ⟨T, L, fs, fa, fbd, t1, t3, fm1⟩ := hR1.2.2.2.2.2.1
  obtain ⟨cnt, el, c0, c2, c1, cel, h0c, h24, -⟩ := hR1.2.2.2.2.2.2.1
  obtain ⟨dd, d1, d2⟩ := hR1.2.2.2.2.2.2.2.2
  have t2 : L ≤ 60 := fm1.l60
  refine call_val con_L_taste vr_243_827 lV1_f_813 rfl rfl (hA1.reb ra) hH1 (by have : k_L_taste.2.2.2.2.1 = 1 := rfl; omega) (by have : k_L_taste.2.2.2.2.2.1 = 6 := rfl; omega) rfl (fun n => C_Ltaste n p17 p20 h1 u1 hR1.2.2.2.2.1) ?_
  intro N2 ρ2 ν2 v h2 u2 n2 x2 hA2 hH2 hF2 hP2 V1
  obtain ⟨k, hk, V1⟩ := V1
  cases hk
  have V1 : Q_Ltaste p17 p20 h1 (.inl (some (.int k))) h2 u2 := ⟨k, rfl, V1⟩
  have b3 : (h2.length : Int) - h1.length ≤ 1 := Int.le_trans (hA2.cost (by decide +kernel)).1 (by decide +kernel)
  have b4 : (u2 : Int) - u1 ≤ 6 := Int.le_trans (hA2.cost (by decide +kernel)).2 (by decide +kernel)
  have hTk : ν2[21]? = some (.int k) := gSt_hd hA2.2.2.1 (by decide +kernel)
  have hlen2 : ν2.length ≤ 22 := by
    rw [← hA2.1.1]
    exact Nat.le_of_eq lYn_f_813
  have hS2 : Stc h2 := hR1.2.2.2.2.1.fr hR1.1 hF2 stW_L_taste
  have hRo2 : Ro ρ2 := hR1.1.pre hP2
  show zE zrx zi 57 243 830 lv1 _ h2 u2 lKK
  refine seg wT_ok lC_f_ok 3000 lY2_f_813 (Nat.le_refl _) (nExt.refl ν2) hlen2 (hA2.reb rb) rfl rfl hH2 (by omega) (by omega) ?_
  intro x hx N3 ρ3 ν3 lv3 st3 h3 u3 x3 hA3 hH3 hF3 hP3
  rw [List.mem_singleton.mp hx] at hA3 ⊢
  clear hx x
  dsimp only at hA3 ⊢
  have hS3 : Stc h3 := hS2.fr hRo2 hF3 stW_nil
  have b5 : (h3.length : Int) - h2.length ≤ 0 := Int.le_trans (hA3.cost (by decide +kernel)).1 (by decide +kernel)
  have b6 : (u3 : Int) - u2 ≤ 0 := Int.le_trans (hA3.cost (by decide +kernel)).2 (by decide +kernel)
  have hE : ∀ p, p < h2.length → ∀ k, gF h3 p k = gF h2 p k := fun p hp k => gFr_F0 hF3 hH2.1 hp k
  have hT : gSt ν3 [20, 17, 2] st3 := hA3.2.2.1
  obtain ⟨w0, sb0, eb0, c0, hb0⟩ := hT.inv
  subst eb0
  rw [x3 _ _ (x2 _ _ o1)] at c0
  cases c0
  obtain ⟨w1, sb1, eb1, c1, hb1⟩ := hb0.inv
  subst eb1
  rw [x3 _ _ (x2 _ _ o2)] at c1
  cases c1
  obtain ⟨w2, sb2, eb2, c2, hb2⟩ := hb1.inv
  subst eb2
  rw [x3 _ _ (x2 _ _ hR1.2.2.1)] at c2
  cases c2
  cases hb2.nil
  have hl1 := hR1.2.2.2.2.1.1
  have hl2 := gFr_len hF2
  have hl3 := gFr_len hF3
  have ro3 : Ro ρ3 := hRo2.pre hP3
  refine call_val con_X15_taste vr_243_845 lV2_f_813 rfl rfl (hA3.reb rc) hH3 (by have : k_X15_taste.2.2.2.2.1 = 0 := rfl; omega) (by have : k_X15_taste.2.2.2.2.2.1 = 0 := rfl; omega) rfl (fun n => C_mtaste n p17 p20 h3 u3 hS3) ?_
  intro N4 ρ4 ν4 v h4 u4 n4 x4 hA4 hH4 hF4 hP4 V2
  obtain ⟨nd, rd⟩ := lYd0_f_813n
  obtain ⟨r, hr⟩ : ∃ r : Int32, v = .int r := by
    first
      | (obtain ⟨r, h0, hr, -⟩ := V2; cases hr; exact ⟨r, rfl⟩)
      | (obtain ⟨r, hr, -⟩ := V2; cases hr; exact ⟨r, rfl⟩)
  subst hr
  have b7 : (h4.length : Int) - h3.length ≤ 0 := Int.le_trans (hA4.cost (by decide +kernel)).1 (by decide +kernel)
  have b8 : (u4 : Int) - u3 ≤ 0 := Int.le_trans (hA4.cost (by decide +kernel)).2 (by decide +kernel)
  have z1 := ((by
    obtain ⟨y1, y2, y3, y4⟩ := sum_taste (hR1.2.2.2.2.2.2.2.1) hl1 hl2 V1 hE V2
    exact ⟨⟨qFed.fr3 (hR1.2.2.2.2.2.1) hR1.2.2.2.2.1 hR1.1 hH1 hF2 (by decide +kernel) hS2 hRo2 hH2 hF3 hS3 (hRo2.pre hP3) hH3 hF4 (by decide +kernel), qAR.fr3 (hR1.2.2.2.2.2.2.1) hR1.2.2.2.2.1 hR1.1 hH1 hF2 (by decide +kernel) hS2 hRo2 hH2 hF3 hS3 (hRo2.pre hP3) hH3 hF4 (by decide +kernel), y1, qRDy.fr3 (hR1.2.2.2.2.2.2.2.2) hR1.2.2.2.2.1 hR1.1 hH1 hF2 (by decide +kernel) hS2 hRo2 hH2 hF3 hS3 (hRo2.pre hP3) hH3 hF4 (by decide +kernel)⟩, trivial⟩ : qCl h4 ∧ True)).1
  have hR4 : lR ρ4 ν4 h4 := ⟨(hRo2.pre hP3).pre hP4, x4 _ _ (x3 _ _ (x2 _ _ hR1.2.1)), x4 _ _ (x3 _ _ (x2 _ _ hR1.2.2.1)), x4 _ _ (x3 _ _ (x2 _ _ hR1.2.2.2.1)), hS3.fr (hRo2.pre hP3) hF4 stW_X15_taste, z1⟩
  have x14 : nExt ν ν4 := x1.trans (x2.trans (x3.trans x4))
  have hA4 := hA4.reb rd
  show zE zrx zi 57 243 848 lv3 _ h4 u4 lKK
  refine seg wT_ok lC_f_ok 3000 lY3_f_813_0 (Nat.le_refl _) x14 hlen hA4 rfl rfl hH4 (by omega) (by omega) ?_
  intro x hx N5 ρ5 ν5 lv5 st5 h5 u5 x5 hA5 hH5 hF5 hP5
  rw [List.mem_singleton.mp hx] at hA5 ⊢
  clear hx x
  dsimp only at hA5 ⊢
  have b9 : (h5.length : Int) - h4.length ≤ 0 := Int.le_trans (hA5.cost (by decide +kernel)).1 (by decide +kernel)
  have c1 : (u5 : Int) - u4 ≤ 0 := Int.le_trans (hA5.cost (by decide +kernel)).2 (by decide +kernel)
  obtain ⟨j, j1, j2⟩ := l_i hA5 rfl rfl (x5 _ _ v4)
  exact l_next (g := true) ih [0, 1, 2, 3, 15, 5, 6, 7, 8, 9, 10, 11, 12, 13, 14] (by decide +kernel) (by decide +kernel) hA5 rfl hH5 rfl rfl rfl rfl j1 (x5 _ _ v7) (x5 _ _ v9) (x5 _ _ v11) (acc.dear j2 (by omega) (by omega) true (fun z => z)) (by omega) rfl rfl rfl (lR.fr ⟨hR4.1, x5 _ _ (hR.2.1), x5 _ _ (hR.2.2.1), x5 _ _ (hR.2.2.2.1), hR4.2.2.2.2⟩ hH4 hF5 hP5 (nExt.refl ν5) stW_nil rW_nil)
def lYa_f_853 : sS := ([(3, 0, 0), (3, 8, 0), (3, 40, 0), (3, 36, 0), (0, 0, 4088), (0, 8, 4096), (3, 45, 0), (0, 0, 40), (3, 48, 0), (0, 0, 24), (3, 51, 0), (0, 0, 24), (0, 0, 4088), (0, 0, 4088), (3, 56, 0), (0, 1, 1), (0, 1, 4089), (0, -2147483648, 2147483647), (0, 2, 2), (0, 2, 4090), (0, -2147483648, 2147483647)], [(0, 0), (1, 1), (2, 2), (3, 3), (4, 4)], [3, 20, 17, 1], [(4, 0, 19, 20, 0), (0, 19, 4, 0, 2), (0, 4, 19, 0, -2), (4, 0, 16, 17, 0), (0, 16, 4, 0, 1), (0, 4, 16, 0, -1), (0, 4, 5, 0, -8), (3, 0, 5, 0, 0), (2, 2, 7, 6, 0), (2, 6, 2, 7, 0), (2, 2, 8, 8, 0), (2, 8, 2, 9, 0), (2, 2, 9, 10, 0), (2, 10, 2, 11, 0), (2, 1, 1, 12, 0), (2, 2, 3, 13, 0), (0, 12, 13, 0, 0), (0, 13, 12, 0, 0), (2, 2, 10, 14, 0), (0, 12, 4, 0, 0), (0, 13, 4, 0, 0)], 0, 0, [])
def lYb_f_853 : sS := vZ (cvS zi lYa_f_853 k_L_pledge (cx1 k_L_pledge))
def lYc_f_853 : sS := ([(3, 0, 0), (3, 8, 0), (3, 40, 0), (3, 36, 0), (0, 0, 4088), (0, 8, 4096), (3, 45, 0), (0, 0, 40), (3, 48, 0), (0, 0, 24), (3, 51, 0), (0, 0, 24), (0, 0, 4088), (0, 0, 4088), (3, 56, 0), (0, 1, 1), (0, 1, 4089), (0, -2147483648, 2147483647), (0, 2, 2), (0, 2, 4090), (0, -2147483648, 2147483647), (0, 0, 2), (0, 1, 1), (0, 2, 2)], [(5, 21), (0, 0), (1, 1), (2, 2), (3, 3), (4, 4)], [20, 17, 2], [(4, 0, 19, 20, 0), (0, 19, 4, 0, 2), (0, 4, 19, 0, -2), (4, 0, 16, 17, 0), (0, 16, 4, 0, 1), (0, 4, 16, 0, -1), (0, 4, 5, 0, -8), (3, 0, 5, 0, 0), (2, 2, 7, 6, 0), (2, 6, 2, 7, 0), (2, 2, 8, 8, 0), (2, 8, 2, 9, 0), (2, 2, 9, 10, 0), (2, 10, 2, 11, 0), (2, 1, 1, 12, 0), (2, 2, 3, 13, 0), (0, 12, 13, 0, 0), (0, 13, 12, 0, 0), (2, 2, 10, 14, 0), (0, 12, 4, 0, 0), (0, 13, 4, 0, 0)], 0, 0, [])
theorem lY1_f_853 : chk zrx zi wT (wRo wSites_15) (wRo wTags_15) lC_f [] 0 0 15 3000 false [(867, lYa_f_853, [])] none 57 243 853 (vZ lM_f) (fun _ _ => false) = true := by decide +kernel
theorem lY2_f_853 : chk zrx zi wT (wRo wSites_15) (wRo wTags_15) lC_f [] 0 0 22 3000 false [(885, lYc_f_853, [])] none 57 243 870 lYb_f_853 (fun _ _ => false) = true := by decide +kernel
theorem lV1_f_853 : cvOk zrx zi wT 243 867 56 lYa_f_853 k_L_pledge = true := by decide +kernel
theorem lV2_f_853 : cvOk zrx zi wT 243 885 56 lYc_f_853 k_X15_pledge = true := by decide +kernel
theorem lYn_f_853 : lYb_f_853.1.length = 22 := by decide +kernel
theorem lYr_f_853 : (vZ lM_f).2.2.2.1.all (fun f => !(f.1 == 7)) = true ∧ lYa_f_853.2.2.2.1.all (fun f => !(f.1 == 7)) = true ∧ (cvS zi lYa_f_853 k_L_pledge (cx1 k_L_pledge)).2.2.2.1.all (fun f => !(f.1 == 7)) = true ∧ lYc_f_853.2.2.2.1.all (fun f => !(f.1 == 7)) = true := by decide +kernel
def lYd0_f_853 : sS := vZ (cvS zi lYc_f_853 k_X15_pledge (cxi k_X15_pledge 0))
theorem lYd0_f_853n : lYd0_f_853.1.length = 25 ∧ (cvS zi lYc_f_853 k_X15_pledge (cxi k_X15_pledge 0)).2.2.2.1.all (fun f => !(f.1 == 7)) = true := by decide +kernel
theorem lY3_f_853_0 : chk zrx zi wT (wRo wSites_15) (wRo wTags_15) lC_f [] 0 0 15 3000 false [(27, lT_fza, [])] none 57 243 888 lYd0_f_853 (fun _ _ => false) = true := by decide +kernel
set_option maxRecDepth 20000 in
theorem lA_f_853 {n : Nat} (ih : lIH n) {hb ub : Nat} {N : Int} {ρ : List Nat} {ν : List Value} {lv : List (Nat × Value)} {st : List Value} {h : List zC} {u : Nat} {i R C A : Int32} {F : Int} (hA : gA hb ub ρ ν lM_f lv st h u) (hH : tHeap wT N ρ h) (v4 : ν[4]? = some (.int i)) (v7 : ν[7]? = some (.int R)) (v9 : ν[9]? = some (.int C)) (v11 : ν[11]? = some (.int A))
    (i4 : i.toInt ≤ 4096) (acc : lAcc true hb ub i.toInt R.toInt C.toInt A.toInt F) (rm1 : (ub : Int) + 17920 ≤ zSN) (rm2 : (hb : Int) + 1152 ≤ zCM) (hn : 4104 - i.toInt ≤ (n + 1 : Nat)) (hR : lR ρ ν h) : zE zrx zi 57 243 853 lv st h u lKK := by
  obtain ⟨dl1, dl2, dl3, dl4⟩ := lD_lo R.toInt C.toInt A.toInt
  obtain ⟨r0, ra, rb, rc⟩ := lYr_f_853
  have q0 : (h.length : Int) - hb ≤ 0 := hA.2.2.2.2.1
  have q1 : (u : Int) - ub ≤ 0 := hA.2.2.2.2.2
  have hlen : ν.length ≤ 15 := by
    rw [← hA.1.1]
    exact Nat.le_of_eq rfl
  refine seg wT_ok lC_f_ok 3000 lY1_f_853 (Nat.le_refl _) (nExt.refl ν) hlen (hA.reb r0) rfl rfl hH (by omega) (by omega) ?_
  intro x hx N1 ρ1 ν1 lv1 st1 h1 u1 x1 hA1 hH1 hF1 hP1
  rw [List.mem_singleton.mp hx] at hA1 ⊢
  clear hx x
  dsimp only at hA1 ⊢
  have hR1 := hR.fr hH hF1 hP1 x1 stW_nil rW_nil
  have b1 : (h1.length : Int) - h.length ≤ 0 := Int.le_trans (hA1.cost (by decide +kernel)).1 (by decide +kernel)
  have b2 : (u1 : Int) - u ≤ 0 := Int.le_trans (hA1.cost (by decide +kernel)).2 (by decide +kernel)
  have hT : gSt ν1 [3, 20, 17, 1] st1 := hA1.2.2.1
  obtain ⟨w0, sa0, ea0, o0, ha0⟩ := hT.inv
  subst ea0
  rw [hR1.2.2.2.1] at o0
  cases o0
  obtain ⟨w1, sa1, ea1, o1, ha1⟩ := ha0.inv
  subst ea1
  obtain ⟨p20, rfl, -⟩ := hA1.int o1 rfl
  obtain ⟨w2, sa2, ea2, o2, ha2⟩ := ha1.inv
  subst ea2
  obtain ⟨p17, rfl, -⟩ := hA1.int o2 rfl
  obtain ⟨w3, sa3, ea3, o3, ha3⟩ := ha2.inv
  subst ea3
  rw [hR1.2.1] at o3
  cases o3
  cases ha3.nil
  obtain ⟨T, L, fs, fa, fbd, t1, t3, fm1⟩ := hR1.2.2.2.2.2.1
  obtain ⟨cnt, el, c0, c2, c1, cel, h0c, h24, -⟩ := hR1.2.2.2.2.2.2.1
  obtain ⟨dd, d1, d2⟩ := hR1.2.2.2.2.2.2.2.2
  have t2 : L ≤ 60 := fm1.l60
  refine call_val con_L_pledge vr_243_867 lV1_f_853 rfl rfl (hA1.reb ra) hH1 (by have : k_L_pledge.2.2.2.2.1 = 1 := rfl; omega) (by have : k_L_pledge.2.2.2.2.2.1 = 6 := rfl; omega) rfl (fun n => C_Lpledge n p17 p20 h1 u1 hR1.2.2.2.2.1 c0 h24) ?_
  intro N2 ρ2 ν2 v h2 u2 n2 x2 hA2 hH2 hF2 hP2 V1
  obtain ⟨k, hk, V1⟩ := V1
  cases hk
  have V1 : Q_Lpledge cnt p17 p20 h1 (.inl (some (.int k))) h2 u2 := ⟨k, rfl, V1⟩
  have b3 : (h2.length : Int) - h1.length ≤ 1 := Int.le_trans (hA2.cost (by decide +kernel)).1 (by decide +kernel)
  have b4 : (u2 : Int) - u1 ≤ 6 := Int.le_trans (hA2.cost (by decide +kernel)).2 (by decide +kernel)
  have hTk : ν2[21]? = some (.int k) := gSt_hd hA2.2.2.1 (by decide +kernel)
  have hlen2 : ν2.length ≤ 22 := by
    rw [← hA2.1.1]
    exact Nat.le_of_eq lYn_f_853
  have hS2 : Stc h2 := hR1.2.2.2.2.1.fr hR1.1 hF2 stW_L_pledge
  have hRo2 : Ro ρ2 := hR1.1.pre hP2
  show zE zrx zi 57 243 870 lv1 _ h2 u2 lKK
  refine seg wT_ok lC_f_ok 3000 lY2_f_853 (Nat.le_refl _) (nExt.refl ν2) hlen2 (hA2.reb rb) rfl rfl hH2 (by omega) (by omega) ?_
  intro x hx N3 ρ3 ν3 lv3 st3 h3 u3 x3 hA3 hH3 hF3 hP3
  rw [List.mem_singleton.mp hx] at hA3 ⊢
  clear hx x
  dsimp only at hA3 ⊢
  have hS3 : Stc h3 := hS2.fr hRo2 hF3 stW_nil
  have b5 : (h3.length : Int) - h2.length ≤ 0 := Int.le_trans (hA3.cost (by decide +kernel)).1 (by decide +kernel)
  have b6 : (u3 : Int) - u2 ≤ 0 := Int.le_trans (hA3.cost (by decide +kernel)).2 (by decide +kernel)
  have hE : ∀ p, p < h2.length → ∀ k, gF h3 p k = gF h2 p k := fun p hp k => gFr_F0 hF3 hH2.1 hp k
  have hT : gSt ν3 [20, 17, 2] st3 := hA3.2.2.1
  obtain ⟨w0, sb0, eb0, c0, hb0⟩ := hT.inv
  subst eb0
  rw [x3 _ _ (x2 _ _ o1)] at c0
  cases c0
  obtain ⟨w1, sb1, eb1, c1, hb1⟩ := hb0.inv
  subst eb1
  rw [x3 _ _ (x2 _ _ o2)] at c1
  cases c1
  obtain ⟨w2, sb2, eb2, c2, hb2⟩ := hb1.inv
  subst eb2
  rw [x3 _ _ (x2 _ _ hR1.2.2.1)] at c2
  cases c2
  cases hb2.nil
  have hl1 := hR1.2.2.2.2.1.1
  have hl2 := gFr_len hF2
  have hl3 := gFr_len hF3
  have ro3 : Ro ρ3 := hRo2.pre hP3
  have m2 := (hE 225 (by omega) 2).trans ((gFr_F hF2 (hR1.1 225 51 (by decide +kernel)) (by decide +kernel) (by omega)).trans c2)
  have m1 := (hE 225 (by omega) 1).trans ((gFr_F hF2 (hR1.1 225 51 (by decide +kernel)) (by decide +kernel) (by omega)).trans c1)
  obtain ⟨⟨l, l1, l2⟩, l3, l4, l5, l6, l7, l8⟩ := al_at hH3 ro3 m1 m2
  have l213 : ¬ el = 213 := by omega
  have hA7 : ∀ k, k < cnt.toNatClampNeg → ∃ A : Nat, gF h3 el k = some (.ref A) ∧ 239 ≤ A := fun k hk => by
    obtain ⟨e, e1, e2⟩ := l8 k hk
    exact ⟨e, e1, A_new ro3 e2⟩
  refine call_val con_X15_pledge vr_243_885 lV2_f_853 rfl rfl (hA3.reb rc) hH3 (by have : k_X15_pledge.2.2.2.2.1 = 0 := rfl; omega) (by have : k_X15_pledge.2.2.2.2.2.1 = 0 := rfl; omega) rfl (fun n => C_mpledge n p17 p20 h3 u3 hS3 m1 m2 h0c l213 hA7 (len_236 hH3 ro3)) ?_
  intro N4 ρ4 ν4 v h4 u4 n4 x4 hA4 hH4 hF4 hP4 V2
  obtain ⟨nd, rd⟩ := lYd0_f_853n
  obtain ⟨r, hr⟩ : ∃ r : Int32, v = .int r := by
    first
      | (obtain ⟨r, h0, hr, -⟩ := V2; cases hr; exact ⟨r, rfl⟩)
      | (obtain ⟨r, hr, -⟩ := V2; cases hr; exact ⟨r, rfl⟩)
  subst hr
  have b7 : (h4.length : Int) - h3.length ≤ 0 := Int.le_trans (hA4.cost (by decide +kernel)).1 (by decide +kernel)
  have b8 : (u4 : Int) - u3 ≤ 0 := Int.le_trans (hA4.cost (by decide +kernel)).2 (by decide +kernel)
  have z1 := ((by
    obtain ⟨y1, y2, y3, y4⟩ := sum_pledge hl1 hH1 hR1.1 (hR1.2.2.2.2.2.2.2.1) (hR1.2.2.2.2.2.2.1) c0 c1 h0c h24 hl2 V1 hE V2
    exact ⟨⟨qFed.fr3 (hR1.2.2.2.2.2.1) hR1.2.2.2.2.1 hR1.1 hH1 hF2 (by decide +kernel) hS2 hRo2 hH2 hF3 hS3 (hRo2.pre hP3) hH3 hF4 (by decide +kernel), qAR.fr3 (hR1.2.2.2.2.2.2.1) hR1.2.2.2.2.1 hR1.1 hH1 hF2 (by decide +kernel) hS2 hRo2 hH2 hF3 hS3 (hRo2.pre hP3) hH3 hF4 (by decide +kernel), y1, qRDy.fr3 (hR1.2.2.2.2.2.2.2.2) hR1.2.2.2.2.1 hR1.1 hH1 hF2 (by decide +kernel) hS2 hRo2 hH2 hF3 hS3 (hRo2.pre hP3) hH3 hF4 (by decide +kernel)⟩, trivial⟩ : qCl h4 ∧ True)).1
  have hR4 : lR ρ4 ν4 h4 := ⟨(hRo2.pre hP3).pre hP4, x4 _ _ (x3 _ _ (x2 _ _ hR1.2.1)), x4 _ _ (x3 _ _ (x2 _ _ hR1.2.2.1)), x4 _ _ (x3 _ _ (x2 _ _ hR1.2.2.2.1)), hS3.fr (hRo2.pre hP3) hF4 stW_X15_pledge, z1⟩
  have x14 : nExt ν ν4 := x1.trans (x2.trans (x3.trans x4))
  have hA4 := hA4.reb rd
  show zE zrx zi 57 243 888 lv3 _ h4 u4 lKK
  refine seg wT_ok lC_f_ok 3000 lY3_f_853_0 (Nat.le_refl _) x14 hlen hA4 rfl rfl hH4 (by omega) (by omega) ?_
  intro x hx N5 ρ5 ν5 lv5 st5 h5 u5 x5 hA5 hH5 hF5 hP5
  rw [List.mem_singleton.mp hx] at hA5 ⊢
  clear hx x
  dsimp only at hA5 ⊢
  have b9 : (h5.length : Int) - h4.length ≤ 0 := Int.le_trans (hA5.cost (by decide +kernel)).1 (by decide +kernel)
  have c1 : (u5 : Int) - u4 ≤ 0 := Int.le_trans (hA5.cost (by decide +kernel)).2 (by decide +kernel)
  obtain ⟨j, j1, j2⟩ := l_i hA5 rfl rfl (x5 _ _ v4)
  exact l_next (g := true) ih [0, 1, 2, 3, 15, 5, 6, 7, 8, 9, 10, 11, 12, 13, 14] (by decide +kernel) (by decide +kernel) hA5 rfl hH5 rfl rfl rfl rfl j1 (x5 _ _ v7) (x5 _ _ v9) (x5 _ _ v11) (acc.dear j2 (by omega) (by omega) true (fun z => z)) (by omega) rfl rfl rfl (lR.fr ⟨hR4.1, x5 _ _ (hR.2.1), x5 _ _ (hR.2.2.1), x5 _ _ (hR.2.2.2.1), hR4.2.2.2.2⟩ hH4 hF5 hP5 (nExt.refl ν5) stW_nil rW_nil)
def lYa_f_893 : sS := ([(3, 0, 0), (3, 8, 0), (3, 40, 0), (3, 36, 0), (0, 0, 4088), (0, 8, 4096), (3, 45, 0), (0, 0, 40), (3, 48, 0), (0, 0, 24), (3, 51, 0), (0, 0, 24), (0, 0, 4088), (0, 0, 4088), (3, 56, 0), (0, 1, 1), (0, 1, 4089), (0, -2147483648, 2147483647)], [(0, 0), (1, 1), (2, 2), (3, 3), (4, 4)], [3, 17, 1], [(4, 0, 16, 17, 0), (0, 16, 4, 0, 1), (0, 4, 16, 0, -1), (0, 4, 5, 0, -8), (3, 0, 5, 0, 0), (2, 2, 7, 6, 0), (2, 6, 2, 7, 0), (2, 2, 8, 8, 0), (2, 8, 2, 9, 0), (2, 2, 9, 10, 0), (2, 10, 2, 11, 0), (2, 1, 1, 12, 0), (2, 2, 3, 13, 0), (0, 12, 13, 0, 0), (0, 13, 12, 0, 0), (2, 2, 10, 14, 0), (0, 12, 4, 0, 0), (0, 13, 4, 0, 0)], 0, 0, [])
def lYb_f_893 : sS := vZ (cvS zi lYa_f_893 k_L_vote (cx1 k_L_vote))
def lYc_f_893 : sS := ([(3, 0, 0), (3, 8, 0), (3, 40, 0), (3, 36, 0), (0, 0, 4088), (0, 8, 4096), (3, 45, 0), (0, 0, 40), (3, 48, 0), (0, 0, 24), (3, 51, 0), (0, 0, 24), (0, 0, 4088), (0, 0, 4088), (3, 56, 0), (0, 1, 1), (0, 1, 4089), (0, -2147483648, 2147483647), (0, 0, 2), (0, 1, 1)], [(5, 18), (0, 0), (1, 1), (2, 2), (3, 3), (4, 4)], [17, 2], [(4, 0, 16, 17, 0), (0, 16, 4, 0, 1), (0, 4, 16, 0, -1), (0, 4, 5, 0, -8), (3, 0, 5, 0, 0), (2, 2, 7, 6, 0), (2, 6, 2, 7, 0), (2, 2, 8, 8, 0), (2, 8, 2, 9, 0), (2, 2, 9, 10, 0), (2, 10, 2, 11, 0), (2, 1, 1, 12, 0), (2, 2, 3, 13, 0), (0, 12, 13, 0, 0), (0, 13, 12, 0, 0), (2, 2, 10, 14, 0), (0, 12, 4, 0, 0), (0, 13, 4, 0, 0)], 0, 0, [])
theorem lY1_f_893 : chk zrx zi wT (wRo wSites_15) (wRo wTags_15) lC_f [] 0 0 15 3000 false [(901, lYa_f_893, [])] none 57 243 893 (vZ lM_f) (fun _ _ => false) = true := by decide +kernel
theorem lY2_f_893 : chk zrx zi wT (wRo wSites_15) (wRo wTags_15) lC_f [] 0 0 19 3000 false [(913, lYc_f_893, [])] none 57 243 904 lYb_f_893 (fun _ _ => false) = true := by decide +kernel
theorem lV1_f_893 : cvOk zrx zi wT 243 901 56 lYa_f_893 k_L_vote = true := by decide +kernel
theorem lV2_f_893 : cvOk zrx zi wT 243 913 56 lYc_f_893 k_X15_vote = true := by decide +kernel
theorem lYn_f_893 : lYb_f_893.1.length = 19 := by decide +kernel
theorem lYr_f_893 : (vZ lM_f).2.2.2.1.all (fun f => !(f.1 == 7)) = true ∧ lYa_f_893.2.2.2.1.all (fun f => !(f.1 == 7)) = true ∧ (cvS zi lYa_f_893 k_L_vote (cx1 k_L_vote)).2.2.2.1.all (fun f => !(f.1 == 7)) = true ∧ lYc_f_893.2.2.2.1.all (fun f => !(f.1 == 7)) = true := by decide +kernel
def lYd0_f_893 : sS := vZ (cvS zi lYc_f_893 k_X15_vote (cxi k_X15_vote 0))
theorem lYd0_f_893n : lYd0_f_893.1.length = 21 ∧ (cvS zi lYc_f_893 k_X15_vote (cxi k_X15_vote 0)).2.2.2.1.all (fun f => !(f.1 == 7)) = true := by decide +kernel
theorem lY3_f_893_0 : chk zrx zi wT (wRo wSites_15) (wRo wTags_15) lC_f [] 0 0 15 3000 false [(27, lT_fza, [])] none 57 243 916 lYd0_f_893 (fun _ _ => false) = true := by decide +kernel
set_option maxRecDepth 20000 in
theorem lA_f_893 {n : Nat} (ih : lIH n) {hb ub : Nat} {N : Int} {ρ : List Nat} {ν : List Value} {lv : List (Nat × Value)} {st : List Value} {h : List zC} {u : Nat} {i R C A : Int32} {F : Int} (hA : gA hb ub ρ ν lM_f lv st h u) (hH : tHeap wT N ρ h) (v4 : ν[4]? = some (.int i)) (v7 : ν[7]? = some (.int R)) (v9 : ν[9]? = some (.int C)) (v11 : ν[11]? = some (.int A))
    (i4 : i.toInt ≤ 4096) (acc : lAcc true hb ub i.toInt R.toInt C.toInt A.toInt F) (rm1 : (ub : Int) + 17920 ≤ zSN) (rm2 : (hb : Int) + 1152 ≤ zCM) (hn : 4104 - i.toInt ≤ (n + 1 : Nat)) (hR : lR ρ ν h) : zE zrx zi 57 243 893 lv st h u lKK := by
  obtain ⟨dl1, dl2, dl3, dl4⟩ := lD_lo R.toInt C.toInt A.toInt
  obtain ⟨r0, ra, rb, rc⟩ := lYr_f_893
  have q0 : (h.length : Int) - hb ≤ 0 := hA.2.2.2.2.1
  have q1 : (u : Int) - ub ≤ 0 := hA.2.2.2.2.2
  have hlen : ν.length ≤ 15 := by
    rw [← hA.1.1]
    exact Nat.le_of_eq rfl
  refine seg wT_ok lC_f_ok 3000 lY1_f_893 (Nat.le_refl _) (nExt.refl ν) hlen (hA.reb r0) rfl rfl hH (by omega) (by omega) ?_
  intro x hx N1 ρ1 ν1 lv1 st1 h1 u1 x1 hA1 hH1 hF1 hP1
  rw [List.mem_singleton.mp hx] at hA1 ⊢
  clear hx x
  dsimp only at hA1 ⊢
  have hR1 := hR.fr hH hF1 hP1 x1 stW_nil rW_nil
  have b1 : (h1.length : Int) - h.length ≤ 0 := Int.le_trans (hA1.cost (by decide +kernel)).1 (by decide +kernel)
  have b2 : (u1 : Int) - u ≤ 0 := Int.le_trans (hA1.cost (by decide +kernel)).2 (by decide +kernel)
  have hT : gSt ν1 [3, 17, 1] st1 := hA1.2.2.1
  obtain ⟨w0, sa0, ea0, o0, ha0⟩ := hT.inv
  subst ea0
  rw [hR1.2.2.2.1] at o0
  cases o0
  obtain ⟨w1, sa1, ea1, o1, ha1⟩ := ha0.inv
  subst ea1
  obtain ⟨p17, rfl, -⟩ := hA1.int o1 rfl
  obtain ⟨w2, sa2, ea2, o2, ha2⟩ := ha1.inv
  subst ea2
  rw [hR1.2.1] at o2
  cases o2
  cases ha2.nil
  obtain ⟨T, L, fs, fa, fbd, t1, t3, fm1⟩ := hR1.2.2.2.2.2.1
  obtain ⟨cnt, el, c0, c2, c1, cel, h0c, h24, -⟩ := hR1.2.2.2.2.2.2.1
  obtain ⟨dd, d1, d2⟩ := hR1.2.2.2.2.2.2.2.2
  have t2 : L ≤ 60 := fm1.l60
  refine call_val con_L_vote vr_243_901 lV1_f_893 rfl rfl (hA1.reb ra) hH1 (by have : k_L_vote.2.2.2.2.1 = 1 := rfl; omega) (by have : k_L_vote.2.2.2.2.2.1 = 6 := rfl; omega) rfl (fun n => C_Lvote n p17 h1 u1 hR1.2.2.2.2.1 c0 h24 (clause_at (hR1.2.2.2.2.2.2.1) c0)) ?_
  intro N2 ρ2 ν2 v h2 u2 n2 x2 hA2 hH2 hF2 hP2 V1
  obtain ⟨k, hk, V1⟩ := V1
  cases hk
  have V1 : Q_Lvote cnt p17 h1 (.inl (some (.int k))) h2 u2 := ⟨k, rfl, V1⟩
  have b3 : (h2.length : Int) - h1.length ≤ 1 := Int.le_trans (hA2.cost (by decide +kernel)).1 (by decide +kernel)
  have b4 : (u2 : Int) - u1 ≤ 6 := Int.le_trans (hA2.cost (by decide +kernel)).2 (by decide +kernel)
  have hTk : ν2[18]? = some (.int k) := gSt_hd hA2.2.2.1 (by decide +kernel)
  have hlen2 : ν2.length ≤ 19 := by
    rw [← hA2.1.1]
    exact Nat.le_of_eq lYn_f_893
  have hS2 : Stc h2 := hR1.2.2.2.2.1.fr hR1.1 hF2 stW_L_vote
  have hRo2 : Ro ρ2 := hR1.1.pre hP2
  show zE zrx zi 57 243 904 lv1 _ h2 u2 lKK
  refine seg wT_ok lC_f_ok 3000 lY2_f_893 (Nat.le_refl _) (nExt.refl ν2) hlen2 (hA2.reb rb) rfl rfl hH2 (by omega) (by omega) ?_
  intro x hx N3 ρ3 ν3 lv3 st3 h3 u3 x3 hA3 hH3 hF3 hP3
  rw [List.mem_singleton.mp hx] at hA3 ⊢
  clear hx x
  dsimp only at hA3 ⊢
  have hS3 : Stc h3 := hS2.fr hRo2 hF3 stW_nil
  have b5 : (h3.length : Int) - h2.length ≤ 0 := Int.le_trans (hA3.cost (by decide +kernel)).1 (by decide +kernel)
  have b6 : (u3 : Int) - u2 ≤ 0 := Int.le_trans (hA3.cost (by decide +kernel)).2 (by decide +kernel)
  have hE : ∀ p, p < h2.length → ∀ k, gF h3 p k = gF h2 p k := fun p hp k => gFr_F0 hF3 hH2.1 hp k
  have hT : gSt ν3 [17, 2] st3 := hA3.2.2.1
  obtain ⟨w0, sb0, eb0, c0, hb0⟩ := hT.inv
  subst eb0
  rw [x3 _ _ (x2 _ _ o1)] at c0
  cases c0
  obtain ⟨w1, sb1, eb1, c1, hb1⟩ := hb0.inv
  subst eb1
  rw [x3 _ _ (x2 _ _ hR1.2.2.1)] at c1
  cases c1
  cases hb1.nil
  have hl1 := hR1.2.2.2.2.1.1
  have hl2 := gFr_len hF2
  have hl3 := gFr_len hF3
  have ro3 : Ro ρ3 := hRo2.pre hP3
  have m2 := (hE 225 (by omega) 2).trans ((gFr_F hF2 (hR1.1 225 51 (by decide +kernel)) (by decide +kernel) (by omega)).trans c2)
  have m1 := (hE 225 (by omega) 1).trans ((gFr_F hF2 (hR1.1 225 51 (by decide +kernel)) (by decide +kernel) (by omega)).trans c1)
  obtain ⟨⟨l, l1, l2⟩, l3, l4, l5, l6, l7, l8⟩ := al_at hH3 ro3 m1 m2
  have l213 : ¬ el = 213 := by omega
  have hA7 : ∀ k, k < cnt.toNatClampNeg → ∃ A : Nat, gF h3 el k = some (.ref A) ∧ 239 ≤ A := fun k hk => by
    obtain ⟨e, e1, e2⟩ := l8 k hk
    exact ⟨e, e1, A_new ro3 e2⟩
  refine call_val con_X15_vote vr_243_913 lV2_f_893 rfl rfl (hA3.reb rc) hH3 (by have : k_X15_vote.2.2.2.2.1 = 0 := rfl; omega) (by have : k_X15_vote.2.2.2.2.2.1 = 0 := rfl; omega) rfl (fun n => C_mvote n p17 h3 u3 hS3 m1 m2 h0c l213 hA7 (fun hx A hA => by
    obtain ⟨e, e1, e2⟩ := l8 _ (iN_cl h0c hx)
    rw [hA] at e1
    cases e1
    exact art_ints hH3 e2)) ?_
  intro N4 ρ4 ν4 v h4 u4 n4 x4 hA4 hH4 hF4 hP4 V2
  obtain ⟨nd, rd⟩ := lYd0_f_893n
  obtain ⟨r, hr⟩ : ∃ r : Int32, v = .int r := by
    first
      | (obtain ⟨r, h0, hr, -⟩ := V2; cases hr; exact ⟨r, rfl⟩)
      | (obtain ⟨r, hr, -⟩ := V2; cases hr; exact ⟨r, rfl⟩)
  subst hr
  have b7 : (h4.length : Int) - h3.length ≤ 0 := Int.le_trans (hA4.cost (by decide +kernel)).1 (by decide +kernel)
  have b8 : (u4 : Int) - u3 ≤ 0 := Int.le_trans (hA4.cost (by decide +kernel)).2 (by decide +kernel)
  have z1 := ((by
    obtain ⟨⟨y1, y5⟩, y2, y3, y4⟩ := sum_vote hl1 hH1 hR1.1 (hR1.2.2.2.2.2.2.2.1) (hR1.2.2.2.2.2.2.1) d1 d2 c0 c1 h0c h24 hl2 V1 hE V2
    exact ⟨⟨qFed.fr3 (hR1.2.2.2.2.2.1) hR1.2.2.2.2.1 hR1.1 hH1 hF2 (by decide +kernel) hS2 hRo2 hH2 hF3 hS3 (hRo2.pre hP3) hH3 hF4 (by decide +kernel), y5, y1, qRDy.fr3 (hR1.2.2.2.2.2.2.2.2) hR1.2.2.2.2.1 hR1.1 hH1 hF2 (by decide +kernel) hS2 hRo2 hH2 hF3 hS3 (hRo2.pre hP3) hH3 hF4 (by decide +kernel)⟩, trivial⟩ : qCl h4 ∧ True)).1
  have hR4 : lR ρ4 ν4 h4 := ⟨(hRo2.pre hP3).pre hP4, x4 _ _ (x3 _ _ (x2 _ _ hR1.2.1)), x4 _ _ (x3 _ _ (x2 _ _ hR1.2.2.1)), x4 _ _ (x3 _ _ (x2 _ _ hR1.2.2.2.1)), hS3.fr (hRo2.pre hP3) hF4 stW_X15_vote, z1⟩
  have x14 : nExt ν ν4 := x1.trans (x2.trans (x3.trans x4))
  have hA4 := hA4.reb rd
  show zE zrx zi 57 243 916 lv3 _ h4 u4 lKK
  refine seg wT_ok lC_f_ok 3000 lY3_f_893_0 (Nat.le_refl _) x14 hlen hA4 rfl rfl hH4 (by omega) (by omega) ?_
  intro x hx N5 ρ5 ν5 lv5 st5 h5 u5 x5 hA5 hH5 hF5 hP5
  rw [List.mem_singleton.mp hx] at hA5 ⊢
  clear hx x
  dsimp only at hA5 ⊢
  have b9 : (h5.length : Int) - h4.length ≤ 0 := Int.le_trans (hA5.cost (by decide +kernel)).1 (by decide +kernel)
  have c1 : (u5 : Int) - u4 ≤ 0 := Int.le_trans (hA5.cost (by decide +kernel)).2 (by decide +kernel)
  obtain ⟨j, j1, j2⟩ := l_i hA5 rfl rfl (x5 _ _ v4)
  exact l_next (g := true) ih [0, 1, 2, 3, 15, 5, 6, 7, 8, 9, 10, 11, 12, 13, 14] (by decide +kernel) (by decide +kernel) hA5 rfl hH5 rfl rfl rfl rfl j1 (x5 _ _ v7) (x5 _ _ v9) (x5 _ _ v11) (acc.dear j2 (by omega) (by omega) true (fun z => z)) (by omega) rfl rfl rfl (lR.fr ⟨hR4.1, x5 _ _ (hR.2.1), x5 _ _ (hR.2.2.1), x5 _ _ (hR.2.2.2.1), hR4.2.2.2.2⟩ hH4 hF5 hP5 (nExt.refl ν5) stW_nil rW_nil)
def lYa_f_921 : sS := ([(3, 0, 0), (3, 8, 0), (3, 40, 0), (3, 36, 0), (0, 0, 4088), (0, 8, 4096), (3, 45, 0), (0, 0, 40), (3, 48, 0), (0, 0, 24), (3, 51, 0), (0, 0, 24), (0, 0, 4088), (0, 0, 4088), (3, 56, 0), (0, 1, 1), (0, 1, 4089), (0, -2147483648, 2147483647)], [(0, 0), (1, 1), (2, 2), (3, 3), (4, 4)], [3, 17, 1], [(4, 0, 16, 17, 0), (0, 16, 4, 0, 1), (0, 4, 16, 0, -1), (0, 4, 5, 0, -8), (3, 0, 5, 0, 0), (2, 2, 7, 6, 0), (2, 6, 2, 7, 0), (2, 2, 8, 8, 0), (2, 8, 2, 9, 0), (2, 2, 9, 10, 0), (2, 10, 2, 11, 0), (2, 1, 1, 12, 0), (2, 2, 3, 13, 0), (0, 12, 13, 0, 0), (0, 13, 12, 0, 0), (2, 2, 10, 14, 0), (0, 12, 4, 0, 0), (0, 13, 4, 0, 0)], 0, 0, [])
def lYb_f_921 : sS := vZ (cvS zi lYa_f_921 k_L_repeal (cx1 k_L_repeal))
def lYc_f_921 : sS := ([(3, 0, 0), (3, 8, 0), (3, 40, 0), (3, 36, 0), (0, 0, 4088), (0, 8, 4096), (3, 45, 0), (0, 0, 40), (3, 48, 0), (0, 0, 24), (3, 51, 0), (0, 0, 24), (0, 0, 4088), (0, 0, 4088), (3, 56, 0), (0, 1, 1), (0, 1, 4089), (0, -2147483648, 2147483647), (0, 0, 2), (0, 1, 1)], [(5, 18), (0, 0), (1, 1), (2, 2), (3, 3), (4, 4)], [17, 2], [(4, 0, 16, 17, 0), (0, 16, 4, 0, 1), (0, 4, 16, 0, -1), (0, 4, 5, 0, -8), (3, 0, 5, 0, 0), (2, 2, 7, 6, 0), (2, 6, 2, 7, 0), (2, 2, 8, 8, 0), (2, 8, 2, 9, 0), (2, 2, 9, 10, 0), (2, 10, 2, 11, 0), (2, 1, 1, 12, 0), (2, 2, 3, 13, 0), (0, 12, 13, 0, 0), (0, 13, 12, 0, 0), (2, 2, 10, 14, 0), (0, 12, 4, 0, 0), (0, 13, 4, 0, 0)], 0, 0, [])
theorem lY1_f_921 : chk zrx zi wT (wRo wSites_15) (wRo wTags_15) lC_f [] 0 0 15 3000 false [(929, lYa_f_921, [])] none 57 243 921 (vZ lM_f) (fun _ _ => false) = true := by decide +kernel
theorem lY2_f_921 : chk zrx zi wT (wRo wSites_15) (wRo wTags_15) lC_f [] 0 0 19 3000 false [(941, lYc_f_921, [])] none 57 243 932 lYb_f_921 (fun _ _ => false) = true := by decide +kernel
theorem lV1_f_921 : cvOk zrx zi wT 243 929 56 lYa_f_921 k_L_repeal = true := by decide +kernel
theorem lV2_f_921 : cvOk zrx zi wT 243 941 56 lYc_f_921 k_X15_repeal = true := by decide +kernel
theorem lYn_f_921 : lYb_f_921.1.length = 19 := by decide +kernel
theorem lYr_f_921 : (vZ lM_f).2.2.2.1.all (fun f => !(f.1 == 7)) = true ∧ lYa_f_921.2.2.2.1.all (fun f => !(f.1 == 7)) = true ∧ (cvS zi lYa_f_921 k_L_repeal (cx1 k_L_repeal)).2.2.2.1.all (fun f => !(f.1 == 7)) = true ∧ lYc_f_921.2.2.2.1.all (fun f => !(f.1 == 7)) = true := by decide +kernel
def lYd0_f_921 : sS := vZ (cvS zi lYc_f_921 k_X15_repeal (cxi k_X15_repeal 0))
theorem lYd0_f_921n : lYd0_f_921.1.length = 21 ∧ (cvS zi lYc_f_921 k_X15_repeal (cxi k_X15_repeal 0)).2.2.2.1.all (fun f => !(f.1 == 7)) = true := by decide +kernel
theorem lY3_f_921_0 : chk zrx zi wT (wRo wSites_15) (wRo wTags_15) lC_f [] 0 0 15 3000 false [(27, lT_fza, [])] none 57 243 944 lYd0_f_921 (fun _ _ => false) = true := by decide +kernel
set_option maxRecDepth 20000 in
theorem lA_f_921 {n : Nat} (ih : lIH n) {hb ub : Nat} {N : Int} {ρ : List Nat} {ν : List Value} {lv : List (Nat × Value)} {st : List Value} {h : List zC} {u : Nat} {i R C A : Int32} {F : Int} (hA : gA hb ub ρ ν lM_f lv st h u) (hH : tHeap wT N ρ h) (v4 : ν[4]? = some (.int i)) (v7 : ν[7]? = some (.int R)) (v9 : ν[9]? = some (.int C)) (v11 : ν[11]? = some (.int A))
    (i4 : i.toInt ≤ 4096) (acc : lAcc true hb ub i.toInt R.toInt C.toInt A.toInt F) (rm1 : (ub : Int) + 17920 ≤ zSN) (rm2 : (hb : Int) + 1152 ≤ zCM) (hn : 4104 - i.toInt ≤ (n + 1 : Nat)) (hR : lR ρ ν h) : zE zrx zi 57 243 921 lv st h u lKK := by
  obtain ⟨dl1, dl2, dl3, dl4⟩ := lD_lo R.toInt C.toInt A.toInt
  obtain ⟨r0, ra, rb, rc⟩ := lYr_f_921
  have q0 : (h.length : Int) - hb ≤ 0 := hA.2.2.2.2.1
  have q1 : (u : Int) - ub ≤ 0 := hA.2.2.2.2.2
  have hlen : ν.length ≤ 15 := by
    rw [← hA.1.1]
    exact Nat.le_of_eq rfl
  refine seg wT_ok lC_f_ok 3000 lY1_f_921 (Nat.le_refl _) (nExt.refl ν) hlen (hA.reb r0) rfl rfl hH (by omega) (by omega) ?_
  intro x hx N1 ρ1 ν1 lv1 st1 h1 u1 x1 hA1 hH1 hF1 hP1
  rw [List.mem_singleton.mp hx] at hA1 ⊢
  clear hx x
  dsimp only at hA1 ⊢
  have hR1 := hR.fr hH hF1 hP1 x1 stW_nil rW_nil
  have b1 : (h1.length : Int) - h.length ≤ 0 := Int.le_trans (hA1.cost (by decide +kernel)).1 (by decide +kernel)
  have b2 : (u1 : Int) - u ≤ 0 := Int.le_trans (hA1.cost (by decide +kernel)).2 (by decide +kernel)
  have hT : gSt ν1 [3, 17, 1] st1 := hA1.2.2.1
  obtain ⟨w0, sa0, ea0, o0, ha0⟩ := hT.inv
  subst ea0
  rw [hR1.2.2.2.1] at o0
  cases o0
  obtain ⟨w1, sa1, ea1, o1, ha1⟩ := ha0.inv
  subst ea1
  obtain ⟨p17, rfl, -⟩ := hA1.int o1 rfl
  obtain ⟨w2, sa2, ea2, o2, ha2⟩ := ha1.inv
  subst ea2
  rw [hR1.2.1] at o2
  cases o2
  cases ha2.nil
  obtain ⟨T, L, fs, fa, fbd, t1, t3, fm1⟩ := hR1.2.2.2.2.2.1
  obtain ⟨cnt, el, c0, c2, c1, cel, h0c, h24, -⟩ := hR1.2.2.2.2.2.2.1
  obtain ⟨dd, d1, d2⟩ := hR1.2.2.2.2.2.2.2.2
  have t2 : L ≤ 60 := fm1.l60
  refine call_val con_L_repeal vr_243_929 lV1_f_921 rfl rfl (hA1.reb ra) hH1 (by have : k_L_repeal.2.2.2.2.1 = 1 := rfl; omega) (by have : k_L_repeal.2.2.2.2.2.1 = 6 := rfl; omega) rfl (fun n => C_Lrepeal n p17 h1 u1 hR1.2.2.2.2.1 c0 h24 (clause_at (hR1.2.2.2.2.2.2.1) c0)) ?_
  intro N2 ρ2 ν2 v h2 u2 n2 x2 hA2 hH2 hF2 hP2 V1
  obtain ⟨k, hk, V1⟩ := V1
  cases hk
  have V1 : Q_Lrepeal cnt p17 h1 (.inl (some (.int k))) h2 u2 := ⟨k, rfl, V1⟩
  have b3 : (h2.length : Int) - h1.length ≤ 1 := Int.le_trans (hA2.cost (by decide +kernel)).1 (by decide +kernel)
  have b4 : (u2 : Int) - u1 ≤ 6 := Int.le_trans (hA2.cost (by decide +kernel)).2 (by decide +kernel)
  have hTk : ν2[18]? = some (.int k) := gSt_hd hA2.2.2.1 (by decide +kernel)
  have hlen2 : ν2.length ≤ 19 := by
    rw [← hA2.1.1]
    exact Nat.le_of_eq lYn_f_921
  have hS2 : Stc h2 := hR1.2.2.2.2.1.fr hR1.1 hF2 stW_L_repeal
  have hRo2 : Ro ρ2 := hR1.1.pre hP2
  show zE zrx zi 57 243 932 lv1 _ h2 u2 lKK
  refine seg wT_ok lC_f_ok 3000 lY2_f_921 (Nat.le_refl _) (nExt.refl ν2) hlen2 (hA2.reb rb) rfl rfl hH2 (by omega) (by omega) ?_
  intro x hx N3 ρ3 ν3 lv3 st3 h3 u3 x3 hA3 hH3 hF3 hP3
  rw [List.mem_singleton.mp hx] at hA3 ⊢
  clear hx x
  dsimp only at hA3 ⊢
  have hS3 : Stc h3 := hS2.fr hRo2 hF3 stW_nil
  have b5 : (h3.length : Int) - h2.length ≤ 0 := Int.le_trans (hA3.cost (by decide +kernel)).1 (by decide +kernel)
  have b6 : (u3 : Int) - u2 ≤ 0 := Int.le_trans (hA3.cost (by decide +kernel)).2 (by decide +kernel)
  have hE : ∀ p, p < h2.length → ∀ k, gF h3 p k = gF h2 p k := fun p hp k => gFr_F0 hF3 hH2.1 hp k
  have hT : gSt ν3 [17, 2] st3 := hA3.2.2.1
  obtain ⟨w0, sb0, eb0, c0, hb0⟩ := hT.inv
  subst eb0
  rw [x3 _ _ (x2 _ _ o1)] at c0
  cases c0
  obtain ⟨w1, sb1, eb1, c1, hb1⟩ := hb0.inv
  subst eb1
  rw [x3 _ _ (x2 _ _ hR1.2.2.1)] at c1
  cases c1
  cases hb1.nil
  have hl1 := hR1.2.2.2.2.1.1
  have hl2 := gFr_len hF2
  have hl3 := gFr_len hF3
  have ro3 : Ro ρ3 := hRo2.pre hP3
  have m2 := (hE 225 (by omega) 2).trans ((gFr_F hF2 (hR1.1 225 51 (by decide +kernel)) (by decide +kernel) (by omega)).trans c2)
  have m1 := (hE 225 (by omega) 1).trans ((gFr_F hF2 (hR1.1 225 51 (by decide +kernel)) (by decide +kernel) (by omega)).trans c1)
  obtain ⟨⟨l, l1, l2⟩, l3, l4, l5, l6, l7, l8⟩ := al_at hH3 ro3 m1 m2
  have l213 : ¬ el = 213 := by omega
  have hA7 : ∀ k, k < cnt.toNatClampNeg → ∃ A : Nat, gF h3 el k = some (.ref A) ∧ 239 ≤ A := fun k hk => by
    obtain ⟨e, e1, e2⟩ := l8 k hk
    exact ⟨e, e1, A_new ro3 e2⟩
  refine call_val con_X15_repeal vr_243_941 lV2_f_921 rfl rfl (hA3.reb rc) hH3 (by have : k_X15_repeal.2.2.2.2.1 = 0 := rfl; omega) (by have : k_X15_repeal.2.2.2.2.2.1 = 0 := rfl; omega) rfl (fun n => C_mrepeal n p17 h3 u3 hS3 m1 m2 h0c l213 hA7) ?_
  intro N4 ρ4 ν4 v h4 u4 n4 x4 hA4 hH4 hF4 hP4 V2
  obtain ⟨nd, rd⟩ := lYd0_f_921n
  obtain ⟨r, hr⟩ : ∃ r : Int32, v = .int r := by
    first
      | (obtain ⟨r, h0, hr, -⟩ := V2; cases hr; exact ⟨r, rfl⟩)
      | (obtain ⟨r, hr, -⟩ := V2; cases hr; exact ⟨r, rfl⟩)
  subst hr
  have b7 : (h4.length : Int) - h3.length ≤ 0 := Int.le_trans (hA4.cost (by decide +kernel)).1 (by decide +kernel)
  have b8 : (u4 : Int) - u3 ≤ 0 := Int.le_trans (hA4.cost (by decide +kernel)).2 (by decide +kernel)
  have z1 := ((by
    obtain ⟨y1, y2, y3, y4⟩ := sum_repeal hl1 hH1 hR1.1 (hR1.2.2.2.2.2.2.2.1) (hR1.2.2.2.2.2.2.1) d1 d2 c0 c1 h0c h24 hl2 V1 hE V2
    exact ⟨⟨qFed.fr3 (hR1.2.2.2.2.2.1) hR1.2.2.2.2.1 hR1.1 hH1 hF2 (by decide +kernel) hS2 hRo2 hH2 hF3 hS3 (hRo2.pre hP3) hH3 hF4 (by decide +kernel), y1, qHO.fr3 (hR1.2.2.2.2.2.2.2.1) hR1.2.2.2.2.1 hR1.1 hH1 hF2 (by decide +kernel) hS2 hRo2 hH2 hF3 hS3 (hRo2.pre hP3) hH3 hF4 (by decide +kernel), qRDy.fr3 (hR1.2.2.2.2.2.2.2.2) hR1.2.2.2.2.1 hR1.1 hH1 hF2 (by decide +kernel) hS2 hRo2 hH2 hF3 hS3 (hRo2.pre hP3) hH3 hF4 (by decide +kernel)⟩, trivial⟩ : qCl h4 ∧ True)).1
  have hR4 : lR ρ4 ν4 h4 := ⟨(hRo2.pre hP3).pre hP4, x4 _ _ (x3 _ _ (x2 _ _ hR1.2.1)), x4 _ _ (x3 _ _ (x2 _ _ hR1.2.2.1)), x4 _ _ (x3 _ _ (x2 _ _ hR1.2.2.2.1)), hS3.fr (hRo2.pre hP3) hF4 stW_X15_repeal, z1⟩
  have x14 : nExt ν ν4 := x1.trans (x2.trans (x3.trans x4))
  have hA4 := hA4.reb rd
  show zE zrx zi 57 243 944 lv3 _ h4 u4 lKK
  refine seg wT_ok lC_f_ok 3000 lY3_f_921_0 (Nat.le_refl _) x14 hlen hA4 rfl rfl hH4 (by omega) (by omega) ?_
  intro x hx N5 ρ5 ν5 lv5 st5 h5 u5 x5 hA5 hH5 hF5 hP5
  rw [List.mem_singleton.mp hx] at hA5 ⊢
  clear hx x
  dsimp only at hA5 ⊢
  have b9 : (h5.length : Int) - h4.length ≤ 0 := Int.le_trans (hA5.cost (by decide +kernel)).1 (by decide +kernel)
  have c1 : (u5 : Int) - u4 ≤ 0 := Int.le_trans (hA5.cost (by decide +kernel)).2 (by decide +kernel)
  obtain ⟨j, j1, j2⟩ := l_i hA5 rfl rfl (x5 _ _ v4)
  exact l_next (g := true) ih [0, 1, 2, 3, 15, 5, 6, 7, 8, 9, 10, 11, 12, 13, 14] (by decide +kernel) (by decide +kernel) hA5 rfl hH5 rfl rfl rfl rfl j1 (x5 _ _ v7) (x5 _ _ v9) (x5 _ _ v11) (acc.dear j2 (by omega) (by omega) true (fun z => z)) (by omega) rfl rfl rfl (lR.fr ⟨hR4.1, x5 _ _ (hR.2.1), x5 _ _ (hR.2.2.1), x5 _ _ (hR.2.2.2.1), hR4.2.2.2.2⟩ hH4 hF5 hP5 (nExt.refl ν5) stW_nil rW_nil)
def lYa_f_1057 : sS := ([(3, 0, 0), (3, 8, 0), (3, 40, 0), (3, 36, 0), (0, 0, 4088), (0, 8, 4096), (3, 45, 0), (0, 0, 40), (3, 48, 0), (0, 0, 24), (3, 51, 0), (0, 0, 24), (0, 0, 4088), (0, 0, 4088), (3, 56, 0), (0, 1, 1), (0, 1, 4089), (0, -2147483648, 2147483647)], [(0, 0), (1, 1), (2, 2), (3, 3), (4, 4)], [3, 17, 1], [(4, 0, 16, 17, 0), (0, 16, 4, 0, 1), (0, 4, 16, 0, -1), (0, 4, 5, 0, -8), (3, 0, 5, 0, 0), (2, 2, 7, 6, 0), (2, 6, 2, 7, 0), (2, 2, 8, 8, 0), (2, 8, 2, 9, 0), (2, 2, 9, 10, 0), (2, 10, 2, 11, 0), (2, 1, 1, 12, 0), (2, 2, 3, 13, 0), (0, 12, 13, 0, 0), (0, 13, 12, 0, 0), (2, 2, 10, 14, 0), (0, 12, 4, 0, 0), (0, 13, 4, 0, 0)], 0, 0, [])
def lYb_f_1057 : sS := vZ (cvS zi lYa_f_1057 k_L_pass (cx1 k_L_pass))
def lYc_f_1057 : sS := ([(3, 0, 0), (3, 8, 0), (3, 40, 0), (3, 36, 0), (0, 0, 4088), (0, 8, 4096), (3, 45, 0), (0, 0, 40), (3, 48, 0), (0, 0, 24), (3, 51, 0), (0, 0, 24), (0, 0, 4088), (0, 0, 4088), (3, 56, 0), (0, 1, 1), (0, 1, 4089), (0, -2147483648, 2147483647), (0, 0, 2), (0, 1, 1)], [(5, 18), (0, 0), (1, 1), (2, 2), (3, 3), (4, 4)], [17, 2], [(4, 0, 16, 17, 0), (0, 16, 4, 0, 1), (0, 4, 16, 0, -1), (0, 4, 5, 0, -8), (3, 0, 5, 0, 0), (2, 2, 7, 6, 0), (2, 6, 2, 7, 0), (2, 2, 8, 8, 0), (2, 8, 2, 9, 0), (2, 2, 9, 10, 0), (2, 10, 2, 11, 0), (2, 1, 1, 12, 0), (2, 2, 3, 13, 0), (0, 12, 13, 0, 0), (0, 13, 12, 0, 0), (2, 2, 10, 14, 0), (0, 12, 4, 0, 0), (0, 13, 4, 0, 0)], 0, 0, [])
theorem lY1_f_1057 : chk zrx zi wT (wRo wSites_15) (wRo wTags_15) lC_f [] 0 0 15 3000 false [(1065, lYa_f_1057, [])] none 57 243 1057 (vZ lM_f) (fun _ _ => false) = true := by decide +kernel
theorem lY2_f_1057 : chk zrx zi wT (wRo wSites_15) (wRo wTags_15) lC_f [] 0 0 19 3000 false [(1077, lYc_f_1057, [])] none 57 243 1068 lYb_f_1057 (fun _ _ => false) = true := by decide +kernel
theorem lV1_f_1057 : cvOk zrx zi wT 243 1065 56 lYa_f_1057 k_L_pass = true := by decide +kernel
theorem lV2_f_1057 : cvOk zrx zi wT 243 1077 56 lYc_f_1057 k_X15_pass = true := by decide +kernel
theorem lYn_f_1057 : lYb_f_1057.1.length = 19 := by decide +kernel
theorem lYr_f_1057 : (vZ lM_f).2.2.2.1.all (fun f => !(f.1 == 7)) = true ∧ lYa_f_1057.2.2.2.1.all (fun f => !(f.1 == 7)) = true ∧ (cvS zi lYa_f_1057 k_L_pass (cx1 k_L_pass)).2.2.2.1.all (fun f => !(f.1 == 7)) = true ∧ lYc_f_1057.2.2.2.1.all (fun f => !(f.1 == 7)) = true := by decide +kernel
def lYd0_f_1057 : sS := vZ (cvS zi lYc_f_1057 k_X15_pass (cxi k_X15_pass 0))
theorem lYd0_f_1057n : lYd0_f_1057.1.length = 21 ∧ (cvS zi lYc_f_1057 k_X15_pass (cxi k_X15_pass 0)).2.2.2.1.all (fun f => !(f.1 == 7)) = true := by decide +kernel
theorem lY3_f_1057_0 : chk zrx zi wT (wRo wSites_15) (wRo wTags_15) lC_f [] 0 0 15 3000 false [(27, lT_fza, [])] none 57 243 1080 lYd0_f_1057 (fun _ _ => false) = true := by decide +kernel
set_option maxRecDepth 20000 in
theorem lA_f_1057 {n : Nat} (ih : lIH n) {hb ub : Nat} {N : Int} {ρ : List Nat} {ν : List Value} {lv : List (Nat × Value)} {st : List Value} {h : List zC} {u : Nat} {i R C A : Int32} {F : Int} (hA : gA hb ub ρ ν lM_f lv st h u) (hH : tHeap wT N ρ h) (v4 : ν[4]? = some (.int i)) (v7 : ν[7]? = some (.int R)) (v9 : ν[9]? = some (.int C)) (v11 : ν[11]? = some (.int A))
    (i4 : i.toInt ≤ 4096) (acc : lAcc true hb ub i.toInt R.toInt C.toInt A.toInt F) (rm1 : (ub : Int) + 17920 ≤ zSN) (rm2 : (hb : Int) + 1152 ≤ zCM) (hn : 4104 - i.toInt ≤ (n + 1 : Nat)) (hR : lR ρ ν h) : zE zrx zi 57 243 1057 lv st h u lKK := by
  obtain ⟨dl1, dl2, dl3, dl4⟩ := lD_lo R.toInt C.toInt A.toInt
  obtain ⟨r0, ra, rb, rc⟩ := lYr_f_1057
  have q0 : (h.length : Int) - hb ≤ 0 := hA.2.2.2.2.1
  have q1 : (u : Int) - ub ≤ 0 := hA.2.2.2.2.2
  have hlen : ν.length ≤ 15 := by
    rw [← hA.1.1]
    exact Nat.le_of_eq rfl
  refine seg wT_ok lC_f_ok 3000 lY1_f_1057 (Nat.le_refl _) (nExt.refl ν) hlen (hA.reb r0) rfl rfl hH (by omega) (by omega) ?_
  intro x hx N1 ρ1 ν1 lv1 st1 h1 u1 x1 hA1 hH1 hF1 hP1
  rw [List.mem_singleton.mp hx] at hA1 ⊢
  clear hx x
  dsimp only at hA1 ⊢
  have hR1 := hR.fr hH hF1 hP1 x1 stW_nil rW_nil
  have b1 : (h1.length : Int) - h.length ≤ 0 := Int.le_trans (hA1.cost (by decide +kernel)).1 (by decide +kernel)
  have b2 : (u1 : Int) - u ≤ 0 := Int.le_trans (hA1.cost (by decide +kernel)).2 (by decide +kernel)
  have hT : gSt ν1 [3, 17, 1] st1 := hA1.2.2.1
  obtain ⟨w0, sa0, ea0, o0, ha0⟩ := hT.inv
  subst ea0
  rw [hR1.2.2.2.1] at o0
  cases o0
  obtain ⟨w1, sa1, ea1, o1, ha1⟩ := ha0.inv
  subst ea1
  obtain ⟨p17, rfl, -⟩ := hA1.int o1 rfl
  obtain ⟨w2, sa2, ea2, o2, ha2⟩ := ha1.inv
  subst ea2
  rw [hR1.2.1] at o2
  cases o2
  cases ha2.nil
  obtain ⟨T, L, fs, fa, fbd, t1, t3, fm1⟩ := hR1.2.2.2.2.2.1
  obtain ⟨cnt, el, c0, c2, c1, cel, h0c, h24, -⟩ := hR1.2.2.2.2.2.2.1
  obtain ⟨dd, d1, d2⟩ := hR1.2.2.2.2.2.2.2.2
  have t2 : L ≤ 60 := fm1.l60
  refine call_val con_L_pass vr_243_1065 lV1_f_1057 rfl rfl (hA1.reb ra) hH1 (by have : k_L_pass.2.2.2.2.1 = 1 := rfl; omega) (by have : k_L_pass.2.2.2.2.2.1 = 6 := rfl; omega) rfl (fun n => C_Lpass n p17 h1 u1 d1) ?_
  intro N2 ρ2 ν2 v h2 u2 n2 x2 hA2 hH2 hF2 hP2 V1
  obtain ⟨k, hk, V1⟩ := V1
  cases hk
  have V1 : Q_Lpass dd p17 h1 (.inl (some (.int k))) h2 u2 := ⟨k, rfl, V1⟩
  have b3 : (h2.length : Int) - h1.length ≤ 1 := Int.le_trans (hA2.cost (by decide +kernel)).1 (by decide +kernel)
  have b4 : (u2 : Int) - u1 ≤ 6 := Int.le_trans (hA2.cost (by decide +kernel)).2 (by decide +kernel)
  have hTk : ν2[18]? = some (.int k) := gSt_hd hA2.2.2.1 (by decide +kernel)
  have hlen2 : ν2.length ≤ 19 := by
    rw [← hA2.1.1]
    exact Nat.le_of_eq lYn_f_1057
  have hS2 : Stc h2 := hR1.2.2.2.2.1.fr hR1.1 hF2 stW_L_pass
  have hRo2 : Ro ρ2 := hR1.1.pre hP2
  show zE zrx zi 57 243 1068 lv1 _ h2 u2 lKK
  refine seg wT_ok lC_f_ok 3000 lY2_f_1057 (Nat.le_refl _) (nExt.refl ν2) hlen2 (hA2.reb rb) rfl rfl hH2 (by omega) (by omega) ?_
  intro x hx N3 ρ3 ν3 lv3 st3 h3 u3 x3 hA3 hH3 hF3 hP3
  rw [List.mem_singleton.mp hx] at hA3 ⊢
  clear hx x
  dsimp only at hA3 ⊢
  have hS3 : Stc h3 := hS2.fr hRo2 hF3 stW_nil
  have b5 : (h3.length : Int) - h2.length ≤ 0 := Int.le_trans (hA3.cost (by decide +kernel)).1 (by decide +kernel)
  have b6 : (u3 : Int) - u2 ≤ 0 := Int.le_trans (hA3.cost (by decide +kernel)).2 (by decide +kernel)
  have hE : ∀ p, p < h2.length → ∀ k, gF h3 p k = gF h2 p k := fun p hp k => gFr_F0 hF3 hH2.1 hp k
  have hT : gSt ν3 [17, 2] st3 := hA3.2.2.1
  obtain ⟨w0, sb0, eb0, c0, hb0⟩ := hT.inv
  subst eb0
  rw [x3 _ _ (x2 _ _ o1)] at c0
  cases c0
  obtain ⟨w1, sb1, eb1, c1, hb1⟩ := hb0.inv
  subst eb1
  rw [x3 _ _ (x2 _ _ hR1.2.2.1)] at c1
  cases c1
  cases hb1.nil
  have hl1 := hR1.2.2.2.2.1.1
  have hl2 := gFr_len hF2
  have hl3 := gFr_len hF3
  have ro3 : Ro ρ3 := hRo2.pre hP3
  have d3 := (hE 213 (by omega) 1).trans ((gFr_F hF2 (hR1.1 213 40 (by decide +kernel)) (by decide +kernel) (by omega)).trans d2)
  refine call_val con_X15_pass vr_243_1077 lV2_f_1057 rfl rfl (hA3.reb rc) hH3 (by have : k_X15_pass.2.2.2.2.1 = 0 := rfl; omega) (by have : k_X15_pass.2.2.2.2.2.1 = 0 := rfl; omega) rfl (fun n => C_mpass n p17 h3 u3 d3) ?_
  intro N4 ρ4 ν4 v h4 u4 n4 x4 hA4 hH4 hF4 hP4 V2
  obtain ⟨nd, rd⟩ := lYd0_f_1057n
  obtain ⟨r, hr⟩ : ∃ r : Int32, v = .int r := by
    first
      | (obtain ⟨r, h0, hr, -⟩ := V2; cases hr; exact ⟨r, rfl⟩)
      | (obtain ⟨r, hr, -⟩ := V2; cases hr; exact ⟨r, rfl⟩)
  subst hr
  have b7 : (h4.length : Int) - h3.length ≤ 0 := Int.le_trans (hA4.cost (by decide +kernel)).1 (by decide +kernel)
  have b8 : (u4 : Int) - u3 ≤ 0 := Int.le_trans (hA4.cost (by decide +kernel)).2 (by decide +kernel)
  have z1 := ((⟨⟨qFed.fr3 (hR1.2.2.2.2.2.1) hR1.2.2.2.2.1 hR1.1 hH1 hF2 (by decide +kernel) hS2 hRo2 hH2 hF3 hS3 (hRo2.pre hP3) hH3 hF4 (by decide +kernel), qAR.fr3 (hR1.2.2.2.2.2.2.1) hR1.2.2.2.2.1 hR1.1 hH1 hF2 (by decide +kernel) hS2 hRo2 hH2 hF3 hS3 (hRo2.pre hP3) hH3 hF4 (by decide +kernel), qHO.fr3 (hR1.2.2.2.2.2.2.2.1) hR1.2.2.2.2.1 hR1.1 hH1 hF2 (by decide +kernel) hS2 hRo2 hH2 hF3 hS3 (hRo2.pre hP3) hH3 hF4 (by decide +kernel), sum_pass d1 d2 hl1 hl2 V1 hE V2⟩, trivial⟩ : qCl h4 ∧ True)).1
  have hR4 : lR ρ4 ν4 h4 := ⟨(hRo2.pre hP3).pre hP4, x4 _ _ (x3 _ _ (x2 _ _ hR1.2.1)), x4 _ _ (x3 _ _ (x2 _ _ hR1.2.2.1)), x4 _ _ (x3 _ _ (x2 _ _ hR1.2.2.2.1)), hS3.fr (hRo2.pre hP3) hF4 stW_X15_pass, z1⟩
  have x14 : nExt ν ν4 := x1.trans (x2.trans (x3.trans x4))
  have hA4 := hA4.reb rd
  show zE zrx zi 57 243 1080 lv3 _ h4 u4 lKK
  refine seg wT_ok lC_f_ok 3000 lY3_f_1057_0 (Nat.le_refl _) x14 hlen hA4 rfl rfl hH4 (by omega) (by omega) ?_
  intro x hx N5 ρ5 ν5 lv5 st5 h5 u5 x5 hA5 hH5 hF5 hP5
  rw [List.mem_singleton.mp hx] at hA5 ⊢
  clear hx x
  dsimp only at hA5 ⊢
  have b9 : (h5.length : Int) - h4.length ≤ 0 := Int.le_trans (hA5.cost (by decide +kernel)).1 (by decide +kernel)
  have c1 : (u5 : Int) - u4 ≤ 0 := Int.le_trans (hA5.cost (by decide +kernel)).2 (by decide +kernel)
  obtain ⟨j, j1, j2⟩ := l_i hA5 rfl rfl (x5 _ _ v4)
  exact l_next (g := true) ih [0, 1, 2, 3, 15, 5, 6, 7, 8, 9, 10, 11, 12, 13, 14] (by decide +kernel) (by decide +kernel) hA5 rfl hH5 rfl rfl rfl rfl j1 (x5 _ _ v7) (x5 _ _ v9) (x5 _ _ v11) (acc.dear j2 (by omega) (by omega) true (fun z => z)) (by omega) rfl rfl rfl (lR.fr ⟨hR4.1, x5 _ _ (hR.2.1), x5 _ _ (hR.2.2.1), x5 _ _ (hR.2.2.2.1), hR4.2.2.2.2⟩ hH4 hF5 hP5 (nExt.refl ν5) stW_nil rW_nil)
