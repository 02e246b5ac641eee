/-! ===== the relation of this part ===== -/
abbrev lRr (h : List zC) : Prop := qAll h
theorem stW_nil : stL.all (fun e => match rho0[e.1]? with | some r => !(wIn [] r e.2.1) | none => false) = true := by decide +kernel
theorem stW_l : stL.all (fun e => match rho0[e.1]? with | some r => !(wIn lWr r e.2.1) | none => false) = true := by decide +kernel
theorem stW_L_amend : stL.all (fun e => match rho0[e.1]? with | some r => !(wIn k_L_amend.2.2.2.1 r e.2.1) | none => false) = true := by decide +kernel
theorem stW_L_appeal : stL.all (fun e => match rho0[e.1]? with | some r => !(wIn k_L_appeal.2.2.2.1 r e.2.1) | none => false) = true := by decide +kernel
theorem stW_L_dispute : stL.all (fun e => match rho0[e.1]? with | some r => !(wIn k_L_dispute.2.2.2.1 r e.2.1) | none => false) = true := by decide +kernel
theorem stW_L_feed : stL.all (fun e => match rho0[e.1]? with | some r => !(wIn k_L_feed.2.2.2.1 r e.2.1) | none => false) = true := by decide +kernel
theorem stW_L_judge : stL.all (fun e => match rho0[e.1]? with | some r => !(wIn k_L_judge.2.2.2.1 r e.2.1) | none => false) = true := by decide +kernel
theorem stW_L_limit : stL.all (fun e => match rho0[e.1]? with | some r => !(wIn k_L_limit.2.2.2.1 r e.2.1) | none => false) = true := by decide +kernel
theorem stW_L_mood : stL.all (fun e => match rho0[e.1]? with | some r => !(wIn k_L_mood.2.2.2.1 r e.2.1) | none => false) = true := by decide +kernel
theorem stW_L_pass : stL.all (fun e => match rho0[e.1]? with | some r => !(wIn k_L_pass.2.2.2.1 r e.2.1) | none => false) = true := by decide +kernel
theorem stW_L_pledge : stL.all (fun e => match rho0[e.1]? with | some r => !(wIn k_L_pledge.2.2.2.1 r e.2.1) | none => false) = true := by decide +kernel
theorem stW_L_repeal : stL.all (fun e => match rho0[e.1]? with | some r => !(wIn k_L_repeal.2.2.2.1 r e.2.1) | none => false) = true := by decide +kernel
theorem stW_L_rule : stL.all (fun e => match rho0[e.1]? with | some r => !(wIn k_L_rule.2.2.2.1 r e.2.1) | none => false) = true := by decide +kernel
theorem stW_L_seats : stL.all (fun e => match rho0[e.1]? with | some r => !(wIn k_L_seats.2.2.2.1 r e.2.1) | none => false) = true := by decide +kernel
theorem stW_L_swap : stL.all (fun e => match rho0[e.1]? with | some r => !(wIn k_L_swap.2.2.2.1 r e.2.1) | none => false) = true := by decide +kernel
theorem stW_L_taste : stL.all (fun e => match rho0[e.1]? with | some r => !(wIn k_L_taste.2.2.2.1 r e.2.1) | none => false) = true := by decide +kernel
theorem stW_L_tie : stL.all (fun e => match rho0[e.1]? with | some r => !(wIn k_L_tie.2.2.2.1 r e.2.1) | none => false) = true := by decide +kernel
theorem stW_L_vote : stL.all (fun e => match rho0[e.1]? with | some r => !(wIn k_L_vote.2.2.2.1 r e.2.1) | none => false) = true := by decide +kernel
theorem stW_L_way : stL.all (fun e => match rho0[e.1]? with | some r => !(wIn k_L_way.2.2.2.1 r e.2.1) | none => false) = true := by decide +kernel
theorem stW_L_write : stL.all (fun e => match rho0[e.1]? with | some r => !(wIn k_L_write.2.2.2.1 r e.2.1) | none => false) = true := by decide +kernel
theorem stW_X15_amend_Le : stL.all (fun e => match rho0[e.1]? with | some r => !(wIn k_X15_amend_Le.2.2.2.1 r e.2.1) | none => false) = true := by decide +kernel
theorem stW_X15_amend_Lf : stL.all (fun e => match rho0[e.1]? with | some r => !(wIn k_X15_amend_Lf.2.2.2.1 r e.2.1) | none => false) = true := by decide +kernel
theorem stW_X15_appeal : stL.all (fun e => match rho0[e.1]? with | some r => !(wIn k_X15_appeal.2.2.2.1 r e.2.1) | none => false) = true := by decide +kernel
theorem stW_X15_dispute_L : stL.all (fun e => match rho0[e.1]? with | some r => !(wIn k_X15_dispute_L.2.2.2.1 r e.2.1) | none => false) = true := by decide +kernel
theorem stW_X15_feed_Le : stL.all (fun e => match rho0[e.1]? with | some r => !(wIn k_X15_feed_Le.2.2.2.1 r e.2.1) | none => false) = true := by decide +kernel
theorem stW_X15_feed_Lf : stL.all (fun e => match rho0[e.1]? with | some r => !(wIn k_X15_feed_Lf.2.2.2.1 r e.2.1) | none => false) = true := by decide +kernel
theorem stW_X15_judge : stL.all (fun e => match rho0[e.1]? with | some r => !(wIn k_X15_judge.2.2.2.1 r e.2.1) | none => false) = true := by decide +kernel
theorem stW_X15_limit : stL.all (fun e => match rho0[e.1]? with | some r => !(wIn k_X15_limit.2.2.2.1 r e.2.1) | none => false) = true := by decide +kernel
theorem stW_X15_mood : stL.all (fun e => match rho0[e.1]? with | some r => !(wIn k_X15_mood.2.2.2.1 r e.2.1) | none => false) = true := by decide +kernel
theorem stW_X15_pass : stL.all (fun e => match rho0[e.1]? with | some r => !(wIn k_X15_pass.2.2.2.1 r e.2.1) | none => false) = true := by decide +kernel
theorem stW_X15_pledge : stL.all (fun e => match rho0[e.1]? with | some r => !(wIn k_X15_pledge.2.2.2.1 r e.2.1) | none => false) = true := by decide +kernel
theorem stW_X15_repeal : stL.all (fun e => match rho0[e.1]? with | some r => !(wIn k_X15_repeal.2.2.2.1 r e.2.1) | none => false) = true := by decide +kernel
theorem stW_X15_rule_L : stL.all (fun e => match rho0[e.1]? with | some r => !(wIn k_X15_rule_L.2.2.2.1 r e.2.1) | none => false) = true := by decide +kernel
theorem stW_X15_seats : stL.all (fun e => match rho0[e.1]? with | some r => !(wIn k_X15_seats.2.2.2.1 r e.2.1) | none => false) = true := by decide +kernel
theorem stW_X15_swap : stL.all (fun e => match rho0[e.1]? with | some r => !(wIn k_X15_swap.2.2.2.1 r e.2.1) | none => false) = true := by decide +kernel
theorem stW_X15_taste : stL.all (fun e => match rho0[e.1]? with | some r => !(wIn k_X15_taste.2.2.2.1 r e.2.1) | none => false) = true := by decide +kernel
theorem stW_X15_tie : stL.all (fun e => match rho0[e.1]? with | some r => !(wIn k_X15_tie.2.2.2.1 r e.2.1) | none => false) = true := by decide +kernel
theorem stW_X15_vote : stL.all (fun e => match rho0[e.1]? with | some r => !(wIn k_X15_vote.2.2.2.1 r e.2.1) | none => false) = true := by decide +kernel
theorem stW_X15_way : stL.all (fun e => match rho0[e.1]? with | some r => !(wIn k_X15_way.2.2.2.1 r e.2.1) | none => false) = true := by decide +kernel
theorem stW_X15_write_Le : stL.all (fun e => match rho0[e.1]? with | some r => !(wIn k_X15_write_Le.2.2.2.1 r e.2.1) | none => false) = true := by decide +kernel
theorem stW_X15_write_Lf : stL.all (fun e => match rho0[e.1]? with | some r => !(wIn k_X15_write_Lf.2.2.2.1 r e.2.1) | none => false) = true := by decide +kernel
theorem rW_nil : wAw ([] : List (Nat × Nat)) = true := by decide +kernel
theorem rW_l : wAw lWr = true := by decide +kernel
def lR (ρ : List Nat) (ν : List Value) (h : List zC) : Prop := Ro ρ ∧ ν[1]? = some (.ref 16) ∧ ν[2]? = some (.ref 213) ∧ ν[3]? = some (.ref 238) ∧ Stc h ∧ lRr h
theorem lR.fr {Wr : List (Nat × Nat)} {hb : Nat} {N : Int} {ρ ρ' : List Nat} {ν ν' : List Value} {h h' : List zC} (hR : lR ρ ν h) (hH : tHeap wT N ρ h) (hF : gFr Wr ρ h h') (hP : gPre hb ρ ρ') (hν : nExt ν ν') (hw : stL.all (fun e => match rho0[e.1]? with | some r => !(wIn Wr r e.2.1) | none => false) = true) (hw2 : wAw Wr = true) : lR ρ' ν' h' :=
  ⟨hR.1.pre hP, hν _ _ hR.2.1, hν _ _ hR.2.2.1, hν _ _ hR.2.2.2.1, hR.2.2.2.2.1.fr hR.1 hF hw, hR.2.2.2.2.2.fr hR.2.2.2.2.1 hR.1 hH hF hw2⟩
/-- the law's rows that are gone through by hand -/
theorem vr_243_276 : zrx 243 276 = some (.invokestatic 151, 209, 2) := by decide +kernel
theorem vr_243_300 : zrx 243 300 = some (.invokevirtual 154, 151, 190) := by decide +kernel
theorem vr_243_322 : zrx 243 322 = some (.invokestatic 155, 210, 2) := by decide +kernel
theorem vr_243_340 : zrx 243 340 = some (.invokevirtual 157, 152, 190) := by decide +kernel
theorem vr_243_394 : zrx 243 394 = some (.invokestatic 158, 211, 2) := by decide +kernel
theorem vr_243_444 : zrx 243 444 = some (.invokevirtual 161, 153, 190) := by decide +kernel
theorem vr_243_472 : zrx 243 472 = some (.invokestatic 162, 212, 2) := by decide +kernel
theorem vr_243_496 : zrx 243 496 = some (.invokevirtual 164, 155, 190) := by decide +kernel
theorem vr_243_550 : zrx 243 550 = some (.invokestatic 165, 213, 2) := by decide +kernel
theorem vr_243_600 : zrx 243 600 = some (.invokevirtual 167, 156, 190) := by decide +kernel
theorem vr_243_616 : zrx 243 616 = some (.invokestatic 168, 214, 2) := by decide +kernel
theorem vr_243_628 : zrx 243 628 = some (.invokevirtual 171, 160, 190) := by decide +kernel
theorem vr_243_638 : zrx 243 638 = some (.invokestatic 172, 215, 2) := by decide +kernel
theorem vr_243_644 : zrx 243 644 = some (.invokevirtual 175, 161, 190) := by decide +kernel
theorem vr_243_660 : zrx 243 660 = some (.invokestatic 176, 216, 2) := by decide +kernel
theorem vr_243_672 : zrx 243 672 = some (.invokevirtual 178, 162, 190) := by decide +kernel
theorem vr_243_700 : zrx 243 700 = some (.invokestatic 179, 217, 2) := by decide +kernel
theorem vr_243_724 : zrx 243 724 = some (.invokevirtual 181, 163, 190) := by decide +kernel
theorem vr_243_752 : zrx 243 752 = some (.invokestatic 182, 218, 2) := by decide +kernel
theorem vr_243_776 : zrx 243 776 = some (.invokevirtual 184, 164, 190) := by decide +kernel
theorem vr_243_798 : zrx 243 798 = some (.invokestatic 185, 219, 2) := by decide +kernel
theorem vr_243_816 : zrx 243 816 = some (.invokevirtual 187, 165, 190) := by decide +kernel
theorem vr_243_838 : zrx 243 838 = some (.invokestatic 188, 220, 2) := by decide +kernel
theorem vr_243_856 : zrx 243 856 = some (.invokevirtual 190, 166, 190) := by decide +kernel
theorem vr_243_872 : zrx 243 872 = some (.invokestatic 191, 221, 2) := by decide +kernel
theorem vr_243_884 : zrx 243 884 = some (.invokevirtual 193, 170, 190) := by decide +kernel
theorem vr_243_900 : zrx 243 900 = some (.invokestatic 194, 222, 2) := by decide +kernel
theorem vr_243_912 : zrx 243 912 = some (.invokevirtual 196, 171, 190) := by decide +kernel
theorem vr_243_934 : zrx 243 934 = some (.invokestatic 197, 223, 2) := by decide +kernel
theorem vr_243_952 : zrx 243 952 = some (.invokevirtual 199, 172, 190) := by decide +kernel
theorem vr_243_974 : zrx 243 974 = some (.invokestatic 200, 224, 2) := by decide +kernel
theorem vr_243_992 : zrx 243 992 = some (.invokevirtual 202, 174, 190) := by decide +kernel
theorem vr_243_1037 : zrx 243 1037 = some (.invokestatic 206, 225, 2) := by decide +kernel
theorem vr_243_1049 : zrx 243 1049 = some (.invokevirtual 208, 175, 190) := by decide +kernel
theorem vr_243_1065 : zrx 243 1065 = some (.invokestatic 209, 226, 2) := by decide +kernel
theorem vr_243_1077 : zrx 243 1077 = some (.invokevirtual 211, 176, 190) := by decide +kernel
/-! ===== the law's loop: the turns one after another ===== -/
def lIH (n : Nat) : Prop := ∀ (f : Bool) (N : Int) (ρ : List Nat) (ν : List Value) (lv : List (Nat × Value)) (h : List zC) (u : Nat) (i R C A : Int32) (F : Int), gA h.length u ρ ν (lS f) lv [] h u → tHeap wT N ρ h → ν[4]? = some (.int i) → ν[7]? = some (.int R) → ν[9]? = some (.int C) → ν[11]? = some (.int A) →
  lAcc f h.length u i.toInt R.toInt C.toInt A.toInt F → 4104 - i.toInt ≤ n → lR ρ ν h → zE zrx zi 57 243 27 lv [] h u lKK
theorem l_next {n hb ub : Nat} {g : Bool} {S : sS} {N : Int} {ρ : List Nat} {ν : List Value} {lv : List (Nat × Value)} {st : List Value} {h : List zC} {u m4 m7 m9 m11 : Nat} {i R C A : Int32} {F : Int} (ih : lIH n) (m : List Nat) (h7 : S.2.2.2.1.all (fun f => !(f.1 == 7)) = true) (hm : mOk m (S.1, S.2.1, S.2.2.1, S.2.2.2.1, 0, 0, []) (lS g) = true) (hA : gA hb ub ρ ν S lv st h u) (hs : S.2.2.1 = []) (hH : tHeap wT N ρ h)
    (e4 : m[4]? = some m4) (e7 : m[7]? = some m7) (e9 : m[9]? = some m9) (e11 : m[11]? = some m11) (v4 : ν[m4]? = some (.int i)) (v7 : ν[m7]? = some (.int R)) (v9 : ν[m9]? = some (.int C)) (v11 : ν[m11]? = some (.int A)) (acc : lAcc g h.length u i.toInt R.toInt C.toInt A.toInt F) (hn : 4104 - i.toInt ≤ n) (e1 : m[1]? = some 1) (e2 : m[2]? = some 2) (e3 : m[3]? = some 3) (hR : lR ρ ν h) : zE zrx zi 57 243 27 lv st h u lKK := by
  obtain ⟨b1, b2⟩ := hA.rebase m h7 hm
  have hT := hA.2.2.1
  rw [hs] at hT
  have e : st = [] := by
    unfold gSt at hT
    cases st with
    | nil => rfl
    | cons x r => simp at hT
  subst e
  have get : ∀ {s x : Nat} {v : Value}, m[s]? = some x → ν[x]? = some v → (mv ν m)[s]? = some v := fun q1 q2 => by
    obtain ⟨v, w1, w2⟩ := b2 _ _ q1
    rw [q2] at w1
    cases w1
    exact w2
  exact ih g N ρ (mv ν m) lv h u i R C A F b1 hH (get e4 v4) (get e7 v7) (get e9 v9) (get e11 v11) acc hn ⟨hR.1, get e1 hR.2.1, get e2 hR.2.2.1, get e3 hR.2.2.2.1, hR.2.2.2.2⟩
/-- the place behind a turn -/
theorem l_i {hb ub : Nat} {S : sS} {ρ : List Nat} {ν : List Value} {lv : List (Nat × Value)} {st : List Value} {h : List zC} {u : Nat} {i : Int32} (hA : gA hb ub ρ ν S lv st h u) (f1 : S.2.2.2.1[13]? = some (0, 15, 4, 0, 8)) (f2 : S.2.2.2.1[14]? = some (0, 4, 15, 0, -8)) (v4 : ν[4]? = some (.int i)) : ∃ i' : Int32, ν[15]? = some (.int i') ∧ i'.toInt = i.toInt + 8 := by
  obtain ⟨x, y, a1, a2, a3⟩ := fAt 13 hA f1
  obtain ⟨x2, y2, b1, b2, b3⟩ := fAt 14 hA f2
  dsimp only at a1 a2 a3 b1 b2 b3
  rw [v4] at a2 b1
  cases a2
  cases b1
  rw [a1] at b2
  cases b2
  exact ⟨x, a1, by omega⟩
/-- one more of a size -/
theorem l_one {hb ub k : Nat} {S : sS} {ρ : List Nat} {ν : List Value} {lv : List (Nat × Value)} {st : List Value} {h : List zC} {u : Nat} {R : Int32} (hA : gA hb ub ρ ν S lv st h u) (f1 : S.2.2.2.1[16]? = some (0, 16, k, 0, 1)) (f2 : S.2.2.2.1[17]? = some (0, k, 16, 0, -1)) (v : ν[k]? = some (.int R)) : ∃ R' : Int32, ν[16]? = some (.int R') ∧ R'.toInt = R.toInt + 1 := by
  obtain ⟨x, y, a1, a2, a3⟩ := fAt 16 hA f1
  obtain ⟨x2, y2, b1, b2, b3⟩ := fAt 17 hA f2
  dsimp only at a1 a2 a3 b1 b2 b3
  rw [v] at a2 b1
  cases a2
  cases b1
  rw [a1] at b2
  cases b2
  exact ⟨x, a1, by omega⟩
theorem lD_lo (R C A : Int) : 11800 ≤ lD R C A ∧ 6030 + 72 * R + 207 * C + 169 * A ≤ lD R C A ∧ 110 ≤ lDc R C A ∧ 170 + 6 * R + 18 * C + 13 * A ≤ lDc R C A := by
  unfold lD lDc
  obtain ⟨a1, a2, -⟩ := iMx_ok 11800 (6030 + 72 * R + 207 * C + 169 * A)
  obtain ⟨c1, c2, -⟩ := iMx_ok 110 (170 + 6 * R + 18 * C + 13 * A)
  exact ⟨a1, a2, c1, c2⟩
def lT_eza : sS := ([(3, 0, 0), (3, 8, 0), (3, 40, 0), (3, 36, 0), (0, 0, 4096), (0, 0, 4096), (3, 45, 0), (0, 0, 40), (3, 48, 0), (0, 0, 24), (3, 51, 0), (0, 0, 24), (0, 0, 4096), (0, 0, 4096), (3, 1, 0), (0, 0, 4096)], [(0, 0), (1, 1), (2, 2), (3, 3), (4, 15)], [], [(3, 0, 5, 0, 0), (2, 2, 7, 6, 0), (2, 6, 2, 7, 0), (2, 2, 8, 8, 0), (2, 8, 2, 9, 0), (2, 2, 9, 10, 0), (2, 10, 2, 11, 0), (2, 1, 1, 12, 0), (2, 2, 3, 13, 0), (0, 12, 13, 0, 0), (0, 13, 12, 0, 0), (2, 2, 10, 14, 0), (0, 15, 5, 0, 0), (0, 15, 4, 0, 8), (0, 4, 15, 0, -8), (0, 12, 15, 0, 0), (0, 13, 15, 0, 0)], 0, 0, [])
def lT_ezr : sS := ([(3, 0, 0), (3, 8, 0), (3, 40, 0), (3, 36, 0), (0, 0, 4096), (0, 0, 4096), (3, 45, 0), (0, 0, 40), (3, 48, 0), (0, 0, 24), (3, 51, 0), (0, 0, 24), (0, 0, 4096), (0, 0, 4096), (3, 1, 0), (0, 0, 4096), (0, 0, 40)], [(0, 0), (1, 1), (2, 2), (3, 3), (4, 15)], [], [(3, 0, 5, 0, 0), (2, 2, 7, 6, 0), (2, 6, 2, 16, 0), (2, 2, 8, 8, 0), (2, 8, 2, 9, 0), (2, 2, 9, 10, 0), (2, 10, 2, 11, 0), (2, 1, 1, 12, 0), (2, 2, 3, 13, 0), (0, 12, 13, 0, 0), (0, 13, 12, 0, 0), (2, 2, 10, 14, 0), (0, 15, 5, 0, 0), (0, 15, 4, 0, 8), (0, 4, 15, 0, -8), (0, 12, 15, 0, 0), (0, 16, 7, 0, 1), (0, 7, 16, 0, -1), (0, 13, 15, 0, 0)], 0, 0, [])
def lT_ezc : sS := ([(3, 0, 0), (3, 8, 0), (3, 40, 0), (3, 36, 0), (0, 0, 4096), (0, 0, 4096), (3, 45, 0), (0, 0, 40), (3, 48, 0), (0, 0, 24), (3, 51, 0), (0, 0, 24), (0, 0, 4096), (0, 0, 4096), (3, 1, 0), (0, 0, 4096), (0, 0, 24)], [(0, 0), (1, 1), (2, 2), (3, 3), (4, 15)], [], [(3, 0, 5, 0, 0), (2, 2, 7, 6, 0), (2, 6, 2, 7, 0), (2, 2, 8, 8, 0), (2, 8, 2, 16, 0), (2, 2, 9, 10, 0), (2, 10, 2, 11, 0), (2, 1, 1, 12, 0), (2, 2, 3, 13, 0), (0, 12, 13, 0, 0), (0, 13, 12, 0, 0), (2, 2, 10, 14, 0), (0, 15, 5, 0, 0), (0, 15, 4, 0, 8), (0, 4, 15, 0, -8), (0, 12, 15, 0, 0), (0, 16, 9, 0, 1), (0, 9, 16, 0, -1), (0, 13, 15, 0, 0)], 0, 0, [])
def lT_eze : sS := ([(3, 0, 0), (3, 8, 0), (3, 40, 0), (3, 36, 0), (0, 0, 4096), (0, 0, 4096), (3, 45, 0), (0, 0, 40), (3, 48, 0), (0, 0, 24), (3, 51, 0), (0, 0, 24), (0, 0, 4096), (0, 0, 4096), (3, 1, 0), (0, 0, 4096), (3, 1, 0)], [(0, 0), (1, 1), (2, 2), (3, 3), (4, 15)], [], [(3, 0, 5, 0, 0), (2, 2, 7, 6, 0), (2, 6, 2, 7, 0), (2, 2, 8, 8, 0), (2, 8, 2, 9, 0), (2, 2, 9, 10, 0), (2, 10, 2, 11, 0), (2, 1, 1, 12, 0), (2, 2, 3, 13, 0), (0, 12, 13, 0, 0), (0, 13, 12, 0, 0), (2, 2, 10, 16, 0), (0, 15, 5, 0, 0), (0, 15, 4, 0, 8), (0, 4, 15, 0, -8), (0, 12, 15, 0, 0), (0, 13, 15, 0, 0)], 0, 0, [])
def lT_ezf : sS := ([(3, 0, 0), (3, 8, 0), (3, 40, 0), (3, 36, 0), (0, 0, 4096), (0, 0, 4096), (3, 45, 0), (0, 0, 40), (3, 48, 0), (0, 0, 24), (3, 51, 0), (0, 0, 24), (0, 0, 4096), (0, 0, 4096), (3, 1, 0), (0, 0, 4096), (3, 56, 0)], [(0, 0), (1, 1), (2, 2), (3, 3), (4, 15)], [], [(3, 0, 5, 0, 0), (2, 2, 7, 6, 0), (2, 6, 2, 7, 0), (2, 2, 8, 8, 0), (2, 8, 2, 9, 0), (2, 2, 9, 10, 0), (2, 10, 2, 11, 0), (2, 1, 1, 12, 0), (2, 2, 3, 13, 0), (0, 12, 13, 0, 0), (0, 13, 12, 0, 0), (2, 2, 10, 16, 0), (0, 15, 5, 0, 0), (0, 15, 4, 0, 8), (0, 4, 15, 0, -8), (0, 12, 15, 0, 0), (0, 13, 15, 0, 0)], 0, 0, [])
def lYa_e_256 : sS := ([(3, 0, 0), (3, 8, 0), (3, 40, 0), (3, 36, 0), (0, 0, 4088), (0, 8, 4096), (3, 45, 0), (0, 0, 40), (3, 48, 0), (0, 0, 24), (3, 51, 0), (0, 0, 24), (0, 0, 4088), (0, 0, 4088), (3, 1, 0), (0, 1, 1), (0, 1, 4089), (0, -2147483648, 2147483647), (0, 2, 2), (0, 2, 4090), (0, -2147483648, 2147483647), (0, 3, 3), (0, 3, 4091), (0, -2147483648, 2147483647)], [(0, 0), (1, 1), (2, 2), (3, 3), (4, 4)], [3, 23, 20, 17, 1], [(4, 0, 22, 23, 0), (0, 22, 4, 0, 3), (0, 4, 22, 0, -3), (4, 0, 19, 20, 0), (0, 19, 4, 0, 2), (0, 4, 19, 0, -2), (4, 0, 16, 17, 0), (0, 16, 4, 0, 1), (0, 4, 16, 0, -1), (0, 4, 5, 0, -8), (3, 0, 5, 0, 0), (2, 2, 7, 6, 0), (2, 6, 2, 7, 0), (2, 2, 8, 8, 0), (2, 8, 2, 9, 0), (2, 2, 9, 10, 0), (2, 10, 2, 11, 0), (2, 1, 1, 12, 0), (2, 2, 3, 13, 0), (0, 12, 13, 0, 0), (0, 13, 12, 0, 0), (2, 2, 10, 14, 0), (0, 12, 4, 0, 0), (0, 13, 4, 0, 0)], 0, 0, [])
def lYb_e_256 : sS := vZ (cvS zi lYa_e_256 k_L_swap (cx1 k_L_swap))
def lYc_e_256 : sS := ([(3, 0, 0), (3, 8, 0), (3, 40, 0), (3, 36, 0), (0, 0, 4088), (0, 8, 4096), (3, 45, 0), (0, 0, 40), (3, 48, 0), (0, 0, 24), (3, 51, 0), (0, 0, 24), (0, 0, 4088), (0, 0, 4088), (3, 1, 0), (0, 1, 1), (0, 1, 4089), (0, -2147483648, 2147483647), (0, 2, 2), (0, 2, 4090), (0, -2147483648, 2147483647), (0, 3, 3), (0, 3, 4091), (0, -2147483648, 2147483647), (0, 0, 2), (0, 1, 1), (0, 2, 2), (0, 3, 3)], [(5, 24), (0, 0), (1, 1), (2, 2), (3, 3), (4, 4)], [23, 20, 17, 2], [(4, 0, 22, 23, 0), (0, 22, 4, 0, 3), (0, 4, 22, 0, -3), (4, 0, 19, 20, 0), (0, 19, 4, 0, 2), (0, 4, 19, 0, -2), (4, 0, 16, 17, 0), (0, 16, 4, 0, 1), (0, 4, 16, 0, -1), (0, 4, 5, 0, -8), (3, 0, 5, 0, 0), (2, 2, 7, 6, 0), (2, 6, 2, 7, 0), (2, 2, 8, 8, 0), (2, 8, 2, 9, 0), (2, 2, 9, 10, 0), (2, 10, 2, 11, 0), (2, 1, 1, 12, 0), (2, 2, 3, 13, 0), (0, 12, 13, 0, 0), (0, 13, 12, 0, 0), (2, 2, 10, 14, 0), (0, 12, 4, 0, 0), (0, 13, 4, 0, 0)], 0, 0, [])
theorem lY1_e_256 : chk zrx zi wT (wRo wSites_15) (wRo wTags_15) lC_e [] 0 0 15 3000 false [(276, lYa_e_256, [])] none 57 243 256 (vZ lM_e) (fun _ _ => false) = true := by decide +kernel
theorem lY2_e_256 : chk zrx zi wT (wRo wSites_15) (wRo wTags_15) lC_e [] 0 0 25 3000 false [(300, lYc_e_256, [])] none 57 243 279 lYb_e_256 (fun _ _ => false) = true := by decide +kernel
theorem lV1_e_256 : cvOk zrx zi wT 243 276 56 lYa_e_256 k_L_swap = true := by decide +kernel
theorem lV2_e_256 : cvOk zrx zi wT 243 300 56 lYc_e_256 k_X15_swap = true := by decide +kernel
theorem lYn_e_256 : lYb_e_256.1.length = 25 := by decide +kernel
theorem lYr_e_256 : (vZ lM_e).2.2.2.1.all (fun f => !(f.1 == 7)) = true ∧ lYa_e_256.2.2.2.1.all (fun f => !(f.1 == 7)) = true ∧ (cvS zi lYa_e_256 k_L_swap (cx1 k_L_swap)).2.2.2.1.all (fun f => !(f.1 == 7)) = true ∧ lYc_e_256.2.2.2.1.all (fun f => !(f.1 == 7)) = true := by decide +kernel
def lYd0_e_256 : sS := vZ (cvS zi lYc_e_256 k_X15_swap (cxi k_X15_swap 0))
theorem lYd0_e_256n : lYd0_e_256.1.length = 29 ∧ (cvS zi lYc_e_256 k_X15_swap (cxi k_X15_swap 0)).2.2.2.1.all (fun f => !(f.1 == 7)) = true := by decide +kernel
theorem lY3_e_256_0 : chk zrx zi wT (wRo wSites_15) (wRo wTags_15) lC_e [] 0 0 15 3000 false [(27, lT_eza, [])] none 57 243 303 lYd0_e_256 (fun _ _ => false) = true := by decide +kernel
set_option maxRecDepth 20000 in
theorem lA_e_256 {n : Nat} (ih : lIH n) {hb ub : Nat} {N : Int} {ρ : List Nat} {ν : List Value} {lv : List (Nat × Value)} {st : List Value} {h : List zC} {u : Nat} {i R C A : Int32} {F : Int} (hA : gA hb ub ρ ν lM_e lv st h u) (hH : tHeap wT N ρ h) (v4 : ν[4]? = some (.int i)) (v7 : ν[7]? = some (.int R)) (v9 : ν[9]? = some (.int C)) (v11 : ν[11]? = some (.int A))
    (i4 : i.toInt ≤ 4096) (acc : lAcc false hb ub i.toInt R.toInt C.toInt A.toInt F) (rm1 : (ub : Int) + 17920 ≤ zSN) (rm2 : (hb : Int) + 1152 ≤ zCM) (hn : 4104 - i.toInt ≤ (n + 1 : Nat)) (hR : lR ρ ν h) : zE zrx zi 57 243 256 lv st h u lKK := by
  obtain ⟨dl1, dl2, dl3, dl4⟩ := lD_lo R.toInt C.toInt A.toInt
  obtain ⟨r0, ra, rb, rc⟩ := lYr_e_256
  have q0 : (h.length : Int) - hb ≤ 0 := hA.2.2.2.2.1
  have q1 : (u : Int) - ub ≤ 0 := hA.2.2.2.2.2
  have hlen : ν.length ≤ 15 := by
    rw [← hA.1.1]
    exact Nat.le_of_eq rfl
  refine seg wT_ok lC_e_ok 3000 lY1_e_256 (Nat.le_refl _) (nExt.refl ν) hlen (hA.reb r0) rfl rfl hH (by omega) (by omega) ?_
  intro x hx N1 ρ1 ν1 lv1 st1 h1 u1 x1 hA1 hH1 hF1 hP1
  rw [List.mem_singleton.mp hx] at hA1 ⊢
  clear hx x
  dsimp only at hA1 ⊢
  have hR1 := hR.fr hH hF1 hP1 x1 stW_nil rW_nil
  have b1 : (h1.length : Int) - h.length ≤ 0 := Int.le_trans (hA1.cost (by decide +kernel)).1 (by decide +kernel)
  have b2 : (u1 : Int) - u ≤ 0 := Int.le_trans (hA1.cost (by decide +kernel)).2 (by decide +kernel)
  have hT : gSt ν1 [3, 23, 20, 17, 1] st1 := hA1.2.2.1
  obtain ⟨w0, sa0, ea0, o0, ha0⟩ := hT.inv
  subst ea0
  rw [hR1.2.2.2.1] at o0
  cases o0
  obtain ⟨w1, sa1, ea1, o1, ha1⟩ := ha0.inv
  subst ea1
  obtain ⟨p23, rfl, -⟩ := hA1.int o1 rfl
  obtain ⟨w2, sa2, ea2, o2, ha2⟩ := ha1.inv
  subst ea2
  obtain ⟨p20, rfl, -⟩ := hA1.int o2 rfl
  obtain ⟨w3, sa3, ea3, o3, ha3⟩ := ha2.inv
  subst ea3
  obtain ⟨p17, rfl, -⟩ := hA1.int o3 rfl
  obtain ⟨w4, sa4, ea4, o4, ha4⟩ := ha3.inv
  subst ea4
  rw [hR1.2.1] at o4
  cases o4
  cases ha4.nil
  refine call_val con_L_swap vr_243_276 lV1_e_256 rfl rfl (hA1.reb ra) hH1 (by have : k_L_swap.2.2.2.2.1 = 1 := rfl; omega) (by have : k_L_swap.2.2.2.2.2.1 = 6 := rfl; omega) rfl (fun n => C_Lswap n p17 p20 p23 h1 u1 hR1.2.2.2.2.1) ?_
  intro N2 ρ2 ν2 v h2 u2 n2 x2 hA2 hH2 hF2 hP2 V1
  obtain ⟨k, hk, V1⟩ := V1
  cases hk
  have V1 : Q_Lswap p17 p20 p23 h1 (.inl (some (.int k))) h2 u2 := ⟨k, rfl, V1⟩
  have b3 : (h2.length : Int) - h1.length ≤ 1 := Int.le_trans (hA2.cost (by decide +kernel)).1 (by decide +kernel)
  have b4 : (u2 : Int) - u1 ≤ 6 := Int.le_trans (hA2.cost (by decide +kernel)).2 (by decide +kernel)
  have hTk : ν2[24]? = some (.int k) := gSt_hd hA2.2.2.1 (by decide +kernel)
  have hlen2 : ν2.length ≤ 25 := by
    rw [← hA2.1.1]
    exact Nat.le_of_eq lYn_e_256
  have hS2 : Stc h2 := hR1.2.2.2.2.1.fr hR1.1 hF2 stW_L_swap
  have hRo2 : Ro ρ2 := hR1.1.pre hP2
  show zE zrx zi 57 243 279 lv1 _ h2 u2 lKK
  refine seg wT_ok lC_e_ok 3000 lY2_e_256 (Nat.le_refl _) (nExt.refl ν2) hlen2 (hA2.reb rb) rfl rfl hH2 (by omega) (by omega) ?_
  intro x hx N3 ρ3 ν3 lv3 st3 h3 u3 x3 hA3 hH3 hF3 hP3
  rw [List.mem_singleton.mp hx] at hA3 ⊢
  clear hx x
  dsimp only at hA3 ⊢
  have hS3 : Stc h3 := hS2.fr hRo2 hF3 stW_nil
  have b5 : (h3.length : Int) - h2.length ≤ 0 := Int.le_trans (hA3.cost (by decide +kernel)).1 (by decide +kernel)
  have b6 : (u3 : Int) - u2 ≤ 0 := Int.le_trans (hA3.cost (by decide +kernel)).2 (by decide +kernel)
  have hE : ∀ p, p < h2.length → ∀ k, gF h3 p k = gF h2 p k := fun p hp k => gFr_F0 hF3 hH2.1 hp k
  have hT : gSt ν3 [23, 20, 17, 2] st3 := hA3.2.2.1
  obtain ⟨w0, sb0, eb0, c0, hb0⟩ := hT.inv
  subst eb0
  rw [x3 _ _ (x2 _ _ o1)] at c0
  cases c0
  obtain ⟨w1, sb1, eb1, c1, hb1⟩ := hb0.inv
  subst eb1
  rw [x3 _ _ (x2 _ _ o2)] at c1
  cases c1
  obtain ⟨w2, sb2, eb2, c2, hb2⟩ := hb1.inv
  subst eb2
  rw [x3 _ _ (x2 _ _ o3)] at c2
  cases c2
  obtain ⟨w3, sb3, eb3, c3, hb3⟩ := hb2.inv
  subst eb3
  rw [x3 _ _ (x2 _ _ hR1.2.2.1)] at c3
  cases c3
  cases hb3.nil
  have hl1 := hR1.2.2.2.2.1.1
  have hl2 := gFr_len hF2
  have hl3 := gFr_len hF3
  have ro3 : Ro ρ3 := hRo2.pre hP3
  refine call_val con_X15_swap vr_243_300 lV2_e_256 rfl rfl (hA3.reb rc) hH3 (by have : k_X15_swap.2.2.2.2.1 = 0 := rfl; omega) (by have : k_X15_swap.2.2.2.2.2.1 = 0 := rfl; omega) rfl (fun n => C_mswap n p17 p20 p23 h3 u3 hS3) ?_
  intro N4 ρ4 ν4 v h4 u4 n4 x4 hA4 hH4 hF4 hP4 V2
  obtain ⟨nd, rd⟩ := lYd0_e_256n
  obtain ⟨r, hr⟩ : ∃ r : Int32, v = .int r := by
    first
      | (obtain ⟨r, h0, hr, -⟩ := V2; cases hr; exact ⟨r, rfl⟩)
      | (obtain ⟨r, hr, -⟩ := V2; cases hr; exact ⟨r, rfl⟩)
  subst hr
  have b7 : (h4.length : Int) - h3.length ≤ 0 := Int.le_trans (hA4.cost (by decide +kernel)).1 (by decide +kernel)
  have b8 : (u4 : Int) - u3 ≤ 0 := Int.le_trans (hA4.cost (by decide +kernel)).2 (by decide +kernel)
  have z1 := ((⟨⟨⟨qFed.fr3 (hR1.2.2.2.2.2.1.1) hR1.2.2.2.2.1 hR1.1 hH1 hF2 (by decide +kernel) hS2 hRo2 hH2 hF3 hS3 (hRo2.pre hP3) hH3 hF4 (by decide +kernel), qAR.fr3 (hR1.2.2.2.2.2.1.2.1) hR1.2.2.2.2.1 hR1.1 hH1 hF2 (by decide +kernel) hS2 hRo2 hH2 hF3 hS3 (hRo2.pre hP3) hH3 hF4 (by decide +kernel), qHO.fr3 (hR1.2.2.2.2.2.1.2.2.1) hR1.2.2.2.2.1 hR1.1 hH1 hF2 (by decide +kernel) hS2 hRo2 hH2 hF3 hS3 (hRo2.pre hP3) hH3 hF4 (by decide +kernel), qEX.fr3 (hR1.2.2.2.2.2.1.2.2.2) hR1.2.2.2.2.1 hR1.1 hH1 hF2 (by decide +kernel) hS2 hRo2 hH2 hF3 hS3 (hRo2.pre hP3) hH3 hF4 (by decide +kernel)⟩, ⟨qRFu.fr3 (hR1.2.2.2.2.2.2.1.1) hR1.2.2.2.2.1 hR1.1 hH1 hF2 (by decide +kernel) hS2 hRo2 hH2 hF3 hS3 (hRo2.pre hP3) hH3 hF4 (by decide +kernel), qRCs.fr3 (hR1.2.2.2.2.2.2.1.2.1) hR1.2.2.2.2.1 hR1.1 hH1 hF2 (by decide +kernel) hS2 hRo2 hH2 hF3 hS3 (hRo2.pre hP3) hH3 hF4 (by decide +kernel), qVd.fr3 (hR1.2.2.2.2.2.2.1.2.2) hR1.2.2.2.2.1 hR1.1 hH1 hF2 (by decide +kernel) hS2 hRo2 hH2 hF3 hS3 (hRo2.pre hP3) hH3 hF4 (by decide +kernel)⟩, ⟨(sum_swap (hR1.2.2.2.2.2.2.2.1.1) hl1 V1 (fun p hp k => hE p (by omega) k) V2).1, qSm.fr3T (hR1.2.2.2.2.2.2.2.1.2.1) hR1.2.2.2.2.1 hR1.1 hH1 hF2 (by decide +kernel) hS2 hRo2 hH2 hF3 hS3 (hRo2.pre hP3) hH3 hF4 (by decide +kernel), qSm.fr3Y (hR1.2.2.2.2.2.2.2.1.2.2) hR1.2.2.2.2.1 hR1.1 hH1 hF2 (by decide +kernel) hS2 hRo2 hH2 hF3 hS3 (hRo2.pre hP3) hH3 hF4 (by decide +kernel)⟩, qDz.fr3 (hR1.2.2.2.2.2.2.2.2.1) hR1.2.2.2.2.1 hR1.1 hH1 hF2 (by decide +kernel) hS2 hRo2 hH2 hF3 hS3 (hRo2.pre hP3) hH3 hF4 (by decide +kernel), qRv.fr3 (hR1.2.2.2.2.2.2.2.2.2) hR1.2.2.2.2.1 hR1.1 hH1 hF2 (by decide +kernel) hS2 hRo2 hH2 hF3 hS3 (hRo2.pre hP3) hH3 hF4 (by decide +kernel)⟩, trivial⟩ : qAll h4 ∧ True)).1
  have hR4 : lR ρ4 ν4 h4 := ⟨(hRo2.pre hP3).pre hP4, x4 _ _ (x3 _ _ (x2 _ _ hR1.2.1)), x4 _ _ (x3 _ _ (x2 _ _ hR1.2.2.1)), x4 _ _ (x3 _ _ (x2 _ _ hR1.2.2.2.1)), hS3.fr (hRo2.pre hP3) hF4 stW_X15_swap, z1⟩
  have x14 : nExt ν ν4 := x1.trans (x2.trans (x3.trans x4))
  have hA4 := hA4.reb rd
  show zE zrx zi 57 243 303 lv3 _ h4 u4 lKK
  refine seg wT_ok lC_e_ok 3000 lY3_e_256_0 (Nat.le_refl _) x14 hlen hA4 rfl rfl hH4 (by omega) (by omega) ?_
  intro x hx N5 ρ5 ν5 lv5 st5 h5 u5 x5 hA5 hH5 hF5 hP5
  rw [List.mem_singleton.mp hx] at hA5 ⊢
  clear hx x
  dsimp only at hA5 ⊢
  have b9 : (h5.length : Int) - h4.length ≤ 0 := Int.le_trans (hA5.cost (by decide +kernel)).1 (by decide +kernel)
  have c1 : (u5 : Int) - u4 ≤ 0 := Int.le_trans (hA5.cost (by decide +kernel)).2 (by decide +kernel)
  obtain ⟨j, j1, j2⟩ := l_i hA5 rfl rfl (x5 _ _ v4)
  exact l_next (g := false) ih [0, 1, 2, 3, 15, 5, 6, 7, 8, 9, 10, 11, 12, 13, 14] (by decide +kernel) (by decide +kernel) hA5 rfl hH5 rfl rfl rfl rfl j1 (x5 _ _ v7) (x5 _ _ v9) (x5 _ _ v11) (acc.dear j2 (by omega) (by omega) false (fun z => z)) (by omega) rfl rfl rfl (lR.fr ⟨hR4.1, x5 _ _ (hR.2.1), x5 _ _ (hR.2.2.1), x5 _ _ (hR.2.2.2.1), hR4.2.2.2.2⟩ hH4 hF5 hP5 (nExt.refl ν5) stW_nil rW_nil)
def lYa_e_308 : sS := ([(3, 0, 0), (3, 8, 0), (3, 40, 0), (3, 36, 0), (0, 0, 4088), (0, 8, 4096), (3, 45, 0), (0, 0, 40), (3, 48, 0), (0, 0, 24), (3, 51, 0), (0, 0, 24), (0, 0, 4088), (0, 0, 4088), (3, 1, 0), (0, 1, 1), (0, 1, 4089), (0, -2147483648, 2147483647), (0, 2, 2), (0, 2, 4090), (0, -2147483648, 2147483647)], [(0, 0), (1, 1), (2, 2), (3, 3), (4, 4)], [3, 20, 17, 1], [(4, 0, 19, 20, 0), (0, 19, 4, 0, 2), (0, 4, 19, 0, -2), (4, 0, 16, 17, 0), (0, 16, 4, 0, 1), (0, 4, 16, 0, -1), (0, 4, 5, 0, -8), (3, 0, 5, 0, 0), (2, 2, 7, 6, 0), (2, 6, 2, 7, 0), (2, 2, 8, 8, 0), (2, 8, 2, 9, 0), (2, 2, 9, 10, 0), (2, 10, 2, 11, 0), (2, 1, 1, 12, 0), (2, 2, 3, 13, 0), (0, 12, 13, 0, 0), (0, 13, 12, 0, 0), (2, 2, 10, 14, 0), (0, 12, 4, 0, 0), (0, 13, 4, 0, 0)], 0, 0, [])
def lYb_e_308 : sS := vZ (cvS zi lYa_e_308 k_L_tie (cx1 k_L_tie))
def lYc_e_308 : sS := ([(3, 0, 0), (3, 8, 0), (3, 40, 0), (3, 36, 0), (0, 0, 4088), (0, 8, 4096), (3, 45, 0), (0, 0, 40), (3, 48, 0), (0, 0, 24), (3, 51, 0), (0, 0, 24), (0, 0, 4088), (0, 0, 4088), (3, 1, 0), (0, 1, 1), (0, 1, 4089), (0, -2147483648, 2147483647), (0, 2, 2), (0, 2, 4090), (0, -2147483648, 2147483647), (0, 0, 2), (0, 1, 1), (0, 2, 2)], [(5, 21), (0, 0), (1, 1), (2, 2), (3, 3), (4, 4)], [20, 17, 2], [(4, 0, 19, 20, 0), (0, 19, 4, 0, 2), (0, 4, 19, 0, -2), (4, 0, 16, 17, 0), (0, 16, 4, 0, 1), (0, 4, 16, 0, -1), (0, 4, 5, 0, -8), (3, 0, 5, 0, 0), (2, 2, 7, 6, 0), (2, 6, 2, 7, 0), (2, 2, 8, 8, 0), (2, 8, 2, 9, 0), (2, 2, 9, 10, 0), (2, 10, 2, 11, 0), (2, 1, 1, 12, 0), (2, 2, 3, 13, 0), (0, 12, 13, 0, 0), (0, 13, 12, 0, 0), (2, 2, 10, 14, 0), (0, 12, 4, 0, 0), (0, 13, 4, 0, 0)], 0, 0, [])
theorem lY1_e_308 : chk zrx zi wT (wRo wSites_15) (wRo wTags_15) lC_e [] 0 0 15 3000 false [(322, lYa_e_308, [])] none 57 243 308 (vZ lM_e) (fun _ _ => false) = true := by decide +kernel
theorem lY2_e_308 : chk zrx zi wT (wRo wSites_15) (wRo wTags_15) lC_e [] 0 0 22 3000 false [(340, lYc_e_308, [])] none 57 243 325 lYb_e_308 (fun _ _ => false) = true := by decide +kernel
theorem lV1_e_308 : cvOk zrx zi wT 243 322 56 lYa_e_308 k_L_tie = true := by decide +kernel
theorem lV2_e_308 : cvOk zrx zi wT 243 340 56 lYc_e_308 k_X15_tie = true := by decide +kernel
theorem lYn_e_308 : lYb_e_308.1.length = 22 := by decide +kernel
theorem lYr_e_308 : (vZ lM_e).2.2.2.1.all (fun f => !(f.1 == 7)) = true ∧ lYa_e_308.2.2.2.1.all (fun f => !(f.1 == 7)) = true ∧ (cvS zi lYa_e_308 k_L_tie (cx1 k_L_tie)).2.2.2.1.all (fun f => !(f.1 == 7)) = true ∧ lYc_e_308.2.2.2.1.all (fun f => !(f.1 == 7)) = true := by decide +kernel
def lYd0_e_308 : sS := vZ (cvS zi lYc_e_308 k_X15_tie (cxi k_X15_tie 0))
theorem lYd0_e_308n : lYd0_e_308.1.length = 25 ∧ (cvS zi lYc_e_308 k_X15_tie (cxi k_X15_tie 0)).2.2.2.1.all (fun f => !(f.1 == 7)) = true := by decide +kernel
theorem lY3_e_308_0 : chk zrx zi wT (wRo wSites_15) (wRo wTags_15) lC_e [] 0 0 15 3000 false [(27, lT_eza, [])] none 57 243 343 lYd0_e_308 (fun _ _ => false) = true := by decide +kernel
set_option maxRecDepth 20000 in
theorem lA_e_308 {n : Nat} (ih : lIH n) {hb ub : Nat} {N : Int} {ρ : List Nat} {ν : List Value} {lv : List (Nat × Value)} {st : List Value} {h : List zC} {u : Nat} {i R C A : Int32} {F : Int} (hA : gA hb ub ρ ν lM_e lv st h u) (hH : tHeap wT N ρ h) (v4 : ν[4]? = some (.int i)) (v7 : ν[7]? = some (.int R)) (v9 : ν[9]? = some (.int C)) (v11 : ν[11]? = some (.int A))
    (i4 : i.toInt ≤ 4096) (acc : lAcc false hb ub i.toInt R.toInt C.toInt A.toInt F) (rm1 : (ub : Int) + 17920 ≤ zSN) (rm2 : (hb : Int) + 1152 ≤ zCM) (hn : 4104 - i.toInt ≤ (n + 1 : Nat)) (hR : lR ρ ν h) : zE zrx zi 57 243 308 lv st h u lKK := by
  obtain ⟨dl1, dl2, dl3, dl4⟩ := lD_lo R.toInt C.toInt A.toInt
  obtain ⟨r0, ra, rb, rc⟩ := lYr_e_308
  have q0 : (h.length : Int) - hb ≤ 0 := hA.2.2.2.2.1
  have q1 : (u : Int) - ub ≤ 0 := hA.2.2.2.2.2
  have hlen : ν.length ≤ 15 := by
    rw [← hA.1.1]
    exact Nat.le_of_eq rfl
  refine seg wT_ok lC_e_ok 3000 lY1_e_308 (Nat.le_refl _) (nExt.refl ν) hlen (hA.reb r0) rfl rfl hH (by omega) (by omega) ?_
  intro x hx N1 ρ1 ν1 lv1 st1 h1 u1 x1 hA1 hH1 hF1 hP1
  rw [List.mem_singleton.mp hx] at hA1 ⊢
  clear hx x
  dsimp only at hA1 ⊢
  have hR1 := hR.fr hH hF1 hP1 x1 stW_nil rW_nil
  have b1 : (h1.length : Int) - h.length ≤ 0 := Int.le_trans (hA1.cost (by decide +kernel)).1 (by decide +kernel)
  have b2 : (u1 : Int) - u ≤ 0 := Int.le_trans (hA1.cost (by decide +kernel)).2 (by decide +kernel)
  have hT : gSt ν1 [3, 20, 17, 1] st1 := hA1.2.2.1
  obtain ⟨w0, sa0, ea0, o0, ha0⟩ := hT.inv
  subst ea0
  rw [hR1.2.2.2.1] at o0
  cases o0
  obtain ⟨w1, sa1, ea1, o1, ha1⟩ := ha0.inv
  subst ea1
  obtain ⟨p20, rfl, -⟩ := hA1.int o1 rfl
  obtain ⟨w2, sa2, ea2, o2, ha2⟩ := ha1.inv
  subst ea2
  obtain ⟨p17, rfl, -⟩ := hA1.int o2 rfl
  obtain ⟨w3, sa3, ea3, o3, ha3⟩ := ha2.inv
  subst ea3
  rw [hR1.2.1] at o3
  cases o3
  cases ha3.nil
  refine call_val con_L_tie vr_243_322 lV1_e_308 rfl rfl (hA1.reb ra) hH1 (by have : k_L_tie.2.2.2.2.1 = 1 := rfl; omega) (by have : k_L_tie.2.2.2.2.2.1 = 6 := rfl; omega) rfl (fun n => C_Ltie n p17 p20 h1 u1 hR1.2.2.2.2.1) ?_
  intro N2 ρ2 ν2 v h2 u2 n2 x2 hA2 hH2 hF2 hP2 V1
  obtain ⟨k, hk, V1⟩ := V1
  cases hk
  have V1 : Q_Ltie p17 p20 h1 (.inl (some (.int k))) h2 u2 := ⟨k, rfl, V1⟩
  have b3 : (h2.length : Int) - h1.length ≤ 1 := Int.le_trans (hA2.cost (by decide +kernel)).1 (by decide +kernel)
  have b4 : (u2 : Int) - u1 ≤ 6 := Int.le_trans (hA2.cost (by decide +kernel)).2 (by decide +kernel)
  have hTk : ν2[21]? = some (.int k) := gSt_hd hA2.2.2.1 (by decide +kernel)
  have hlen2 : ν2.length ≤ 22 := by
    rw [← hA2.1.1]
    exact Nat.le_of_eq lYn_e_308
  have hS2 : Stc h2 := hR1.2.2.2.2.1.fr hR1.1 hF2 stW_L_tie
  have hRo2 : Ro ρ2 := hR1.1.pre hP2
  show zE zrx zi 57 243 325 lv1 _ h2 u2 lKK
  refine seg wT_ok lC_e_ok 3000 lY2_e_308 (Nat.le_refl _) (nExt.refl ν2) hlen2 (hA2.reb rb) rfl rfl hH2 (by omega) (by omega) ?_
  intro x hx N3 ρ3 ν3 lv3 st3 h3 u3 x3 hA3 hH3 hF3 hP3
  rw [List.mem_singleton.mp hx] at hA3 ⊢
  clear hx x
  dsimp only at hA3 ⊢
  have hS3 : Stc h3 := hS2.fr hRo2 hF3 stW_nil
  have b5 : (h3.length : Int) - h2.length ≤ 0 := Int.le_trans (hA3.cost (by decide +kernel)).1 (by decide +kernel)
  have b6 : (u3 : Int) - u2 ≤ 0 := Int.le_trans (hA3.cost (by decide +kernel)).2 (by decide +kernel)
  have hE : ∀ p, p < h2.length → ∀ k, gF h3 p k = gF h2 p k := fun p hp k => gFr_F0 hF3 hH2.1 hp k
  have hT : gSt ν3 [20, 17, 2] st3 := hA3.2.2.1
  obtain ⟨w0, sb0, eb0, c0, hb0⟩ := hT.inv
  subst eb0
  rw [x3 _ _ (x2 _ _ o1)] at c0
  cases c0
  obtain ⟨w1, sb1, eb1, c1, hb1⟩ := hb0.inv
  subst eb1
  rw [x3 _ _ (x2 _ _ o2)] at c1
  cases c1
  obtain ⟨w2, sb2, eb2, c2, hb2⟩ := hb1.inv
  subst eb2
  rw [x3 _ _ (x2 _ _ hR1.2.2.1)] at c2
  cases c2
  cases hb2.nil
  have hl1 := hR1.2.2.2.2.1.1
  have hl2 := gFr_len hF2
  have hl3 := gFr_len hF3
  have ro3 : Ro ρ3 := hRo2.pre hP3
  refine call_val con_X15_tie vr_243_340 lV2_e_308 rfl rfl (hA3.reb rc) hH3 (by have : k_X15_tie.2.2.2.2.1 = 0 := rfl; omega) (by have : k_X15_tie.2.2.2.2.2.1 = 0 := rfl; omega) rfl (fun n => C_mtie n p17 p20 h3 u3 hS3) ?_
  intro N4 ρ4 ν4 v h4 u4 n4 x4 hA4 hH4 hF4 hP4 V2
  obtain ⟨nd, rd⟩ := lYd0_e_308n
  obtain ⟨r, hr⟩ : ∃ r : Int32, v = .int r := by
    first
      | (obtain ⟨r, h0, hr, -⟩ := V2; cases hr; exact ⟨r, rfl⟩)
      | (obtain ⟨r, hr, -⟩ := V2; cases hr; exact ⟨r, rfl⟩)
  subst hr
  have b7 : (h4.length : Int) - h3.length ≤ 0 := Int.le_trans (hA4.cost (by decide +kernel)).1 (by decide +kernel)
  have b8 : (u4 : Int) - u3 ≤ 0 := Int.le_trans (hA4.cost (by decide +kernel)).2 (by decide +kernel)
  have z1 := ((by
    obtain ⟨y1, y2, y3, y4⟩ := sum_tie (hR1.2.2.2.2.2.2.2.1.2.1) hl1 hl2 V1 hE V2
    exact ⟨⟨⟨qFed.fr3 (hR1.2.2.2.2.2.1.1) hR1.2.2.2.2.1 hR1.1 hH1 hF2 (by decide +kernel) hS2 hRo2 hH2 hF3 hS3 (hRo2.pre hP3) hH3 hF4 (by decide +kernel), qAR.fr3 (hR1.2.2.2.2.2.1.2.1) hR1.2.2.2.2.1 hR1.1 hH1 hF2 (by decide +kernel) hS2 hRo2 hH2 hF3 hS3 (hRo2.pre hP3) hH3 hF4 (by decide +kernel), qHO.fr3 (hR1.2.2.2.2.2.1.2.2.1) hR1.2.2.2.2.1 hR1.1 hH1 hF2 (by decide +kernel) hS2 hRo2 hH2 hF3 hS3 (hRo2.pre hP3) hH3 hF4 (by decide +kernel), qEX.fr3 (hR1.2.2.2.2.2.1.2.2.2) hR1.2.2.2.2.1 hR1.1 hH1 hF2 (by decide +kernel) hS2 hRo2 hH2 hF3 hS3 (hRo2.pre hP3) hH3 hF4 (by decide +kernel)⟩, ⟨qRFu.fr3 (hR1.2.2.2.2.2.2.1.1) hR1.2.2.2.2.1 hR1.1 hH1 hF2 (by decide +kernel) hS2 hRo2 hH2 hF3 hS3 (hRo2.pre hP3) hH3 hF4 (by decide +kernel), qRCs.fr3 (hR1.2.2.2.2.2.2.1.2.1) hR1.2.2.2.2.1 hR1.1 hH1 hF2 (by decide +kernel) hS2 hRo2 hH2 hF3 hS3 (hRo2.pre hP3) hH3 hF4 (by decide +kernel), qVd.fr3 (hR1.2.2.2.2.2.2.1.2.2) hR1.2.2.2.2.1 hR1.1 hH1 hF2 (by decide +kernel) hS2 hRo2 hH2 hF3 hS3 (hRo2.pre hP3) hH3 hF4 (by decide +kernel)⟩, ⟨Rw.fr3 (hR1.2.2.2.2.2.2.2.1.1) hR1.2.2.2.2.1 hR1.1 hH1 hF2 (by decide +kernel) hS2 hRo2 hH2 hF3 hS3 (hRo2.pre hP3) hH3 hF4 (by decide +kernel), y1, qSm.fr3Y (hR1.2.2.2.2.2.2.2.1.2.2) hR1.2.2.2.2.1 hR1.1 hH1 hF2 (by decide +kernel) hS2 hRo2 hH2 hF3 hS3 (hRo2.pre hP3) hH3 hF4 (by decide +kernel)⟩, qDz.fr3 (hR1.2.2.2.2.2.2.2.2.1) hR1.2.2.2.2.1 hR1.1 hH1 hF2 (by decide +kernel) hS2 hRo2 hH2 hF3 hS3 (hRo2.pre hP3) hH3 hF4 (by decide +kernel), qRv.fr3 (hR1.2.2.2.2.2.2.2.2.2) hR1.2.2.2.2.1 hR1.1 hH1 hF2 (by decide +kernel) hS2 hRo2 hH2 hF3 hS3 (hRo2.pre hP3) hH3 hF4 (by decide +kernel)⟩, trivial⟩ : qAll h4 ∧ True)).1
  have hR4 : lR ρ4 ν4 h4 := ⟨(hRo2.pre hP3).pre hP4, x4 _ _ (x3 _ _ (x2 _ _ hR1.2.1)), x4 _ _ (x3 _ _ (x2 _ _ hR1.2.2.1)), x4 _ _ (x3 _ _ (x2 _ _ hR1.2.2.2.1)), hS3.fr (hRo2.pre hP3) hF4 stW_X15_tie, z1⟩
  have x14 : nExt ν ν4 := x1.trans (x2.trans (x3.trans x4))
  have hA4 := hA4.reb rd
  show zE zrx zi 57 243 343 lv3 _ h4 u4 lKK
  refine seg wT_ok lC_e_ok 3000 lY3_e_308_0 (Nat.le_refl _) x14 hlen hA4 rfl rfl hH4 (by omega) (by omega) ?_
  intro x hx N5 ρ5 ν5 lv5 st5 h5 u5 x5 hA5 hH5 hF5 hP5
  rw [List.mem_singleton.mp hx] at hA5 ⊢
  clear hx x
  dsimp only at hA5 ⊢
  have b9 : (h5.length : Int) - h4.length ≤ 0 := Int.le_trans (hA5.cost (by decide +kernel)).1 (by decide +kernel)
  have c1 : (u5 : Int) - u4 ≤ 0 := Int.le_trans (hA5.cost (by decide +kernel)).2 (by decide +kernel)
  obtain ⟨j, j1, j2⟩ := l_i hA5 rfl rfl (x5 _ _ v4)
  exact l_next (g := false) ih [0, 1, 2, 3, 15, 5, 6, 7, 8, 9, 10, 11, 12, 13, 14] (by decide +kernel) (by decide +kernel) hA5 rfl hH5 rfl rfl rfl rfl j1 (x5 _ _ v7) (x5 _ _ v9) (x5 _ _ v11) (acc.dear j2 (by omega) (by omega) false (fun z => z)) (by omega) rfl rfl rfl (lR.fr ⟨hR4.1, x5 _ _ (hR.2.1), x5 _ _ (hR.2.2.1), x5 _ _ (hR.2.2.2.1), hR4.2.2.2.2⟩ hH4 hF5 hP5 (nExt.refl ν5) stW_nil rW_nil)
def lYa_e_348 : sS := ([(3, 0, 0), (3, 8, 0), (3, 40, 0), (3, 36, 0), (0, 0, 4088), (0, 8, 4096), (3, 45, 0), (0, 0, 40), (3, 48, 0), (0, 0, 24), (3, 51, 0), (0, 0, 24), (0, 0, 4088), (0, 0, 4088), (3, 1, 0), (0, 1, 1), (0, 1, 4089), (0, -2147483648, 2147483647), (0, 2, 2), (0, 2, 4090), (0, -2147483648, 2147483647), (0, 3, 3), (0, 3, 4091), (0, -2147483648, 2147483647), (0, 4, 4), (0, 4, 4092), (0, -2147483648, 2147483647), (0, 5, 5), (0, 5, 4093), (0, -2147483648, 2147483647), (0, 6, 6), (0, 6, 4094), (0, -2147483648, 2147483647), (0, 7, 7), (0, 7, 4095), (0, -2147483648, 2147483647)], [(0, 0), (1, 1), (2, 2), (3, 3), (4, 4)], [3, 35, 32, 29, 26, 23, 20, 17, 1], [(4, 0, 34, 35, 0), (0, 34, 4, 0, 7), (0, 4, 34, 0, -7), (4, 0, 31, 32, 0), (0, 31, 4, 0, 6), (0, 4, 31, 0, -6), (4, 0, 28, 29, 0), (0, 28, 4, 0, 5), (0, 4, 28, 0, -5), (4, 0, 25, 26, 0), (0, 25, 4, 0, 4), (0, 4, 25, 0, -4), (4, 0, 22, 23, 0), (0, 22, 4, 0, 3), (0, 4, 22, 0, -3), (4, 0, 19, 20, 0), (0, 19, 4, 0, 2), (0, 4, 19, 0, -2), (4, 0, 16, 17, 0), (0, 16, 4, 0, 1), (0, 4, 16, 0, -1), (0, 4, 5, 0, -8), (3, 0, 5, 0, 0), (2, 2, 7, 6, 0), (2, 6, 2, 7, 0), (2, 2, 8, 8, 0), (2, 8, 2, 9, 0), (2, 2, 9, 10, 0), (2, 10, 2, 11, 0), (2, 1, 1, 12, 0), (2, 2, 3, 13, 0), (0, 12, 13, 0, 0), (0, 13, 12, 0, 0), (2, 2, 10, 14, 0), (0, 12, 4, 0, 0), (0, 13, 4, 0, 0)], 0, 0, [])
def lYb_e_348 : sS := vZ (cvS zi lYa_e_348 k_L_rule (cx1 k_L_rule))
def lYc_e_348 : sS := ([(3, 0, 0), (3, 8, 0), (3, 40, 0), (3, 36, 0), (0, 0, 4088), (0, 8, 4096), (3, 45, 0), (0, 0, 40), (3, 48, 0), (0, 0, 24), (3, 51, 0), (0, 0, 24), (0, 0, 4088), (0, 0, 4088), (3, 1, 0), (0, 1, 1), (0, 1, 4089), (0, -2147483648, 2147483647), (0, 2, 2), (0, 2, 4090), (0, -2147483648, 2147483647), (0, 3, 3), (0, 3, 4091), (0, -2147483648, 2147483647), (0, 4, 4), (0, 4, 4092), (0, -2147483648, 2147483647), (0, 5, 5), (0, 5, 4093), (0, -2147483648, 2147483647), (0, 6, 6), (0, 6, 4094), (0, -2147483648, 2147483647), (0, 7, 7), (0, 7, 4095), (0, -2147483648, 2147483647), (0, 0, 3), (0, 1, 1), (0, 2, 2), (0, 3, 3), (0, 4, 4), (0, 5, 5), (0, 6, 6), (0, 7, 7)], [(5, 36), (0, 0), (1, 1), (2, 2), (3, 3), (4, 4)], [35, 32, 29, 26, 23, 20, 17, 2], [(4, 0, 34, 35, 0), (0, 34, 4, 0, 7), (0, 4, 34, 0, -7), (4, 0, 31, 32, 0), (0, 31, 4, 0, 6), (0, 4, 31, 0, -6), (4, 0, 28, 29, 0), (0, 28, 4, 0, 5), (0, 4, 28, 0, -5), (4, 0, 25, 26, 0), (0, 25, 4, 0, 4), (0, 4, 25, 0, -4), (4, 0, 22, 23, 0), (0, 22, 4, 0, 3), (0, 4, 22, 0, -3), (4, 0, 19, 20, 0), (0, 19, 4, 0, 2), (0, 4, 19, 0, -2), (4, 0, 16, 17, 0), (0, 16, 4, 0, 1), (0, 4, 16, 0, -1), (0, 4, 5, 0, -8), (3, 0, 5, 0, 0), (2, 2, 7, 6, 0), (2, 6, 2, 7, 0), (2, 2, 8, 8, 0), (2, 8, 2, 9, 0), (2, 2, 9, 10, 0), (2, 10, 2, 11, 0), (2, 1, 1, 12, 0), (2, 2, 3, 13, 0), (0, 12, 13, 0, 0), (0, 13, 12, 0, 0), (2, 2, 10, 14, 0), (0, 12, 4, 0, 0), (0, 13, 4, 0, 0)], 0, 0, [])
theorem lY1_e_348 : chk zrx zi wT (wRo wSites_15) (wRo wTags_15) lC_e [] 0 0 15 3000 false [(394, lYa_e_348, [])] none 57 243 348 (vZ lM_e) (fun _ _ => false) = true := by decide +kernel
theorem lY2_e_348 : chk zrx zi wT (wRo wSites_15) (wRo wTags_15) lC_e [] 0 0 37 3000 false [(444, lYc_e_348, [])] none 57 243 397 lYb_e_348 (fun _ _ => false) = true := by decide +kernel
theorem lV1_e_348 : cvOk zrx zi wT 243 394 56 lYa_e_348 k_L_rule = true := by decide +kernel
theorem lV2_e_348 : cvOk zrx zi wT 243 444 56 lYc_e_348 k_X15_rule_L = true := by decide +kernel
theorem lYn_e_348 : lYb_e_348.1.length = 37 := by decide +kernel
theorem lYr_e_348 : (vZ lM_e).2.2.2.1.all (fun f => !(f.1 == 7)) = true ∧ lYa_e_348.2.2.2.1.all (fun f => !(f.1 == 7)) = true ∧ (cvS zi lYa_e_348 k_L_rule (cx1 k_L_rule)).2.2.2.1.all (fun f => !(f.1 == 7)) = true ∧ lYc_e_348.2.2.2.1.all (fun f => !(f.1 == 7)) = true := by decide +kernel
def lYd0_e_348 : sS := vZ (cvS zi lYc_e_348 k_X15_rule_L (cxi k_X15_rule_L 0))
theorem lYd0_e_348n : lYd0_e_348.1.length = 47 ∧ (cvS zi lYc_e_348 k_X15_rule_L (cxi k_X15_rule_L 0)).2.2.2.1.all (fun f => !(f.1 == 7)) = true := by decide +kernel
theorem lY3_e_348_0 : chk zrx zi wT (wRo wSites_15) (wRo wTags_15) lC_e [] 0 0 15 3000 false [(27, lT_ezr, [])] none 57 243 447 lYd0_e_348 (fun _ _ => false) = true := by decide +kernel
def lYd1_e_348 : sS := vZ (cvS zi lYc_e_348 k_X15_rule_L (cxi k_X15_rule_L 1))
theorem lYd1_e_348n : lYd1_e_348.1.length = 46 ∧ (cvS zi lYc_e_348 k_X15_rule_L (cxi k_X15_rule_L 1)).2.2.2.1.all (fun f => !(f.1 == 7)) = true := by decide +kernel
theorem lY3_e_348_1 : chk zrx zi wT (wRo wSites_15) (wRo wTags_15) lC_e [] 0 0 15 3000 false [(27, lT_eza, [])] none 57 243 447 lYd1_e_348 (fun _ _ => false) = true := by decide +kernel
set_option maxRecDepth 20000 in
theorem lA_e_348 {n : Nat} (ih : lIH n) {hb ub : Nat} {N : Int} {ρ : List Nat} {ν : List Value} {lv : List (Nat × Value)} {st : List Value} {h : List zC} {u : Nat} {i R C A : Int32} {F : Int} (hA : gA hb ub ρ ν lM_e lv st h u) (hH : tHeap wT N ρ h) (v4 : ν[4]? = some (.int i)) (v7 : ν[7]? = some (.int R)) (v9 : ν[9]? = some (.int C)) (v11 : ν[11]? = some (.int A))
    (i4 : i.toInt ≤ 4096) (acc : lAcc false hb ub i.toInt R.toInt C.toInt A.toInt F) (rm1 : (ub : Int) + 17920 ≤ zSN) (rm2 : (hb : Int) + 1152 ≤ zCM) (hn : 4104 - i.toInt ≤ (n + 1 : Nat)) (hR : lR ρ ν h) : zE zrx zi 57 243 348 lv st h u lKK := by
  obtain ⟨dl1, dl2, dl3, dl4⟩ := lD_lo R.toInt C.toInt A.toInt
  obtain ⟨r0, ra, rb, rc⟩ := lYr_e_348
  have q0 : (h.length : Int) - hb ≤ 0 := hA.2.2.2.2.1
  have q1 : (u : Int) - ub ≤ 0 := hA.2.2.2.2.2
  have hlen : ν.length ≤ 15 := by
    rw [← hA.1.1]
    exact Nat.le_of_eq rfl
  refine seg wT_ok lC_e_ok 3000 lY1_e_348 (Nat.le_refl _) (nExt.refl ν) hlen (hA.reb r0) rfl rfl hH (by omega) (by omega) ?_
  intro x hx N1 ρ1 ν1 lv1 st1 h1 u1 x1 hA1 hH1 hF1 hP1
  rw [List.mem_singleton.mp hx] at hA1 ⊢
  clear hx x
  dsimp only at hA1 ⊢
  have hR1 := hR.fr hH hF1 hP1 x1 stW_nil rW_nil
  have b1 : (h1.length : Int) - h.length ≤ 0 := Int.le_trans (hA1.cost (by decide +kernel)).1 (by decide +kernel)
  have b2 : (u1 : Int) - u ≤ 0 := Int.le_trans (hA1.cost (by decide +kernel)).2 (by decide +kernel)
  have hT : gSt ν1 [3, 35, 32, 29, 26, 23, 20, 17, 1] st1 := hA1.2.2.1
  obtain ⟨w0, sa0, ea0, o0, ha0⟩ := hT.inv
  subst ea0
  rw [hR1.2.2.2.1] at o0
  cases o0
  obtain ⟨w1, sa1, ea1, o1, ha1⟩ := ha0.inv
  subst ea1
  obtain ⟨p35, rfl, -⟩ := hA1.int o1 rfl
  obtain ⟨w2, sa2, ea2, o2, ha2⟩ := ha1.inv
  subst ea2
  obtain ⟨p32, rfl, -⟩ := hA1.int o2 rfl
  obtain ⟨w3, sa3, ea3, o3, ha3⟩ := ha2.inv
  subst ea3
  obtain ⟨p29, rfl, -⟩ := hA1.int o3 rfl
  obtain ⟨w4, sa4, ea4, o4, ha4⟩ := ha3.inv
  subst ea4
  obtain ⟨p26, rfl, -⟩ := hA1.int o4 rfl
  obtain ⟨w5, sa5, ea5, o5, ha5⟩ := ha4.inv
  subst ea5
  obtain ⟨p23, rfl, -⟩ := hA1.int o5 rfl
  obtain ⟨w6, sa6, ea6, o6, ha6⟩ := ha5.inv
  subst ea6
  obtain ⟨p20, rfl, -⟩ := hA1.int o6 rfl
  obtain ⟨w7, sa7, ea7, o7, ha7⟩ := ha6.inv
  subst ea7
  obtain ⟨p17, rfl, -⟩ := hA1.int o7 rfl
  obtain ⟨w8, sa8, ea8, o8, ha8⟩ := ha7.inv
  subst ea8
  rw [hR1.2.1] at o8
  cases o8
  cases ha8.nil
  obtain ⟨cr, rl, rc1, rc2, rc3, rc4, rc5, rc6, rc7⟩ := id (hR1.2.2.2.2.2.2.1.1)
  obtain ⟨dd, d1, d2, d3⟩ := id (hR1.2.2.2.2.2.2.2.2.1)
  refine call_val con_L_rule vr_243_394 lV1_e_348 rfl rfl (hA1.reb ra) hH1 (by have : k_L_rule.2.2.2.2.1 = 1 := rfl; omega) (by have : k_L_rule.2.2.2.2.2.1 = 6 := rfl; omega) rfl (fun n => C_Lrule n p17 p20 p23 p26 p29 p32 p35 h1 u1 hR1.2.2.2.2.1 rc1) ?_
  intro N2 ρ2 ν2 v h2 u2 n2 x2 hA2 hH2 hF2 hP2 V1
  obtain ⟨k, hk, V1⟩ := V1
  cases hk
  have V1 : Q_Lrule cr p17 p20 p23 p26 p29 p32 p35 h1 (.inl (some (.int k))) h2 u2 := ⟨k, rfl, V1⟩
  have b3 : (h2.length : Int) - h1.length ≤ 1 := Int.le_trans (hA2.cost (by decide +kernel)).1 (by decide +kernel)
  have b4 : (u2 : Int) - u1 ≤ 6 := Int.le_trans (hA2.cost (by decide +kernel)).2 (by decide +kernel)
  have hTk : ν2[36]? = some (.int k) := gSt_hd hA2.2.2.1 (by decide +kernel)
  have hlen2 : ν2.length ≤ 37 := by
    rw [← hA2.1.1]
    exact Nat.le_of_eq lYn_e_348
  have hS2 : Stc h2 := hR1.2.2.2.2.1.fr hR1.1 hF2 stW_L_rule
  have hRo2 : Ro ρ2 := hR1.1.pre hP2
  show zE zrx zi 57 243 397 lv1 _ h2 u2 lKK
  refine seg wT_ok lC_e_ok 3000 lY2_e_348 (Nat.le_refl _) (nExt.refl ν2) hlen2 (hA2.reb rb) rfl rfl hH2 (by omega) (by omega) ?_
  intro x hx N3 ρ3 ν3 lv3 st3 h3 u3 x3 hA3 hH3 hF3 hP3
  rw [List.mem_singleton.mp hx] at hA3 ⊢
  clear hx x
  dsimp only at hA3 ⊢
  have hS3 : Stc h3 := hS2.fr hRo2 hF3 stW_nil
  have b5 : (h3.length : Int) - h2.length ≤ 0 := Int.le_trans (hA3.cost (by decide +kernel)).1 (by decide +kernel)
  have b6 : (u3 : Int) - u2 ≤ 0 := Int.le_trans (hA3.cost (by decide +kernel)).2 (by decide +kernel)
  have hE : ∀ p, p < h2.length → ∀ k, gF h3 p k = gF h2 p k := fun p hp k => gFr_F0 hF3 hH2.1 hp k
  have hT : gSt ν3 [35, 32, 29, 26, 23, 20, 17, 2] st3 := hA3.2.2.1
  obtain ⟨w0, sb0, eb0, c0, hb0⟩ := hT.inv
  subst eb0
  rw [x3 _ _ (x2 _ _ o1)] at c0
  cases c0
  obtain ⟨w1, sb1, eb1, c1, hb1⟩ := hb0.inv
  subst eb1
  rw [x3 _ _ (x2 _ _ o2)] at c1
  cases c1
  obtain ⟨w2, sb2, eb2, c2, hb2⟩ := hb1.inv
  subst eb2
  rw [x3 _ _ (x2 _ _ o3)] at c2
  cases c2
  obtain ⟨w3, sb3, eb3, c3, hb3⟩ := hb2.inv
  subst eb3
  rw [x3 _ _ (x2 _ _ o4)] at c3
  cases c3
  obtain ⟨w4, sb4, eb4, c4, hb4⟩ := hb3.inv
  subst eb4
  rw [x3 _ _ (x2 _ _ o5)] at c4
  cases c4
  obtain ⟨w5, sb5, eb5, c5, hb5⟩ := hb4.inv
  subst eb5
  rw [x3 _ _ (x2 _ _ o6)] at c5
  cases c5
  obtain ⟨w6, sb6, eb6, c6, hb6⟩ := hb5.inv
  subst eb6
  rw [x3 _ _ (x2 _ _ o7)] at c6
  cases c6
  obtain ⟨w7, sb7, eb7, c7, hb7⟩ := hb6.inv
  subst eb7
  rw [x3 _ _ (x2 _ _ hR1.2.2.1)] at c7
  cases c7
  cases hb7.nil
  have hl1 := hR1.2.2.2.2.1.1
  have hl2 := gFr_len hF2
  have hl3 := gFr_len hF3
  have ro3 : Ro ρ3 := hRo2.pre hP3
  have m2 := (hE 223 (by omega) 2).trans ((gFr_F hF2 (hR1.1 223 45 (by decide +kernel)) (by decide +kernel) (by omega)).trans rc2)
  have m1 := (hE 223 (by omega) 1).trans ((gFr_F hF2 (hR1.1 223 45 (by decide +kernel)) (by decide +kernel) (by omega)).trans rc3)
  obtain ⟨⟨l, l1, l2⟩, l3, l4, l5, l6, l7, l8⟩ := rl_at hH3 ro3 m1 m2
  have l213 : ¬ rl = 213 := by omega
  have d4 := (hE 213 (by omega) 1).trans ((gFr_F hF2 (hR1.1 213 40 (by decide +kernel)) (by decide +kernel) (by omega)).trans d2)
  refine call_valn con_X15_rule_L vr_243_444 lV2_e_348 (by decide +kernel) (hA3.reb rc) hH3 (by have : k_X15_rule_L.2.2.2.2.1 = 2 := rfl; omega) (by have : k_X15_rule_L.2.2.2.2.2.1 = 68 := rfl; omega) rfl (fun n => C_mrule n p17 p20 p23 p26 p29 p32 p35 h3 u3 hS3 m2 m1 l1 l2 l3 rc6 l213 d4) ?_
  refine ends2 rfl ?_ ?_
  · intro N4 ρ4 ν4 v h4 u4 n4 x4 hA4 hH4 hF4 hP4 V2
    obtain ⟨nd, rd⟩ := lYd0_e_348n
    obtain ⟨r, hr⟩ : ∃ r : Int32, v = .int r := by
      first
        | (obtain ⟨r, h0, hr, -⟩ := V2; cases hr; exact ⟨r, rfl⟩)
        | (obtain ⟨r, hr, -⟩ := V2; cases hr; exact ⟨r, rfl⟩)
    subst hr
    have b7 : (h4.length : Int) - h3.length ≤ 2 := Int.le_trans (hA4.cost (by decide +kernel)).1 (by decide +kernel)
    have b8 : (u4 : Int) - u3 ≤ 68 := Int.le_trans (hA4.cost (by decide +kernel)).2 (by decide +kernel)
    have z1 := ((⟨⟨⟨qFed.fr3 (hR1.2.2.2.2.2.1.1) hR1.2.2.2.2.1 hR1.1 hH1 hF2 (by decide +kernel) hS2 hRo2 hH2 hF3 hS3 (hRo2.pre hP3) hH3 hF4 (by decide +kernel), qAR.fr3 (hR1.2.2.2.2.2.1.2.1) hR1.2.2.2.2.1 hR1.1 hH1 hF2 (by decide +kernel) hS2 hRo2 hH2 hF3 hS3 (hRo2.pre hP3) hH3 hF4 (by decide +kernel), qHO.fr3 (hR1.2.2.2.2.2.1.2.2.1) hR1.2.2.2.2.1 hR1.1 hH1 hF2 (by decide +kernel) hS2 hRo2 hH2 hF3 hS3 (hRo2.pre hP3) hH3 hF4 (by decide +kernel), qEX.fr3 (hR1.2.2.2.2.2.1.2.2.2) hR1.2.2.2.2.1 hR1.1 hH1 hF2 (by decide +kernel) hS2 hRo2 hH2 hF3 hS3 (hRo2.pre hP3) hH3 hF4 (by decide +kernel)⟩, ⟨sumF_rule rc1 rc2 rc3 rc4 rc5 rc6 rc7 (by obtain ⟨⟨l0, l01, -⟩, -⟩ := rl_at hH1 hR1.1 rc3 rc2; exact gN_lt l01) d1 hl1 hl2 hl3 V1 hE V2, qRCs.fr3 (hR1.2.2.2.2.2.2.1.2.1) hR1.2.2.2.2.1 hR1.1 hH1 hF2 (by decide +kernel) hS2 hRo2 hH2 hF3 hS3 (hRo2.pre hP3) hH3 hF4 (by decide +kernel), qVd.fr3 (hR1.2.2.2.2.2.2.1.2.2) hR1.2.2.2.2.1 hR1.1 hH1 hF2 (by decide +kernel) hS2 hRo2 hH2 hF3 hS3 (hRo2.pre hP3) hH3 hF4 (by decide +kernel)⟩, ⟨Rw.fr3 (hR1.2.2.2.2.2.2.2.1.1) hR1.2.2.2.2.1 hR1.1 hH1 hF2 (by decide +kernel) hS2 hRo2 hH2 hF3 hS3 (hRo2.pre hP3) hH3 hF4 (by decide +kernel), qSm.fr3T (hR1.2.2.2.2.2.2.2.1.2.1) hR1.2.2.2.2.1 hR1.1 hH1 hF2 (by decide +kernel) hS2 hRo2 hH2 hF3 hS3 (hRo2.pre hP3) hH3 hF4 (by decide +kernel), qSm.fr3Y (hR1.2.2.2.2.2.2.2.1.2.2) hR1.2.2.2.2.1 hR1.1 hH1 hF2 (by decide +kernel) hS2 hRo2 hH2 hF3 hS3 (hRo2.pre hP3) hH3 hF4 (by decide +kernel)⟩, qDz.fr3 (hR1.2.2.2.2.2.2.2.2.1) hR1.2.2.2.2.1 hR1.1 hH1 hF2 (by decide +kernel) hS2 hRo2 hH2 hF3 hS3 (hRo2.pre hP3) hH3 hF4 (by decide +kernel), qRv.fr3 (hR1.2.2.2.2.2.2.2.2.2) hR1.2.2.2.2.1 hR1.1 hH1 hF2 (by decide +kernel) hS2 hRo2 hH2 hF3 hS3 (hRo2.pre hP3) hH3 hF4 (by decide +kernel)⟩, trivial⟩ : qAll h4 ∧ True)).1
    have hR4 : lR ρ4 ν4 h4 := ⟨(hRo2.pre hP3).pre hP4, x4 _ _ (x3 _ _ (x2 _ _ hR1.2.1)), x4 _ _ (x3 _ _ (x2 _ _ hR1.2.2.1)), x4 _ _ (x3 _ _ (x2 _ _ hR1.2.2.2.1)), hS3.fr (hRo2.pre hP3) hF4 stW_X15_rule_L, z1⟩
    have x14 : nExt ν ν4 := x1.trans (x2.trans (x3.trans x4))
    have hA4 := hA4.reb rd
    show zE zrx zi 57 243 447 lv3 _ h4 u4 lKK
    refine seg wT_ok lC_e_ok 3000 lY3_e_348_0 (Nat.le_refl _) x14 hlen hA4 rfl rfl hH4 (by omega) (by omega) ?_
    intro x hx N5 ρ5 ν5 lv5 st5 h5 u5 x5 hA5 hH5 hF5 hP5
    rw [List.mem_singleton.mp hx] at hA5 ⊢
    clear hx x
    dsimp only at hA5 ⊢
    have b9 : (h5.length : Int) - h4.length ≤ 0 := Int.le_trans (hA5.cost (by decide +kernel)).1 (by decide +kernel)
    have c1 : (u5 : Int) - u4 ≤ 0 := Int.le_trans (hA5.cost (by decide +kernel)).2 (by decide +kernel)
    obtain ⟨j, j1, j2⟩ := l_i hA5 rfl rfl (x5 _ _ v4)
    obtain ⟨y, y1, y2⟩ := l_one hA5 rfl rfl (x5 _ _ v7)
    exact l_next (g := false) ih [0, 1, 2, 3, 15, 5, 6, 16, 8, 9, 10, 11, 12, 13, 14] (by decide +kernel) (by decide +kernel) hA5 rfl hH5 rfl rfl rfl rfl j1 y1 (x5 _ _ v9) (x5 _ _ v11) (acc.grow (g := false) j2 (by omega) (by omega) (by omega) (by omega) (by omega) (by omega) (by omega)) (by omega) rfl rfl rfl (lR.fr ⟨hR4.1, x5 _ _ (hR.2.1), x5 _ _ (hR.2.2.1), x5 _ _ (hR.2.2.2.1), hR4.2.2.2.2⟩ hH4 hF5 hP5 (nExt.refl ν5) stW_nil rW_nil)
  · intro N4 ρ4 ν4 v h4 u4 n4 x4 hA4 hH4 hF4 hP4 V2
    obtain ⟨nd, rd⟩ := lYd1_e_348n
    obtain ⟨r, hr⟩ : ∃ r : Int32, v = .int r := by
      first
        | (obtain ⟨r, h0, hr, -⟩ := V2; cases hr; exact ⟨r, rfl⟩)
        | (obtain ⟨r, hr, -⟩ := V2; cases hr; exact ⟨r, rfl⟩)
    subst hr
    have b7 : (h4.length : Int) - h3.length ≤ 0 := Int.le_trans (hA4.cost (by decide +kernel)).1 (by decide +kernel)
    have b8 : (u4 : Int) - u3 ≤ 0 := Int.le_trans (hA4.cost (by decide +kernel)).2 (by decide +kernel)
    have z1 := ((⟨⟨⟨qFed.fr3 (hR1.2.2.2.2.2.1.1) hR1.2.2.2.2.1 hR1.1 hH1 hF2 (by decide +kernel) hS2 hRo2 hH2 hF3 hS3 (hRo2.pre hP3) hH3 hF4 (by decide +kernel), qAR.fr3 (hR1.2.2.2.2.2.1.2.1) hR1.2.2.2.2.1 hR1.1 hH1 hF2 (by decide +kernel) hS2 hRo2 hH2 hF3 hS3 (hRo2.pre hP3) hH3 hF4 (by decide +kernel), qHO.fr3 (hR1.2.2.2.2.2.1.2.2.1) hR1.2.2.2.2.1 hR1.1 hH1 hF2 (by decide +kernel) hS2 hRo2 hH2 hF3 hS3 (hRo2.pre hP3) hH3 hF4 (by decide +kernel), qEX.fr3 (hR1.2.2.2.2.2.1.2.2.2) hR1.2.2.2.2.1 hR1.1 hH1 hF2 (by decide +kernel) hS2 hRo2 hH2 hF3 hS3 (hRo2.pre hP3) hH3 hF4 (by decide +kernel)⟩, ⟨sumF_rule rc1 rc2 rc3 rc4 rc5 rc6 rc7 (by obtain ⟨⟨l0, l01, -⟩, -⟩ := rl_at hH1 hR1.1 rc3 rc2; exact gN_lt l01) d1 hl1 hl2 hl3 V1 hE V2, qRCs.fr3 (hR1.2.2.2.2.2.2.1.2.1) hR1.2.2.2.2.1 hR1.1 hH1 hF2 (by decide +kernel) hS2 hRo2 hH2 hF3 hS3 (hRo2.pre hP3) hH3 hF4 (by decide +kernel), qVd.fr3 (hR1.2.2.2.2.2.2.1.2.2) hR1.2.2.2.2.1 hR1.1 hH1 hF2 (by decide +kernel) hS2 hRo2 hH2 hF3 hS3 (hRo2.pre hP3) hH3 hF4 (by decide +kernel)⟩, ⟨Rw.fr3 (hR1.2.2.2.2.2.2.2.1.1) hR1.2.2.2.2.1 hR1.1 hH1 hF2 (by decide +kernel) hS2 hRo2 hH2 hF3 hS3 (hRo2.pre hP3) hH3 hF4 (by decide +kernel), qSm.fr3T (hR1.2.2.2.2.2.2.2.1.2.1) hR1.2.2.2.2.1 hR1.1 hH1 hF2 (by decide +kernel) hS2 hRo2 hH2 hF3 hS3 (hRo2.pre hP3) hH3 hF4 (by decide +kernel), qSm.fr3Y (hR1.2.2.2.2.2.2.2.1.2.2) hR1.2.2.2.2.1 hR1.1 hH1 hF2 (by decide +kernel) hS2 hRo2 hH2 hF3 hS3 (hRo2.pre hP3) hH3 hF4 (by decide +kernel)⟩, qDz.fr3 (hR1.2.2.2.2.2.2.2.2.1) hR1.2.2.2.2.1 hR1.1 hH1 hF2 (by decide +kernel) hS2 hRo2 hH2 hF3 hS3 (hRo2.pre hP3) hH3 hF4 (by decide +kernel), qRv.fr3 (hR1.2.2.2.2.2.2.2.2.2) hR1.2.2.2.2.1 hR1.1 hH1 hF2 (by decide +kernel) hS2 hRo2 hH2 hF3 hS3 (hRo2.pre hP3) hH3 hF4 (by decide +kernel)⟩, trivial⟩ : qAll h4 ∧ True)).1
    have hR4 : lR ρ4 ν4 h4 := ⟨(hRo2.pre hP3).pre hP4, x4 _ _ (x3 _ _ (x2 _ _ hR1.2.1)), x4 _ _ (x3 _ _ (x2 _ _ hR1.2.2.1)), x4 _ _ (x3 _ _ (x2 _ _ hR1.2.2.2.1)), hS3.fr (hRo2.pre hP3) hF4 stW_X15_rule_L, z1⟩
    have x14 : nExt ν ν4 := x1.trans (x2.trans (x3.trans x4))
    have hA4 := hA4.reb rd
    show zE zrx zi 57 243 447 lv3 _ h4 u4 lKK
    refine seg wT_ok lC_e_ok 3000 lY3_e_348_1 (Nat.le_refl _) x14 hlen hA4 rfl rfl hH4 (by omega) (by omega) ?_
    intro x hx N5 ρ5 ν5 lv5 st5 h5 u5 x5 hA5 hH5 hF5 hP5
    rw [List.mem_singleton.mp hx] at hA5 ⊢
    clear hx x
    dsimp only at hA5 ⊢
    have b9 : (h5.length : Int) - h4.length ≤ 0 := Int.le_trans (hA5.cost (by decide +kernel)).1 (by decide +kernel)
    have c1 : (u5 : Int) - u4 ≤ 0 := Int.le_trans (hA5.cost (by decide +kernel)).2 (by decide +kernel)
    obtain ⟨j, j1, j2⟩ := l_i hA5 rfl rfl (x5 _ _ v4)
    exact l_next (g := false) ih [0, 1, 2, 3, 15, 5, 6, 7, 8, 9, 10, 11, 12, 13, 14] (by decide +kernel) (by decide +kernel) hA5 rfl hH5 rfl rfl rfl rfl j1 (x5 _ _ v7) (x5 _ _ v9) (x5 _ _ v11) (acc.dear j2 (by omega) (by omega) false (fun z => z)) (by omega) rfl rfl rfl (lR.fr ⟨hR4.1, x5 _ _ (hR.2.1), x5 _ _ (hR.2.2.1), x5 _ _ (hR.2.2.2.1), hR4.2.2.2.2⟩ hH4 hF5 hP5 (nExt.refl ν5) stW_nil rW_nil)
def lYa_e_452 : sS := ([(3, 0, 0), (3, 8, 0), (3, 40, 0), (3, 36, 0), (0, 0, 4088), (0, 8, 4096), (3, 45, 0), (0, 0, 40), (3, 48, 0), (0, 0, 24), (3, 51, 0), (0, 0, 24), (0, 0, 4088), (0, 0, 4088), (3, 1, 0), (0, 1, 1), (0, 1, 4089), (0, -2147483648, 2147483647), (0, 2, 2), (0, 2, 4090), (0, -2147483648, 2147483647), (0, 3, 3), (0, 3, 4091), (0, -2147483648, 2147483647)], [(0, 0), (1, 1), (2, 2), (3, 3), (4, 4)], [3, 23, 20, 17, 1], [(4, 0, 22, 23, 0), (0, 22, 4, 0, 3), (0, 4, 22, 0, -3), (4, 0, 19, 20, 0), (0, 19, 4, 0, 2), (0, 4, 19, 0, -2), (4, 0, 16, 17, 0), (0, 16, 4, 0, 1), (0, 4, 16, 0, -1), (0, 4, 5, 0, -8), (3, 0, 5, 0, 0), (2, 2, 7, 6, 0), (2, 6, 2, 7, 0), (2, 2, 8, 8, 0), (2, 8, 2, 9, 0), (2, 2, 9, 10, 0), (2, 10, 2, 11, 0), (2, 1, 1, 12, 0), (2, 2, 3, 13, 0), (0, 12, 13, 0, 0), (0, 13, 12, 0, 0), (2, 2, 10, 14, 0), (0, 12, 4, 0, 0), (0, 13, 4, 0, 0)], 0, 0, [])
def lYb_e_452 : sS := vZ (cvS zi lYa_e_452 k_L_limit (cx1 k_L_limit))
def lYc_e_452 : sS := ([(3, 0, 0), (3, 8, 0), (3, 40, 0), (3, 36, 0), (0, 0, 4088), (0, 8, 4096), (3, 45, 0), (0, 0, 40), (3, 48, 0), (0, 0, 24), (3, 51, 0), (0, 0, 24), (0, 0, 4088), (0, 0, 4088), (3, 1, 0), (0, 1, 1), (0, 1, 4089), (0, -2147483648, 2147483647), (0, 2, 2), (0, 2, 4090), (0, -2147483648, 2147483647), (0, 3, 3), (0, 3, 4091), (0, -2147483648, 2147483647), (0, 0, 2), (0, 1, 1), (0, 2, 2), (0, 3, 3)], [(5, 24), (0, 0), (1, 1), (2, 2), (3, 3), (4, 4)], [23, 20, 17, 2], [(4, 0, 22, 23, 0), (0, 22, 4, 0, 3), (0, 4, 22, 0, -3), (4, 0, 19, 20, 0), (0, 19, 4, 0, 2), (0, 4, 19, 0, -2), (4, 0, 16, 17, 0), (0, 16, 4, 0, 1), (0, 4, 16, 0, -1), (0, 4, 5, 0, -8), (3, 0, 5, 0, 0), (2, 2, 7, 6, 0), (2, 6, 2, 7, 0), (2, 2, 8, 8, 0), (2, 8, 2, 9, 0), (2, 2, 9, 10, 0), (2, 10, 2, 11, 0), (2, 1, 1, 12, 0), (2, 2, 3, 13, 0), (0, 12, 13, 0, 0), (0, 13, 12, 0, 0), (2, 2, 10, 14, 0), (0, 12, 4, 0, 0), (0, 13, 4, 0, 0)], 0, 0, [])
theorem lY1_e_452 : chk zrx zi wT (wRo wSites_15) (wRo wTags_15) lC_e [] 0 0 15 3000 false [(472, lYa_e_452, [])] none 57 243 452 (vZ lM_e) (fun _ _ => false) = true := by decide +kernel
theorem lY2_e_452 : chk zrx zi wT (wRo wSites_15) (wRo wTags_15) lC_e [] 0 0 25 3000 false [(496, lYc_e_452, [])] none 57 243 475 lYb_e_452 (fun _ _ => false) = true := by decide +kernel
theorem lV1_e_452 : cvOk zrx zi wT 243 472 56 lYa_e_452 k_L_limit = true := by decide +kernel
theorem lV2_e_452 : cvOk zrx zi wT 243 496 56 lYc_e_452 k_X15_limit = true := by decide +kernel
theorem lYn_e_452 : lYb_e_452.1.length = 25 := by decide +kernel
theorem lYr_e_452 : (vZ lM_e).2.2.2.1.all (fun f => !(f.1 == 7)) = true ∧ lYa_e_452.2.2.2.1.all (fun f => !(f.1 == 7)) = true ∧ (cvS zi lYa_e_452 k_L_limit (cx1 k_L_limit)).2.2.2.1.all (fun f => !(f.1 == 7)) = true ∧ lYc_e_452.2.2.2.1.all (fun f => !(f.1 == 7)) = true := by decide +kernel
def lYd0_e_452 : sS := vZ (cvS zi lYc_e_452 k_X15_limit (cxi k_X15_limit 0))
theorem lYd0_e_452n : lYd0_e_452.1.length = 29 ∧ (cvS zi lYc_e_452 k_X15_limit (cxi k_X15_limit 0)).2.2.2.1.all (fun f => !(f.1 == 7)) = true := by decide +kernel
theorem lY3_e_452_0 : chk zrx zi wT (wRo wSites_15) (wRo wTags_15) lC_e [] 0 0 15 3000 false [(27, lT_eza, [])] none 57 243 499 lYd0_e_452 (fun _ _ => false) = true := by decide +kernel
set_option maxRecDepth 20000 in
theorem lA_e_452 {n : Nat} (ih : lIH n) {hb ub : Nat} {N : Int} {ρ : List Nat} {ν : List Value} {lv : List (Nat × Value)} {st : List Value} {h : List zC} {u : Nat} {i R C A : Int32} {F : Int} (hA : gA hb ub ρ ν lM_e lv st h u) (hH : tHeap wT N ρ h) (v4 : ν[4]? = some (.int i)) (v7 : ν[7]? = some (.int R)) (v9 : ν[9]? = some (.int C)) (v11 : ν[11]? = some (.int A))
    (i4 : i.toInt ≤ 4096) (acc : lAcc false hb ub i.toInt R.toInt C.toInt A.toInt F) (rm1 : (ub : Int) + 17920 ≤ zSN) (rm2 : (hb : Int) + 1152 ≤ zCM) (hn : 4104 - i.toInt ≤ (n + 1 : Nat)) (hR : lR ρ ν h) : zE zrx zi 57 243 452 lv st h u lKK := by
  obtain ⟨dl1, dl2, dl3, dl4⟩ := lD_lo R.toInt C.toInt A.toInt
  obtain ⟨r0, ra, rb, rc⟩ := lYr_e_452
  have q0 : (h.length : Int) - hb ≤ 0 := hA.2.2.2.2.1
  have q1 : (u : Int) - ub ≤ 0 := hA.2.2.2.2.2
  have hlen : ν.length ≤ 15 := by
    rw [← hA.1.1]
    exact Nat.le_of_eq rfl
  refine seg wT_ok lC_e_ok 3000 lY1_e_452 (Nat.le_refl _) (nExt.refl ν) hlen (hA.reb r0) rfl rfl hH (by omega) (by omega) ?_
  intro x hx N1 ρ1 ν1 lv1 st1 h1 u1 x1 hA1 hH1 hF1 hP1
  rw [List.mem_singleton.mp hx] at hA1 ⊢
  clear hx x
  dsimp only at hA1 ⊢
  have hR1 := hR.fr hH hF1 hP1 x1 stW_nil rW_nil
  have b1 : (h1.length : Int) - h.length ≤ 0 := Int.le_trans (hA1.cost (by decide +kernel)).1 (by decide +kernel)
  have b2 : (u1 : Int) - u ≤ 0 := Int.le_trans (hA1.cost (by decide +kernel)).2 (by decide +kernel)
  have hT : gSt ν1 [3, 23, 20, 17, 1] st1 := hA1.2.2.1
  obtain ⟨w0, sa0, ea0, o0, ha0⟩ := hT.inv
  subst ea0
  rw [hR1.2.2.2.1] at o0
  cases o0
  obtain ⟨w1, sa1, ea1, o1, ha1⟩ := ha0.inv
  subst ea1
  obtain ⟨p23, rfl, -⟩ := hA1.int o1 rfl
  obtain ⟨w2, sa2, ea2, o2, ha2⟩ := ha1.inv
  subst ea2
  obtain ⟨p20, rfl, -⟩ := hA1.int o2 rfl
  obtain ⟨w3, sa3, ea3, o3, ha3⟩ := ha2.inv
  subst ea3
  obtain ⟨p17, rfl, -⟩ := hA1.int o3 rfl
  obtain ⟨w4, sa4, ea4, o4, ha4⟩ := ha3.inv
  subst ea4
  rw [hR1.2.1] at o4
  cases o4
  cases ha4.nil
  obtain ⟨cr, rl, rc1, rc2, rc3, rc4, rc5, rc6, rc7⟩ := id (hR1.2.2.2.2.2.2.1.1)
  refine call_val con_L_limit vr_243_472 lV1_e_452 rfl rfl (hA1.reb ra) hH1 (by have : k_L_limit.2.2.2.2.1 = 1 := rfl; omega) (by have : k_L_limit.2.2.2.2.2.1 = 6 := rfl; omega) rfl (fun n => C_Llimit n p17 p20 p23 h1 u1 hR1.2.2.2.2.1 rc1 rc6) ?_
  intro N2 ρ2 ν2 v h2 u2 n2 x2 hA2 hH2 hF2 hP2 V1
  obtain ⟨k, hk, V1⟩ := V1
  cases hk
  have V1 : Q_Llimit cr p17 p20 p23 h1 (.inl (some (.int k))) h2 u2 := ⟨k, rfl, V1⟩
  have b3 : (h2.length : Int) - h1.length ≤ 1 := Int.le_trans (hA2.cost (by decide +kernel)).1 (by decide +kernel)
  have b4 : (u2 : Int) - u1 ≤ 6 := Int.le_trans (hA2.cost (by decide +kernel)).2 (by decide +kernel)
  have hTk : ν2[24]? = some (.int k) := gSt_hd hA2.2.2.1 (by decide +kernel)
  have hlen2 : ν2.length ≤ 25 := by
    rw [← hA2.1.1]
    exact Nat.le_of_eq lYn_e_452
  have hS2 : Stc h2 := hR1.2.2.2.2.1.fr hR1.1 hF2 stW_L_limit
  have hRo2 : Ro ρ2 := hR1.1.pre hP2
  show zE zrx zi 57 243 475 lv1 _ h2 u2 lKK
  refine seg wT_ok lC_e_ok 3000 lY2_e_452 (Nat.le_refl _) (nExt.refl ν2) hlen2 (hA2.reb rb) rfl rfl hH2 (by omega) (by omega) ?_
  intro x hx N3 ρ3 ν3 lv3 st3 h3 u3 x3 hA3 hH3 hF3 hP3
  rw [List.mem_singleton.mp hx] at hA3 ⊢
  clear hx x
  dsimp only at hA3 ⊢
  have hS3 : Stc h3 := hS2.fr hRo2 hF3 stW_nil
  have b5 : (h3.length : Int) - h2.length ≤ 0 := Int.le_trans (hA3.cost (by decide +kernel)).1 (by decide +kernel)
  have b6 : (u3 : Int) - u2 ≤ 0 := Int.le_trans (hA3.cost (by decide +kernel)).2 (by decide +kernel)
  have hE : ∀ p, p < h2.length → ∀ k, gF h3 p k = gF h2 p k := fun p hp k => gFr_F0 hF3 hH2.1 hp k
  have hT : gSt ν3 [23, 20, 17, 2] st3 := hA3.2.2.1
  obtain ⟨w0, sb0, eb0, c0, hb0⟩ := hT.inv
  subst eb0
  rw [x3 _ _ (x2 _ _ o1)] at c0
  cases c0
  obtain ⟨w1, sb1, eb1, c1, hb1⟩ := hb0.inv
  subst eb1
  rw [x3 _ _ (x2 _ _ o2)] at c1
  cases c1
  obtain ⟨w2, sb2, eb2, c2, hb2⟩ := hb1.inv
  subst eb2
  rw [x3 _ _ (x2 _ _ o3)] at c2
  cases c2
  obtain ⟨w3, sb3, eb3, c3, hb3⟩ := hb2.inv
  subst eb3
  rw [x3 _ _ (x2 _ _ hR1.2.2.1)] at c3
  cases c3
  cases hb3.nil
  have hl1 := hR1.2.2.2.2.1.1
  have hl2 := gFr_len hF2
  have hl3 := gFr_len hF3
  have ro3 : Ro ρ3 := hRo2.pre hP3
  have m2 := (hE 223 (by omega) 2).trans ((gFr_F hF2 (hR1.1 223 45 (by decide +kernel)) (by decide +kernel) (by omega)).trans rc2)
  have m1 := (hE 223 (by omega) 1).trans ((gFr_F hF2 (hR1.1 223 45 (by decide +kernel)) (by decide +kernel) (by omega)).trans rc3)
  obtain ⟨⟨l, l1, l2⟩, l3, l4, l5, l6, l7, l8⟩ := rl_at hH3 ro3 m1 m2
  have l213 : ¬ rl = 213 := by omega
  obtain ⟨-, -, k213, -⟩ := kind_at hH3 (ro3 213 40 (by decide +kernel)) rfl
  obtain ⟨-, -, k223, -⟩ := kind_at hH3 (ro3 223 45 (by decide +kernel)) rfl
  refine call_val con_X15_limit vr_243_496 lV2_e_452 rfl rfl (hA3.reb rc) hH3 (by have : k_X15_limit.2.2.2.2.1 = 0 := rfl; omega) (by have : k_X15_limit.2.2.2.2.2.1 = 0 := rfl; omega) rfl (fun n => C_mlimit n p17 p20 p23 h3 u3 hS3 m2 m1 l3 l213 k213 k223 rc5 (fun hx q hq => by
    obtain ⟨f, f1, f2⟩ := l8 _ (iN_cl rc5 hx)
    rw [hq] at f1
    cases f1
    obtain ⟨fa, ga⟩ := rl_int hH3 f2 (k := 3) (by omega)
    obtain ⟨fb, gb⟩ := rl_int hH3 f2 (k := 4) (by omega)
    obtain ⟨fc, gc⟩ := rl_int hH3 f2 (k := 6) (by omega)
    exact ⟨fa, fb, fc, ga, gb, gc⟩)) ?_
  intro N4 ρ4 ν4 v h4 u4 n4 x4 hA4 hH4 hF4 hP4 V2
  obtain ⟨nd, rd⟩ := lYd0_e_452n
  obtain ⟨r, hr⟩ : ∃ r : Int32, v = .int r := by
    first
      | (obtain ⟨r, h0, hr, -⟩ := V2; cases hr; exact ⟨r, rfl⟩)
      | (obtain ⟨r, hr, -⟩ := V2; cases hr; exact ⟨r, rfl⟩)
  subst hr
  have b7 : (h4.length : Int) - h3.length ≤ 0 := Int.le_trans (hA4.cost (by decide +kernel)).1 (by decide +kernel)
  have b8 : (u4 : Int) - u3 ≤ 0 := Int.le_trans (hA4.cost (by decide +kernel)).2 (by decide +kernel)
  have z1 := ((⟨⟨⟨qFed.fr3 (hR1.2.2.2.2.2.1.1) hR1.2.2.2.2.1 hR1.1 hH1 hF2 (by decide +kernel) hS2 hRo2 hH2 hF3 hS3 (hRo2.pre hP3) hH3 hF4 (by decide +kernel), qAR.fr3 (hR1.2.2.2.2.2.1.2.1) hR1.2.2.2.2.1 hR1.1 hH1 hF2 (by decide +kernel) hS2 hRo2 hH2 hF3 hS3 (hRo2.pre hP3) hH3 hF4 (by decide +kernel), qHO.fr3 (hR1.2.2.2.2.2.1.2.2.1) hR1.2.2.2.2.1 hR1.1 hH1 hF2 (by decide +kernel) hS2 hRo2 hH2 hF3 hS3 (hRo2.pre hP3) hH3 hF4 (by decide +kernel), qEX.fr3 (hR1.2.2.2.2.2.1.2.2.2) hR1.2.2.2.2.1 hR1.1 hH1 hF2 (by decide +kernel) hS2 hRo2 hH2 hF3 hS3 (hRo2.pre hP3) hH3 hF4 (by decide +kernel)⟩, ⟨sumF_limit rc1 rc2 rc3 rc4 rc5 rc6 rc7 (by obtain ⟨⟨l0, l01, -⟩, -⟩ := rl_at hH1 hR1.1 rc3 rc2; exact gN_lt l01) hl1 hl2 hl3 V1 hE V2, qRCs.fr3 (hR1.2.2.2.2.2.2.1.2.1) hR1.2.2.2.2.1 hR1.1 hH1 hF2 (by decide +kernel) hS2 hRo2 hH2 hF3 hS3 (hRo2.pre hP3) hH3 hF4 (by decide +kernel), qVd.fr3 (hR1.2.2.2.2.2.2.1.2.2) hR1.2.2.2.2.1 hR1.1 hH1 hF2 (by decide +kernel) hS2 hRo2 hH2 hF3 hS3 (hRo2.pre hP3) hH3 hF4 (by decide +kernel)⟩, ⟨Rw.fr3 (hR1.2.2.2.2.2.2.2.1.1) hR1.2.2.2.2.1 hR1.1 hH1 hF2 (by decide +kernel) hS2 hRo2 hH2 hF3 hS3 (hRo2.pre hP3) hH3 hF4 (by decide +kernel), qSm.fr3T (hR1.2.2.2.2.2.2.2.1.2.1) hR1.2.2.2.2.1 hR1.1 hH1 hF2 (by decide +kernel) hS2 hRo2 hH2 hF3 hS3 (hRo2.pre hP3) hH3 hF4 (by decide +kernel), qSm.fr3Y (hR1.2.2.2.2.2.2.2.1.2.2) hR1.2.2.2.2.1 hR1.1 hH1 hF2 (by decide +kernel) hS2 hRo2 hH2 hF3 hS3 (hRo2.pre hP3) hH3 hF4 (by decide +kernel)⟩, qDz.fr3 (hR1.2.2.2.2.2.2.2.2.1) hR1.2.2.2.2.1 hR1.1 hH1 hF2 (by decide +kernel) hS2 hRo2 hH2 hF3 hS3 (hRo2.pre hP3) hH3 hF4 (by decide +kernel), qRv.fr3 (hR1.2.2.2.2.2.2.2.2.2) hR1.2.2.2.2.1 hR1.1 hH1 hF2 (by decide +kernel) hS2 hRo2 hH2 hF3 hS3 (hRo2.pre hP3) hH3 hF4 (by decide +kernel)⟩, trivial⟩ : qAll h4 ∧ True)).1
  have hR4 : lR ρ4 ν4 h4 := ⟨(hRo2.pre hP3).pre hP4, x4 _ _ (x3 _ _ (x2 _ _ hR1.2.1)), x4 _ _ (x3 _ _ (x2 _ _ hR1.2.2.1)), x4 _ _ (x3 _ _ (x2 _ _ hR1.2.2.2.1)), hS3.fr (hRo2.pre hP3) hF4 stW_X15_limit, z1⟩
  have x14 : nExt ν ν4 := x1.trans (x2.trans (x3.trans x4))
  have hA4 := hA4.reb rd
  show zE zrx zi 57 243 499 lv3 _ h4 u4 lKK
  refine seg wT_ok lC_e_ok 3000 lY3_e_452_0 (Nat.le_refl _) x14 hlen hA4 rfl rfl hH4 (by omega) (by omega) ?_
  intro x hx N5 ρ5 ν5 lv5 st5 h5 u5 x5 hA5 hH5 hF5 hP5
  rw [List.mem_singleton.mp hx] at hA5 ⊢
  clear hx x
  dsimp only at hA5 ⊢
  have b9 : (h5.length : Int) - h4.length ≤ 0 := Int.le_trans (hA5.cost (by decide +kernel)).1 (by decide +kernel)
  have c1 : (u5 : Int) - u4 ≤ 0 := Int.le_trans (hA5.cost (by decide +kernel)).2 (by decide +kernel)
  obtain ⟨j, j1, j2⟩ := l_i hA5 rfl rfl (x5 _ _ v4)
  exact l_next (g := false) ih [0, 1, 2, 3, 15, 5, 6, 7, 8, 9, 10, 11, 12, 13, 14] (by decide +kernel) (by decide +kernel) hA5 rfl hH5 rfl rfl rfl rfl j1 (x5 _ _ v7) (x5 _ _ v9) (x5 _ _ v11) (acc.dear j2 (by omega) (by omega) false (fun z => z)) (by omega) rfl rfl rfl (lR.fr ⟨hR4.1, x5 _ _ (hR.2.1), x5 _ _ (hR.2.2.1), x5 _ _ (hR.2.2.2.1), hR4.2.2.2.2⟩ hH4 hF5 hP5 (nExt.refl ν5) stW_nil rW_nil)
def lYa_e_504 : sS := ([(3, 0, 0), (3, 8, 0), (3, 40, 0), (3, 36, 0), (0, 0, 4088), (0, 8, 4096), (3, 45, 0), (0, 0, 40), (3, 48, 0), (0, 0, 24), (3, 51, 0), (0, 0, 24), (0, 0, 4088), (0, 0, 4088), (3, 1, 0), (0, 1, 1), (0, 1, 4089), (0, -2147483648, 2147483647), (0, 2, 2), (0, 2, 4090), (0, -2147483648, 2147483647), (0, 3, 3), (0, 3, 4091), (0, -2147483648, 2147483647), (0, 4, 4), (0, 4, 4092), (0, -2147483648, 2147483647), (0, 5, 5), (0, 5, 4093), (0, -2147483648, 2147483647), (0, 6, 6), (0, 6, 4094), (0, -2147483648, 2147483647), (0, 7, 7), (0, 7, 4095), (0, -2147483648, 2147483647)], [(0, 0), (1, 1), (2, 2), (3, 3), (4, 4)], [3, 35, 32, 29, 26, 23, 20, 17, 1], [(4, 0, 34, 35, 0), (0, 34, 4, 0, 7), (0, 4, 34, 0, -7), (4, 0, 31, 32, 0), (0, 31, 4, 0, 6), (0, 4, 31, 0, -6), (4, 0, 28, 29, 0), (0, 28, 4, 0, 5), (0, 4, 28, 0, -5), (4, 0, 25, 26, 0), (0, 25, 4, 0, 4), (0, 4, 25, 0, -4), (4, 0, 22, 23, 0), (0, 22, 4, 0, 3), (0, 4, 22, 0, -3), (4, 0, 19, 20, 0), (0, 19, 4, 0, 2), (0, 4, 19, 0, -2), (4, 0, 16, 17, 0), (0, 16, 4, 0, 1), (0, 4, 16, 0, -1), (0, 4, 5, 0, -8), (3, 0, 5, 0, 0), (2, 2, 7, 6, 0), (2, 6, 2, 7, 0), (2, 2, 8, 8, 0), (2, 8, 2, 9, 0), (2, 2, 9, 10, 0), (2, 10, 2, 11, 0), (2, 1, 1, 12, 0), (2, 2, 3, 13, 0), (0, 12, 13, 0, 0), (0, 13, 12, 0, 0), (2, 2, 10, 14, 0), (0, 12, 4, 0, 0), (0, 13, 4, 0, 0)], 0, 0, [])
def lYb_e_504 : sS := vZ (cvS zi lYa_e_504 k_L_dispute (cx1 k_L_dispute))
def lYc_e_504 : sS := ([(3, 0, 0), (3, 8, 0), (3, 40, 0), (3, 36, 0), (0, 0, 4088), (0, 8, 4096), (3, 45, 0), (0, 0, 40), (3, 48, 0), (0, 0, 24), (3, 51, 0), (0, 0, 24), (0, 0, 4088), (0, 0, 4088), (3, 1, 0), (0, 1, 1), (0, 1, 4089), (0, -2147483648, 2147483647), (0, 2, 2), (0, 2, 4090), (0, -2147483648, 2147483647), (0, 3, 3), (0, 3, 4091), (0, -2147483648, 2147483647), (0, 4, 4), (0, 4, 4092), (0, -2147483648, 2147483647), (0, 5, 5), (0, 5, 4093), (0, -2147483648, 2147483647), (0, 6, 6), (0, 6, 4094), (0, -2147483648, 2147483647), (0, 7, 7), (0, 7, 4095), (0, -2147483648, 2147483647), (0, 0, 3), (0, 1, 1), (0, 2, 2), (0, 3, 3), (0, 4, 4), (0, 5, 5), (0, 6, 6), (0, 7, 7)], [(5, 36), (0, 0), (1, 1), (2, 2), (3, 3), (4, 4)], [35, 32, 29, 26, 23, 20, 17, 2], [(4, 0, 34, 35, 0), (0, 34, 4, 0, 7), (0, 4, 34, 0, -7), (4, 0, 31, 32, 0), (0, 31, 4, 0, 6), (0, 4, 31, 0, -6), (4, 0, 28, 29, 0), (0, 28, 4, 0, 5), (0, 4, 28, 0, -5), (4, 0, 25, 26, 0), (0, 25, 4, 0, 4), (0, 4, 25, 0, -4), (4, 0, 22, 23, 0), (0, 22, 4, 0, 3), (0, 4, 22, 0, -3), (4, 0, 19, 20, 0), (0, 19, 4, 0, 2), (0, 4, 19, 0, -2), (4, 0, 16, 17, 0), (0, 16, 4, 0, 1), (0, 4, 16, 0, -1), (0, 4, 5, 0, -8), (3, 0, 5, 0, 0), (2, 2, 7, 6, 0), (2, 6, 2, 7, 0), (2, 2, 8, 8, 0), (2, 8, 2, 9, 0), (2, 2, 9, 10, 0), (2, 10, 2, 11, 0), (2, 1, 1, 12, 0), (2, 2, 3, 13, 0), (0, 12, 13, 0, 0), (0, 13, 12, 0, 0), (2, 2, 10, 14, 0), (0, 12, 4, 0, 0), (0, 13, 4, 0, 0)], 0, 0, [])
theorem lY1_e_504 : chk zrx zi wT (wRo wSites_15) (wRo wTags_15) lC_e [] 0 0 15 3000 false [(550, lYa_e_504, [])] none 57 243 504 (vZ lM_e) (fun _ _ => false) = true := by decide +kernel
theorem lY2_e_504 : chk zrx zi wT (wRo wSites_15) (wRo wTags_15) lC_e [] 0 0 37 3000 false [(600, lYc_e_504, [])] none 57 243 553 lYb_e_504 (fun _ _ => false) = true := by decide +kernel
theorem lV1_e_504 : cvOk zrx zi wT 243 550 56 lYa_e_504 k_L_dispute = true := by decide +kernel
theorem lV2_e_504 : cvOk zrx zi wT 243 600 56 lYc_e_504 k_X15_dispute_L = true := by decide +kernel
theorem lYn_e_504 : lYb_e_504.1.length = 37 := by decide +kernel
theorem lYr_e_504 : (vZ lM_e).2.2.2.1.all (fun f => !(f.1 == 7)) = true ∧ lYa_e_504.2.2.2.1.all (fun f => !(f.1 == 7)) = true ∧ (cvS zi lYa_e_504 k_L_dispute (cx1 k_L_dispute)).2.2.2.1.all (fun f => !(f.1 == 7)) = true ∧ lYc_e_504.2.2.2.1.all (fun f => !(f.1 == 7)) = true := by decide +kernel
def lYd0_e_504 : sS := vZ (cvS zi lYc_e_504 k_X15_dispute_L (cxi k_X15_dispute_L 0))
theorem lYd0_e_504n : lYd0_e_504.1.length = 47 ∧ (cvS zi lYc_e_504 k_X15_dispute_L (cxi k_X15_dispute_L 0)).2.2.2.1.all (fun f => !(f.1 == 7)) = true := by decide +kernel
theorem lY3_e_504_0 : chk zrx zi wT (wRo wSites_15) (wRo wTags_15) lC_e [] 0 0 15 3000 false [(27, lT_ezc, [])] none 57 243 603 lYd0_e_504 (fun _ _ => false) = true := by decide +kernel
def lYd1_e_504 : sS := vZ (cvS zi lYc_e_504 k_X15_dispute_L (cxi k_X15_dispute_L 1))
theorem lYd1_e_504n : lYd1_e_504.1.length = 46 ∧ (cvS zi lYc_e_504 k_X15_dispute_L (cxi k_X15_dispute_L 1)).2.2.2.1.all (fun f => !(f.1 == 7)) = true := by decide +kernel
theorem lY3_e_504_1 : chk zrx zi wT (wRo wSites_15) (wRo wTags_15) lC_e [] 0 0 15 3000 false [(27, lT_eza, [])] none 57 243 603 lYd1_e_504 (fun _ _ => false) = true := by decide +kernel
set_option maxRecDepth 20000 in
theorem lA_e_504 {n : Nat} (ih : lIH n) {hb ub : Nat} {N : Int} {ρ : List Nat} {ν : List Value} {lv : List (Nat × Value)} {st : List Value} {h : List zC} {u : Nat} {i R C A : Int32} {F : Int} (hA : gA hb ub ρ ν lM_e lv st h u) (hH : tHeap wT N ρ h) (v4 : ν[4]? = some (.int i)) (v7 : ν[7]? = some (.int R)) (v9 : ν[9]? = some (.int C)) (v11 : ν[11]? = some (.int A))
    (i4 : i.toInt ≤ 4096) (acc : lAcc false hb ub i.toInt R.toInt C.toInt A.toInt F) (rm1 : (ub : Int) + 17920 ≤ zSN) (rm2 : (hb : Int) + 1152 ≤ zCM) (hn : 4104 - i.toInt ≤ (n + 1 : Nat)) (hR : lR ρ ν h) : zE zrx zi 57 243 504 lv st h u lKK := by
  obtain ⟨dl1, dl2, dl3, dl4⟩ := lD_lo R.toInt C.toInt A.toInt
  obtain ⟨r0, ra, rb, rc⟩ := lYr_e_504
  have q0 : (h.length : Int) - hb ≤ 0 := hA.2.2.2.2.1
  have q1 : (u : Int) - ub ≤ 0 := hA.2.2.2.2.2
  have hlen : ν.length ≤ 15 := by
    rw [← hA.1.1]
    exact Nat.le_of_eq rfl
  refine seg wT_ok lC_e_ok 3000 lY1_e_504 (Nat.le_refl _) (nExt.refl ν) hlen (hA.reb r0) rfl rfl hH (by omega) (by omega) ?_
  intro x hx N1 ρ1 ν1 lv1 st1 h1 u1 x1 hA1 hH1 hF1 hP1
  rw [List.mem_singleton.mp hx] at hA1 ⊢
  clear hx x
  dsimp only at hA1 ⊢
  have hR1 := hR.fr hH hF1 hP1 x1 stW_nil rW_nil
  have b1 : (h1.length : Int) - h.length ≤ 0 := Int.le_trans (hA1.cost (by decide +kernel)).1 (by decide +kernel)
  have b2 : (u1 : Int) - u ≤ 0 := Int.le_trans (hA1.cost (by decide +kernel)).2 (by decide +kernel)
  have hT : gSt ν1 [3, 35, 32, 29, 26, 23, 20, 17, 1] st1 := hA1.2.2.1
  obtain ⟨w0, sa0, ea0, o0, ha0⟩ := hT.inv
  subst ea0
  rw [hR1.2.2.2.1] at o0
  cases o0
  obtain ⟨w1, sa1, ea1, o1, ha1⟩ := ha0.inv
  subst ea1
  obtain ⟨p35, rfl, -⟩ := hA1.int o1 rfl
  obtain ⟨w2, sa2, ea2, o2, ha2⟩ := ha1.inv
  subst ea2
  obtain ⟨p32, rfl, -⟩ := hA1.int o2 rfl
  obtain ⟨w3, sa3, ea3, o3, ha3⟩ := ha2.inv
  subst ea3
  obtain ⟨p29, rfl, -⟩ := hA1.int o3 rfl
  obtain ⟨w4, sa4, ea4, o4, ha4⟩ := ha3.inv
  subst ea4
  obtain ⟨p26, rfl, -⟩ := hA1.int o4 rfl
  obtain ⟨w5, sa5, ea5, o5, ha5⟩ := ha4.inv
  subst ea5
  obtain ⟨p23, rfl, -⟩ := hA1.int o5 rfl
  obtain ⟨w6, sa6, ea6, o6, ha6⟩ := ha5.inv
  subst ea6
  obtain ⟨p20, rfl, -⟩ := hA1.int o6 rfl
  obtain ⟨w7, sa7, ea7, o7, ha7⟩ := ha6.inv
  subst ea7
  obtain ⟨p17, rfl, -⟩ := hA1.int o7 rfl
  obtain ⟨w8, sa8, ea8, o8, ha8⟩ := ha7.inv
  subst ea8
  rw [hR1.2.1] at o8
  cases o8
  cases ha8.nil
  obtain ⟨cc, lc, cc1, cc2, cc3, cc4, cc5, cc6, cc7⟩ := id (hR1.2.2.2.2.2.2.1.2.1)
  obtain ⟨dd, d1, d2, d3⟩ := id (hR1.2.2.2.2.2.2.2.2.1)
  refine call_val con_L_dispute vr_243_550 lV1_e_504 rfl rfl (hA1.reb ra) hH1 (by have : k_L_dispute.2.2.2.2.1 = 1 := rfl; omega) (by have : k_L_dispute.2.2.2.2.2.1 = 6 := rfl; omega) rfl (fun n => C_Ldispute n p17 p20 p23 p26 p29 p32 p35 h1 u1 hR1.2.2.2.2.1 cc1 d1) ?_
  intro N2 ρ2 ν2 v h2 u2 n2 x2 hA2 hH2 hF2 hP2 V1
  obtain ⟨k, hk, V1⟩ := V1
  cases hk
  have V1 : Q_Ldispute cc dd p17 p20 p23 p26 p29 p32 p35 h1 (.inl (some (.int k))) h2 u2 := ⟨k, rfl, V1⟩
  have b3 : (h2.length : Int) - h1.length ≤ 1 := Int.le_trans (hA2.cost (by decide +kernel)).1 (by decide +kernel)
  have b4 : (u2 : Int) - u1 ≤ 6 := Int.le_trans (hA2.cost (by decide +kernel)).2 (by decide +kernel)
  have hTk : ν2[36]? = some (.int k) := gSt_hd hA2.2.2.1 (by decide +kernel)
  have hlen2 : ν2.length ≤ 37 := by
    rw [← hA2.1.1]
    exact Nat.le_of_eq lYn_e_504
  have hS2 : Stc h2 := hR1.2.2.2.2.1.fr hR1.1 hF2 stW_L_dispute
  have hRo2 : Ro ρ2 := hR1.1.pre hP2
  show zE zrx zi 57 243 553 lv1 _ h2 u2 lKK
  refine seg wT_ok lC_e_ok 3000 lY2_e_504 (Nat.le_refl _) (nExt.refl ν2) hlen2 (hA2.reb rb) rfl rfl hH2 (by omega) (by omega) ?_
  intro x hx N3 ρ3 ν3 lv3 st3 h3 u3 x3 hA3 hH3 hF3 hP3
  rw [List.mem_singleton.mp hx] at hA3 ⊢
  clear hx x
  dsimp only at hA3 ⊢
  have hS3 : Stc h3 := hS2.fr hRo2 hF3 stW_nil
  have b5 : (h3.length : Int) - h2.length ≤ 0 := Int.le_trans (hA3.cost (by decide +kernel)).1 (by decide +kernel)
  have b6 : (u3 : Int) - u2 ≤ 0 := Int.le_trans (hA3.cost (by decide +kernel)).2 (by decide +kernel)
  have hE : ∀ p, p < h2.length → ∀ k, gF h3 p k = gF h2 p k := fun p hp k => gFr_F0 hF3 hH2.1 hp k
  have hT : gSt ν3 [35, 32, 29, 26, 23, 20, 17, 2] st3 := hA3.2.2.1
  obtain ⟨w0, sb0, eb0, c0, hb0⟩ := hT.inv
  subst eb0
  rw [x3 _ _ (x2 _ _ o1)] at c0
  cases c0
  obtain ⟨w1, sb1, eb1, c1, hb1⟩ := hb0.inv
  subst eb1
  rw [x3 _ _ (x2 _ _ o2)] at c1
  cases c1
  obtain ⟨w2, sb2, eb2, c2, hb2⟩ := hb1.inv
  subst eb2
  rw [x3 _ _ (x2 _ _ o3)] at c2
  cases c2
  obtain ⟨w3, sb3, eb3, c3, hb3⟩ := hb2.inv
  subst eb3
  rw [x3 _ _ (x2 _ _ o4)] at c3
  cases c3
  obtain ⟨w4, sb4, eb4, c4, hb4⟩ := hb3.inv
  subst eb4
  rw [x3 _ _ (x2 _ _ o5)] at c4
  cases c4
  obtain ⟨w5, sb5, eb5, c5, hb5⟩ := hb4.inv
  subst eb5
  rw [x3 _ _ (x2 _ _ o6)] at c5
  cases c5
  obtain ⟨w6, sb6, eb6, c6, hb6⟩ := hb5.inv
  subst eb6
  rw [x3 _ _ (x2 _ _ o7)] at c6
  cases c6
  obtain ⟨w7, sb7, eb7, c7, hb7⟩ := hb6.inv
  subst eb7
  rw [x3 _ _ (x2 _ _ hR1.2.2.1)] at c7
  cases c7
  cases hb7.nil
  have hl1 := hR1.2.2.2.2.1.1
  have hl2 := gFr_len hF2
  have hl3 := gFr_len hF3
  have ro3 : Ro ρ3 := hRo2.pre hP3
  have n2 := (hE 224 (by omega) 2).trans ((gFr_F hF2 (hR1.1 224 48 (by decide +kernel)) (by decide +kernel) (by omega)).trans cc2)
  have n1 := (hE 224 (by omega) 1).trans ((gFr_F hF2 (hR1.1 224 48 (by decide +kernel)) (by decide +kernel) (by omega)).trans cc3)
  obtain ⟨⟨e, e1, e2⟩, e3, e4, e5, e6, e7, e8⟩ := cl_at hH3 ro3 n1 n2
  have e213 : ¬ lc = 213 := by omega
  have d4 := (hE 213 (by omega) 1).trans ((gFr_F hF2 (hR1.1 213 40 (by decide +kernel)) (by decide +kernel) (by omega)).trans d2)
  refine call_valn con_X15_dispute_L vr_243_600 lV2_e_504 (by decide +kernel) (hA3.reb rc) hH3 (by have : k_X15_dispute_L.2.2.2.2.1 = 2 := rfl; omega) (by have : k_X15_dispute_L.2.2.2.2.2.1 = 43 := rfl; omega) rfl (fun n => C_mdispute n p17 p20 p23 p26 p29 p32 p35 h3 u3 hS3 n2 n1 e1 e2 e3 cc6 e213 d4) ?_
  refine ends2 rfl ?_ ?_
  · intro N4 ρ4 ν4 v h4 u4 n4 x4 hA4 hH4 hF4 hP4 V2
    obtain ⟨nd, rd⟩ := lYd0_e_504n
    obtain ⟨r, hr⟩ : ∃ r : Int32, v = .int r := by
      first
        | (obtain ⟨r, h0, hr, -⟩ := V2; cases hr; exact ⟨r, rfl⟩)
        | (obtain ⟨r, hr, -⟩ := V2; cases hr; exact ⟨r, rfl⟩)
    subst hr
    have b7 : (h4.length : Int) - h3.length ≤ 2 := Int.le_trans (hA4.cost (by decide +kernel)).1 (by decide +kernel)
    have b8 : (u4 : Int) - u3 ≤ 43 := Int.le_trans (hA4.cost (by decide +kernel)).2 (by decide +kernel)
    have z1 := ((⟨⟨⟨qFed.fr3 (hR1.2.2.2.2.2.1.1) hR1.2.2.2.2.1 hR1.1 hH1 hF2 (by decide +kernel) hS2 hRo2 hH2 hF3 hS3 (hRo2.pre hP3) hH3 hF4 (by decide +kernel), qAR.fr3 (hR1.2.2.2.2.2.1.2.1) hR1.2.2.2.2.1 hR1.1 hH1 hF2 (by decide +kernel) hS2 hRo2 hH2 hF3 hS3 (hRo2.pre hP3) hH3 hF4 (by decide +kernel), qHO.fr3 (hR1.2.2.2.2.2.1.2.2.1) hR1.2.2.2.2.1 hR1.1 hH1 hF2 (by decide +kernel) hS2 hRo2 hH2 hF3 hS3 (hRo2.pre hP3) hH3 hF4 (by decide +kernel), qEX.fr3 (hR1.2.2.2.2.2.1.2.2.2) hR1.2.2.2.2.1 hR1.1 hH1 hF2 (by decide +kernel) hS2 hRo2 hH2 hF3 hS3 (hRo2.pre hP3) hH3 hF4 (by decide +kernel)⟩, ⟨qRFu.fr3 (hR1.2.2.2.2.2.2.1.1) hR1.2.2.2.2.1 hR1.1 hH1 hF2 (by decide +kernel) hS2 hRo2 hH2 hF3 hS3 (hRo2.pre hP3) hH3 hF4 (by decide +kernel), sum_dispute cc1 cc2 cc3 cc4 cc5 cc6 cc7 (hR1.2.2.2.2.2.2.2.1.1) hl1 hl2 hl3 V1 hE V2, sumV_dispute cc1 cc3 (hR1.2.2.2.2.2.2.1.2.2) hl1 hl2 hl3 V1 hE V2⟩, ⟨Rw.fr3 (hR1.2.2.2.2.2.2.2.1.1) hR1.2.2.2.2.1 hR1.1 hH1 hF2 (by decide +kernel) hS2 hRo2 hH2 hF3 hS3 (hRo2.pre hP3) hH3 hF4 (by decide +kernel), qSm.fr3T (hR1.2.2.2.2.2.2.2.1.2.1) hR1.2.2.2.2.1 hR1.1 hH1 hF2 (by decide +kernel) hS2 hRo2 hH2 hF3 hS3 (hRo2.pre hP3) hH3 hF4 (by decide +kernel), qSm.fr3Y (hR1.2.2.2.2.2.2.2.1.2.2) hR1.2.2.2.2.1 hR1.1 hH1 hF2 (by decide +kernel) hS2 hRo2 hH2 hF3 hS3 (hRo2.pre hP3) hH3 hF4 (by decide +kernel)⟩, qDz.fr3 (hR1.2.2.2.2.2.2.2.2.1) hR1.2.2.2.2.1 hR1.1 hH1 hF2 (by decide +kernel) hS2 hRo2 hH2 hF3 hS3 (hRo2.pre hP3) hH3 hF4 (by decide +kernel), qRv.fr3 (hR1.2.2.2.2.2.2.2.2.2) hR1.2.2.2.2.1 hR1.1 hH1 hF2 (by decide +kernel) hS2 hRo2 hH2 hF3 hS3 (hRo2.pre hP3) hH3 hF4 (by decide +kernel)⟩, trivial⟩ : qAll h4 ∧ True)).1
    have hR4 : lR ρ4 ν4 h4 := ⟨(hRo2.pre hP3).pre hP4, x4 _ _ (x3 _ _ (x2 _ _ hR1.2.1)), x4 _ _ (x3 _ _ (x2 _ _ hR1.2.2.1)), x4 _ _ (x3 _ _ (x2 _ _ hR1.2.2.2.1)), hS3.fr (hRo2.pre hP3) hF4 stW_X15_dispute_L, z1⟩
    have x14 : nExt ν ν4 := x1.trans (x2.trans (x3.trans x4))
    have hA4 := hA4.reb rd
    show zE zrx zi 57 243 603 lv3 _ h4 u4 lKK
    refine seg wT_ok lC_e_ok 3000 lY3_e_504_0 (Nat.le_refl _) x14 hlen hA4 rfl rfl hH4 (by omega) (by omega) ?_
    intro x hx N5 ρ5 ν5 lv5 st5 h5 u5 x5 hA5 hH5 hF5 hP5
    rw [List.mem_singleton.mp hx] at hA5 ⊢
    clear hx x
    dsimp only at hA5 ⊢
    have b9 : (h5.length : Int) - h4.length ≤ 0 := Int.le_trans (hA5.cost (by decide +kernel)).1 (by decide +kernel)
    have c1 : (u5 : Int) - u4 ≤ 0 := Int.le_trans (hA5.cost (by decide +kernel)).2 (by decide +kernel)
    obtain ⟨j, j1, j2⟩ := l_i hA5 rfl rfl (x5 _ _ v4)
    obtain ⟨y, y1, y2⟩ := l_one hA5 rfl rfl (x5 _ _ v9)
    exact l_next (g := false) ih [0, 1, 2, 3, 15, 5, 6, 7, 8, 16, 10, 11, 12, 13, 14] (by decide +kernel) (by decide +kernel) hA5 rfl hH5 rfl rfl rfl rfl j1 (x5 _ _ v7) y1 (x5 _ _ v11) (acc.grow (g := false) j2 (by omega) (by omega) (by omega) (by omega) (by omega) (by omega) (by omega)) (by omega) rfl rfl rfl (lR.fr ⟨hR4.1, x5 _ _ (hR.2.1), x5 _ _ (hR.2.2.1), x5 _ _ (hR.2.2.2.1), hR4.2.2.2.2⟩ hH4 hF5 hP5 (nExt.refl ν5) stW_nil rW_nil)
  · intro N4 ρ4 ν4 v h4 u4 n4 x4 hA4 hH4 hF4 hP4 V2
    obtain ⟨nd, rd⟩ := lYd1_e_504n
    obtain ⟨r, hr⟩ : ∃ r : Int32, v = .int r := by
      first
        | (obtain ⟨r, h0, hr, -⟩ := V2; cases hr; exact ⟨r, rfl⟩)
        | (obtain ⟨r, hr, -⟩ := V2; cases hr; exact ⟨r, rfl⟩)
    subst hr
    have b7 : (h4.length : Int) - h3.length ≤ 0 := Int.le_trans (hA4.cost (by decide +kernel)).1 (by decide +kernel)
    have b8 : (u4 : Int) - u3 ≤ 0 := Int.le_trans (hA4.cost (by decide +kernel)).2 (by decide +kernel)
    have z1 := ((⟨⟨⟨qFed.fr3 (hR1.2.2.2.2.2.1.1) hR1.2.2.2.2.1 hR1.1 hH1 hF2 (by decide +kernel) hS2 hRo2 hH2 hF3 hS3 (hRo2.pre hP3) hH3 hF4 (by decide +kernel), qAR.fr3 (hR1.2.2.2.2.2.1.2.1) hR1.2.2.2.2.1 hR1.1 hH1 hF2 (by decide +kernel) hS2 hRo2 hH2 hF3 hS3 (hRo2.pre hP3) hH3 hF4 (by decide +kernel), qHO.fr3 (hR1.2.2.2.2.2.1.2.2.1) hR1.2.2.2.2.1 hR1.1 hH1 hF2 (by decide +kernel) hS2 hRo2 hH2 hF3 hS3 (hRo2.pre hP3) hH3 hF4 (by decide +kernel), qEX.fr3 (hR1.2.2.2.2.2.1.2.2.2) hR1.2.2.2.2.1 hR1.1 hH1 hF2 (by decide +kernel) hS2 hRo2 hH2 hF3 hS3 (hRo2.pre hP3) hH3 hF4 (by decide +kernel)⟩, ⟨qRFu.fr3 (hR1.2.2.2.2.2.2.1.1) hR1.2.2.2.2.1 hR1.1 hH1 hF2 (by decide +kernel) hS2 hRo2 hH2 hF3 hS3 (hRo2.pre hP3) hH3 hF4 (by decide +kernel), sum_dispute cc1 cc2 cc3 cc4 cc5 cc6 cc7 (hR1.2.2.2.2.2.2.2.1.1) hl1 hl2 hl3 V1 hE V2, sumV_dispute cc1 cc3 (hR1.2.2.2.2.2.2.1.2.2) hl1 hl2 hl3 V1 hE V2⟩, ⟨Rw.fr3 (hR1.2.2.2.2.2.2.2.1.1) hR1.2.2.2.2.1 hR1.1 hH1 hF2 (by decide +kernel) hS2 hRo2 hH2 hF3 hS3 (hRo2.pre hP3) hH3 hF4 (by decide +kernel), qSm.fr3T (hR1.2.2.2.2.2.2.2.1.2.1) hR1.2.2.2.2.1 hR1.1 hH1 hF2 (by decide +kernel) hS2 hRo2 hH2 hF3 hS3 (hRo2.pre hP3) hH3 hF4 (by decide +kernel), qSm.fr3Y (hR1.2.2.2.2.2.2.2.1.2.2) hR1.2.2.2.2.1 hR1.1 hH1 hF2 (by decide +kernel) hS2 hRo2 hH2 hF3 hS3 (hRo2.pre hP3) hH3 hF4 (by decide +kernel)⟩, qDz.fr3 (hR1.2.2.2.2.2.2.2.2.1) hR1.2.2.2.2.1 hR1.1 hH1 hF2 (by decide +kernel) hS2 hRo2 hH2 hF3 hS3 (hRo2.pre hP3) hH3 hF4 (by decide +kernel), qRv.fr3 (hR1.2.2.2.2.2.2.2.2.2) hR1.2.2.2.2.1 hR1.1 hH1 hF2 (by decide +kernel) hS2 hRo2 hH2 hF3 hS3 (hRo2.pre hP3) hH3 hF4 (by decide +kernel)⟩, trivial⟩ : qAll h4 ∧ True)).1
    have hR4 : lR ρ4 ν4 h4 := ⟨(hRo2.pre hP3).pre hP4, x4 _ _ (x3 _ _ (x2 _ _ hR1.2.1)), x4 _ _ (x3 _ _ (x2 _ _ hR1.2.2.1)), x4 _ _ (x3 _ _ (x2 _ _ hR1.2.2.2.1)), hS3.fr (hRo2.pre hP3) hF4 stW_X15_dispute_L, z1⟩
    have x14 : nExt ν ν4 := x1.trans (x2.trans (x3.trans x4))
    have hA4 := hA4.reb rd
    show zE zrx zi 57 243 603 lv3 _ h4 u4 lKK
    refine seg wT_ok lC_e_ok 3000 lY3_e_504_1 (Nat.le_refl _) x14 hlen hA4 rfl rfl hH4 (by omega) (by omega) ?_
    intro x hx N5 ρ5 ν5 lv5 st5 h5 u5 x5 hA5 hH5 hF5 hP5
    rw [List.mem_singleton.mp hx] at hA5 ⊢
    clear hx x
    dsimp only at hA5 ⊢
    have b9 : (h5.length : Int) - h4.length ≤ 0 := Int.le_trans (hA5.cost (by decide +kernel)).1 (by decide +kernel)
    have c1 : (u5 : Int) - u4 ≤ 0 := Int.le_trans (hA5.cost (by decide +kernel)).2 (by decide +kernel)
    obtain ⟨j, j1, j2⟩ := l_i hA5 rfl rfl (x5 _ _ v4)
    exact l_next (g := false) ih [0, 1, 2, 3, 15, 5, 6, 7, 8, 9, 10, 11, 12, 13, 14] (by decide +kernel) (by decide +kernel) hA5 rfl hH5 rfl rfl rfl rfl j1 (x5 _ _ v7) (x5 _ _ v9) (x5 _ _ v11) (acc.dear j2 (by omega) (by omega) false (fun z => z)) (by omega) rfl rfl rfl (lR.fr ⟨hR4.1, x5 _ _ (hR.2.1), x5 _ _ (hR.2.2.1), x5 _ _ (hR.2.2.2.1), hR4.2.2.2.2⟩ hH4 hF5 hP5 (nExt.refl ν5) stW_nil rW_nil)
def lYa_e_608 : sS := ([(3, 0, 0), (3, 8, 0), (3, 40, 0), (3, 36, 0), (0, 0, 4088), (0, 8, 4096), (3, 45, 0), (0, 0, 40), (3, 48, 0), (0, 0, 24), (3, 51, 0), (0, 0, 24), (0, 0, 4088), (0, 0, 4088), (3, 1, 0), (0, 1, 1), (0, 1, 4089), (0, -2147483648, 2147483647)], [(0, 0), (1, 1), (2, 2), (3, 3), (4, 4)], [3, 17, 1], [(4, 0, 16, 17, 0), (0, 16, 4, 0, 1), (0, 4, 16, 0, -1), (0, 4, 5, 0, -8), (3, 0, 5, 0, 0), (2, 2, 7, 6, 0), (2, 6, 2, 7, 0), (2, 2, 8, 8, 0), (2, 8, 2, 9, 0), (2, 2, 9, 10, 0), (2, 10, 2, 11, 0), (2, 1, 1, 12, 0), (2, 2, 3, 13, 0), (0, 12, 13, 0, 0), (0, 13, 12, 0, 0), (2, 2, 10, 14, 0), (0, 12, 4, 0, 0), (0, 13, 4, 0, 0)], 0, 0, [])
def lYb_e_608 : sS := vZ (cvS zi lYa_e_608 k_L_feed (cx1 k_L_feed))
def lYc_e_608 : sS := ([(3, 0, 0), (3, 8, 0), (3, 40, 0), (3, 36, 0), (0, 0, 4088), (0, 8, 4096), (3, 45, 0), (0, 0, 40), (3, 48, 0), (0, 0, 24), (3, 51, 0), (0, 0, 24), (0, 0, 4088), (0, 0, 4088), (3, 1, 0), (0, 1, 1), (0, 1, 4089), (0, -2147483648, 2147483647), (0, 0, 2), (0, 1, 1)], [(5, 18), (0, 0), (1, 1), (2, 2), (3, 3), (4, 4)], [17, 2], [(4, 0, 16, 17, 0), (0, 16, 4, 0, 1), (0, 4, 16, 0, -1), (0, 4, 5, 0, -8), (3, 0, 5, 0, 0), (2, 2, 7, 6, 0), (2, 6, 2, 7, 0), (2, 2, 8, 8, 0), (2, 8, 2, 9, 0), (2, 2, 9, 10, 0), (2, 10, 2, 11, 0), (2, 1, 1, 12, 0), (2, 2, 3, 13, 0), (0, 12, 13, 0, 0), (0, 13, 12, 0, 0), (2, 2, 10, 14, 0), (0, 12, 4, 0, 0), (0, 13, 4, 0, 0)], 0, 0, [])
theorem lY1_e_608 : chk zrx zi wT (wRo wSites_15) (wRo wTags_15) lC_e [] 0 0 15 3000 false [(616, lYa_e_608, [])] none 57 243 608 (vZ lM_e) (fun _ _ => false) = true := by decide +kernel
theorem lY2_e_608 : chk zrx zi wT (wRo wSites_15) (wRo wTags_15) lC_e [] 0 0 19 3000 false [(628, lYc_e_608, [])] none 57 243 619 lYb_e_608 (fun _ _ => false) = true := by decide +kernel
theorem lV1_e_608 : cvOk zrx zi wT 243 616 56 lYa_e_608 k_L_feed = true := by decide +kernel
theorem lV2_e_608 : cvOk zrx zi wT 243 628 56 lYc_e_608 k_X15_feed_Le = true := by decide +kernel
theorem lYn_e_608 : lYb_e_608.1.length = 19 := by decide +kernel
theorem lYr_e_608 : (vZ lM_e).2.2.2.1.all (fun f => !(f.1 == 7)) = true ∧ lYa_e_608.2.2.2.1.all (fun f => !(f.1 == 7)) = true ∧ (cvS zi lYa_e_608 k_L_feed (cx1 k_L_feed)).2.2.2.1.all (fun f => !(f.1 == 7)) = true ∧ lYc_e_608.2.2.2.1.all (fun f => !(f.1 == 7)) = true := by decide +kernel
def lYd0_e_608 : sS := vZ (cvS zi lYc_e_608 k_X15_feed_Le (cxi k_X15_feed_Le 0))
theorem lYd0_e_608n : lYd0_e_608.1.length = 23 ∧ (cvS zi lYc_e_608 k_X15_feed_Le (cxi k_X15_feed_Le 0)).2.2.2.1.all (fun f => !(f.1 == 7)) = true := by decide +kernel
theorem lY3_e_608_0 : chk zrx zi wT (wRo wSites_15) (wRo wTags_15) lC_e [] 0 0 15 3000 false [(27, lT_ezf, [])] none 57 243 631 lYd0_e_608 (fun _ _ => false) = true := by decide +kernel
def lYd1_e_608 : sS := vZ (cvS zi lYc_e_608 k_X15_feed_Le (cxi k_X15_feed_Le 1))
theorem lYd1_e_608n : lYd1_e_608.1.length = 22 ∧ (cvS zi lYc_e_608 k_X15_feed_Le (cxi k_X15_feed_Le 1)).2.2.2.1.all (fun f => !(f.1 == 7)) = true := by decide +kernel
theorem lY3_e_608_1 : chk zrx zi wT (wRo wSites_15) (wRo wTags_15) lC_e [] 0 0 15 3000 false [(27, lT_eza, [])] none 57 243 631 lYd1_e_608 (fun _ _ => false) = true := by decide +kernel
set_option maxRecDepth 20000 in
theorem lA_e_608 {n : Nat} (ih : lIH n) {hb ub : Nat} {N : Int} {ρ : List Nat} {ν : List Value} {lv : List (Nat × Value)} {st : List Value} {h : List zC} {u : Nat} {i R C A : Int32} {F : Int} (hA : gA hb ub ρ ν lM_e lv st h u) (hH : tHeap wT N ρ h) (v4 : ν[4]? = some (.int i)) (v7 : ν[7]? = some (.int R)) (v9 : ν[9]? = some (.int C)) (v11 : ν[11]? = some (.int A))
    (i4 : i.toInt ≤ 4096) (acc : lAcc false hb ub i.toInt R.toInt C.toInt A.toInt F) (rm1 : (ub : Int) + 17920 ≤ zSN) (rm2 : (hb : Int) + 1152 ≤ zCM) (hn : 4104 - i.toInt ≤ (n + 1 : Nat)) (hR : lR ρ ν h) : zE zrx zi 57 243 608 lv st h u lKK := by
  obtain ⟨dl1, dl2, dl3, dl4⟩ := lD_lo R.toInt C.toInt A.toInt
  obtain ⟨r0, ra, rb, rc⟩ := lYr_e_608
  have q0 : (h.length : Int) - hb ≤ 0 := hA.2.2.2.2.1
  have q1 : (u : Int) - ub ≤ 0 := hA.2.2.2.2.2
  have hlen : ν.length ≤ 15 := by
    rw [← hA.1.1]
    exact Nat.le_of_eq rfl
  refine seg wT_ok lC_e_ok 3000 lY1_e_608 (Nat.le_refl _) (nExt.refl ν) hlen (hA.reb r0) rfl rfl hH (by omega) (by omega) ?_
  intro x hx N1 ρ1 ν1 lv1 st1 h1 u1 x1 hA1 hH1 hF1 hP1
  rw [List.mem_singleton.mp hx] at hA1 ⊢
  clear hx x
  dsimp only at hA1 ⊢
  have hR1 := hR.fr hH hF1 hP1 x1 stW_nil rW_nil
  have b1 : (h1.length : Int) - h.length ≤ 0 := Int.le_trans (hA1.cost (by decide +kernel)).1 (by decide +kernel)
  have b2 : (u1 : Int) - u ≤ 0 := Int.le_trans (hA1.cost (by decide +kernel)).2 (by decide +kernel)
  have hT : gSt ν1 [3, 17, 1] st1 := hA1.2.2.1
  obtain ⟨w0, sa0, ea0, o0, ha0⟩ := hT.inv
  subst ea0
  rw [hR1.2.2.2.1] at o0
  cases o0
  obtain ⟨w1, sa1, ea1, o1, ha1⟩ := ha0.inv
  subst ea1
  obtain ⟨p17, rfl, -⟩ := hA1.int o1 rfl
  obtain ⟨w2, sa2, ea2, o2, ha2⟩ := ha1.inv
  subst ea2
  rw [hR1.2.1] at o2
  cases o2
  cases ha2.nil
  obtain ⟨T, L, fs, fa, fbd, t1, t3, fm1⟩ := hR1.2.2.2.2.2.1.1
  obtain ⟨cnt, el, c0, c2, c1, cel, h0c, h24, -⟩ := id (hR1.2.2.2.2.2.1.2.1)
  obtain ⟨dd, d1, d2, d3⟩ := id (hR1.2.2.2.2.2.2.2.2.1)
  have t2 : L ≤ 60 := fm1.l60
  refine call_val con_L_feed vr_243_616 lV1_e_608 rfl rfl (hA1.reb ra) hH1 (by have : k_L_feed.2.2.2.2.1 = 1 := rfl; omega) (by have : k_L_feed.2.2.2.2.2.1 = 6 := rfl; omega) rfl (fun n => C_Lfeed n p17 h1 u1 hR1.2.2.2.2.1 t1 t2) ?_
  intro N2 ρ2 ν2 v h2 u2 n2 x2 hA2 hH2 hF2 hP2 V1
  obtain ⟨k, hk, V1⟩ := V1
  cases hk
  have V1 : Q_Lfeed L p17 h1 (.inl (some (.int k))) h2 u2 := ⟨k, rfl, V1⟩
  have b3 : (h2.length : Int) - h1.length ≤ 1 := Int.le_trans (hA2.cost (by decide +kernel)).1 (by decide +kernel)
  have b4 : (u2 : Int) - u1 ≤ 6 := Int.le_trans (hA2.cost (by decide +kernel)).2 (by decide +kernel)
  have hTk : ν2[18]? = some (.int k) := gSt_hd hA2.2.2.1 (by decide +kernel)
  have hlen2 : ν2.length ≤ 19 := by
    rw [← hA2.1.1]
    exact Nat.le_of_eq lYn_e_608
  have hS2 : Stc h2 := hR1.2.2.2.2.1.fr hR1.1 hF2 stW_L_feed
  have hRo2 : Ro ρ2 := hR1.1.pre hP2
  show zE zrx zi 57 243 619 lv1 _ h2 u2 lKK
  refine seg wT_ok lC_e_ok 3000 lY2_e_608 (Nat.le_refl _) (nExt.refl ν2) hlen2 (hA2.reb rb) rfl rfl hH2 (by omega) (by omega) ?_
  intro x hx N3 ρ3 ν3 lv3 st3 h3 u3 x3 hA3 hH3 hF3 hP3
  rw [List.mem_singleton.mp hx] at hA3 ⊢
  clear hx x
  dsimp only at hA3 ⊢
  have hS3 : Stc h3 := hS2.fr hRo2 hF3 stW_nil
  have b5 : (h3.length : Int) - h2.length ≤ 0 := Int.le_trans (hA3.cost (by decide +kernel)).1 (by decide +kernel)
  have b6 : (u3 : Int) - u2 ≤ 0 := Int.le_trans (hA3.cost (by decide +kernel)).2 (by decide +kernel)
  have hE : ∀ p, p < h2.length → ∀ k, gF h3 p k = gF h2 p k := fun p hp k => gFr_F0 hF3 hH2.1 hp k
  have hT : gSt ν3 [17, 2] st3 := hA3.2.2.1
  obtain ⟨w0, sb0, eb0, c0, hb0⟩ := hT.inv
  subst eb0
  rw [x3 _ _ (x2 _ _ o1)] at c0
  cases c0
  obtain ⟨w1, sb1, eb1, c1, hb1⟩ := hb0.inv
  subst eb1
  rw [x3 _ _ (x2 _ _ hR1.2.2.1)] at c1
  cases c1
  cases hb1.nil
  have hl1 := hR1.2.2.2.2.1.1
  have hl2 := gFr_len hF2
  have hl3 := gFr_len hF3
  have ro3 : Ro ρ3 := hRo2.pre hP3
  have fm2 := fm1.fr hR1.2.2.2.2.1.1 hR1.1 hH1 hF2 (by decide +kernel)
  have fm3 := fm2.fr hS2.1 hRo2 hH2 hF3 (by decide)
  obtain ⟨fb, sb3⟩ := fm3.sb hH3 ro3
  refine call_valn con_X15_feed_Le vr_243_628 lV2_e_608 (by decide +kernel) (hA3.reb rc) hH3 (by have : k_X15_feed_Le.2.2.2.2.1 = 4 := rfl; omega) (by have : k_X15_feed_Le.2.2.2.2.2.1 = 25 := rfl; omega) rfl (fun n => C_mfeed n p17 h3 u3 hS3.1 sb3 fm3.2.1) ?_
  refine ends2 rfl ?_ ?_
  · intro N4 ρ4 ν4 v h4 u4 n4 x4 hA4 hH4 hF4 hP4 V2
    obtain ⟨nd, rd⟩ := lYd0_e_608n
    obtain ⟨r, hr⟩ : ∃ r : Int32, v = .int r := by
      first
        | (obtain ⟨r, h0, hr, -⟩ := V2; cases hr; exact ⟨r, rfl⟩)
        | (obtain ⟨r, hr, -⟩ := V2; cases hr; exact ⟨r, rfl⟩)
    subst hr
    have b7 : (h4.length : Int) - h3.length ≤ 4 := Int.le_trans (hA4.cost (by decide +kernel)).1 (by decide +kernel)
    have b8 : (u4 : Int) - u3 ≤ 25 := Int.le_trans (hA4.cost (by decide +kernel)).2 (by decide +kernel)
    have z1 := ((by
    obtain ⟨y1, y2, y3, y4⟩ := sum_feed t1 t3 fm3 hl1 hl2 hl3 V1 hE V2
    exact ⟨⟨⟨y1, qAR.fr3 (hR1.2.2.2.2.2.1.2.1) hR1.2.2.2.2.1 hR1.1 hH1 hF2 (by decide +kernel) hS2 hRo2 hH2 hF3 hS3 (hRo2.pre hP3) hH3 hF4 (by decide +kernel), qHO.fr3 (hR1.2.2.2.2.2.1.2.2.1) hR1.2.2.2.2.1 hR1.1 hH1 hF2 (by decide +kernel) hS2 hRo2 hH2 hF3 hS3 (hRo2.pre hP3) hH3 hF4 (by decide +kernel), qEX.fr3 (hR1.2.2.2.2.2.1.2.2.2) hR1.2.2.2.2.1 hR1.1 hH1 hF2 (by decide +kernel) hS2 hRo2 hH2 hF3 hS3 (hRo2.pre hP3) hH3 hF4 (by decide +kernel)⟩, ⟨qRFu.fr3 (hR1.2.2.2.2.2.2.1.1) hR1.2.2.2.2.1 hR1.1 hH1 hF2 (by decide +kernel) hS2 hRo2 hH2 hF3 hS3 (hRo2.pre hP3) hH3 hF4 (by decide +kernel), qRCs.fr3 (hR1.2.2.2.2.2.2.1.2.1) hR1.2.2.2.2.1 hR1.1 hH1 hF2 (by decide +kernel) hS2 hRo2 hH2 hF3 hS3 (hRo2.pre hP3) hH3 hF4 (by decide +kernel), qVd.fr3 (hR1.2.2.2.2.2.2.1.2.2) hR1.2.2.2.2.1 hR1.1 hH1 hF2 (by decide +kernel) hS2 hRo2 hH2 hF3 hS3 (hRo2.pre hP3) hH3 hF4 (by decide +kernel)⟩, ⟨Rw.fr3 (hR1.2.2.2.2.2.2.2.1.1) hR1.2.2.2.2.1 hR1.1 hH1 hF2 (by decide +kernel) hS2 hRo2 hH2 hF3 hS3 (hRo2.pre hP3) hH3 hF4 (by decide +kernel), qSm.fr3T (hR1.2.2.2.2.2.2.2.1.2.1) hR1.2.2.2.2.1 hR1.1 hH1 hF2 (by decide +kernel) hS2 hRo2 hH2 hF3 hS3 (hRo2.pre hP3) hH3 hF4 (by decide +kernel), qSm.fr3Y (hR1.2.2.2.2.2.2.2.1.2.2) hR1.2.2.2.2.1 hR1.1 hH1 hF2 (by decide +kernel) hS2 hRo2 hH2 hF3 hS3 (hRo2.pre hP3) hH3 hF4 (by decide +kernel)⟩, qDz.fr3 (hR1.2.2.2.2.2.2.2.2.1) hR1.2.2.2.2.1 hR1.1 hH1 hF2 (by decide +kernel) hS2 hRo2 hH2 hF3 hS3 (hRo2.pre hP3) hH3 hF4 (by decide +kernel), qRv.fr3 (hR1.2.2.2.2.2.2.2.2.2) hR1.2.2.2.2.1 hR1.1 hH1 hF2 (by decide +kernel) hS2 hRo2 hH2 hF3 hS3 (hRo2.pre hP3) hH3 hF4 (by decide +kernel)⟩, trivial⟩ : qAll h4 ∧ True)).1
    have hR4 : lR ρ4 ν4 h4 := ⟨(hRo2.pre hP3).pre hP4, x4 _ _ (x3 _ _ (x2 _ _ hR1.2.1)), x4 _ _ (x3 _ _ (x2 _ _ hR1.2.2.1)), x4 _ _ (x3 _ _ (x2 _ _ hR1.2.2.2.1)), hS3.fr (hRo2.pre hP3) hF4 stW_X15_feed_Le, z1⟩
    have x14 : nExt ν ν4 := x1.trans (x2.trans (x3.trans x4))
    have hA4 := hA4.reb rd
    show zE zrx zi 57 243 631 lv3 _ h4 u4 lKK
    refine seg wT_ok lC_e_ok 3000 lY3_e_608_0 (Nat.le_refl _) x14 hlen hA4 rfl rfl hH4 (by omega) (by omega) ?_
    intro x hx N5 ρ5 ν5 lv5 st5 h5 u5 x5 hA5 hH5 hF5 hP5
    rw [List.mem_singleton.mp hx] at hA5 ⊢
    clear hx x
    dsimp only at hA5 ⊢
    have b9 : (h5.length : Int) - h4.length ≤ 0 := Int.le_trans (hA5.cost (by decide +kernel)).1 (by decide +kernel)
    have c1 : (u5 : Int) - u4 ≤ 0 := Int.le_trans (hA5.cost (by decide +kernel)).2 (by decide +kernel)
    obtain ⟨j, j1, j2⟩ := l_i hA5 rfl rfl (x5 _ _ v4)
    exact l_next (g := true) ih [0, 1, 2, 3, 15, 5, 6, 7, 8, 9, 10, 11, 12, 13, 16] (by decide +kernel) (by decide +kernel) hA5 rfl hH5 rfl rfl rfl rfl j1 (x5 _ _ v7) (x5 _ _ v9) (x5 _ _ v11) (acc.feed j2 (by omega) (by omega)) (by omega) rfl rfl rfl (lR.fr ⟨hR4.1, x5 _ _ (hR.2.1), x5 _ _ (hR.2.2.1), x5 _ _ (hR.2.2.2.1), hR4.2.2.2.2⟩ hH4 hF5 hP5 (nExt.refl ν5) stW_nil rW_nil)
  · intro N4 ρ4 ν4 v h4 u4 n4 x4 hA4 hH4 hF4 hP4 V2
    obtain ⟨nd, rd⟩ := lYd1_e_608n
    obtain ⟨r, hr⟩ : ∃ r : Int32, v = .int r := by
      first
        | (obtain ⟨r, h0, hr, -⟩ := V2; cases hr; exact ⟨r, rfl⟩)
        | (obtain ⟨r, hr, -⟩ := V2; cases hr; exact ⟨r, rfl⟩)
    subst hr
    have b7 : (h4.length : Int) - h3.length ≤ 0 := Int.le_trans (hA4.cost (by decide +kernel)).1 (by decide +kernel)
    have b8 : (u4 : Int) - u3 ≤ 0 := Int.le_trans (hA4.cost (by decide +kernel)).2 (by decide +kernel)
    have z1 := ((by
    obtain ⟨y1, y2, y3, y4⟩ := sum_feed t1 t3 fm3 hl1 hl2 hl3 V1 hE V2
    exact ⟨⟨⟨y1, qAR.fr3 (hR1.2.2.2.2.2.1.2.1) hR1.2.2.2.2.1 hR1.1 hH1 hF2 (by decide +kernel) hS2 hRo2 hH2 hF3 hS3 (hRo2.pre hP3) hH3 hF4 (by decide +kernel), qHO.fr3 (hR1.2.2.2.2.2.1.2.2.1) hR1.2.2.2.2.1 hR1.1 hH1 hF2 (by decide +kernel) hS2 hRo2 hH2 hF3 hS3 (hRo2.pre hP3) hH3 hF4 (by decide +kernel), qEX.fr3 (hR1.2.2.2.2.2.1.2.2.2) hR1.2.2.2.2.1 hR1.1 hH1 hF2 (by decide +kernel) hS2 hRo2 hH2 hF3 hS3 (hRo2.pre hP3) hH3 hF4 (by decide +kernel)⟩, ⟨qRFu.fr3 (hR1.2.2.2.2.2.2.1.1) hR1.2.2.2.2.1 hR1.1 hH1 hF2 (by decide +kernel) hS2 hRo2 hH2 hF3 hS3 (hRo2.pre hP3) hH3 hF4 (by decide +kernel), qRCs.fr3 (hR1.2.2.2.2.2.2.1.2.1) hR1.2.2.2.2.1 hR1.1 hH1 hF2 (by decide +kernel) hS2 hRo2 hH2 hF3 hS3 (hRo2.pre hP3) hH3 hF4 (by decide +kernel), qVd.fr3 (hR1.2.2.2.2.2.2.1.2.2) hR1.2.2.2.2.1 hR1.1 hH1 hF2 (by decide +kernel) hS2 hRo2 hH2 hF3 hS3 (hRo2.pre hP3) hH3 hF4 (by decide +kernel)⟩, ⟨Rw.fr3 (hR1.2.2.2.2.2.2.2.1.1) hR1.2.2.2.2.1 hR1.1 hH1 hF2 (by decide +kernel) hS2 hRo2 hH2 hF3 hS3 (hRo2.pre hP3) hH3 hF4 (by decide +kernel), qSm.fr3T (hR1.2.2.2.2.2.2.2.1.2.1) hR1.2.2.2.2.1 hR1.1 hH1 hF2 (by decide +kernel) hS2 hRo2 hH2 hF3 hS3 (hRo2.pre hP3) hH3 hF4 (by decide +kernel), qSm.fr3Y (hR1.2.2.2.2.2.2.2.1.2.2) hR1.2.2.2.2.1 hR1.1 hH1 hF2 (by decide +kernel) hS2 hRo2 hH2 hF3 hS3 (hRo2.pre hP3) hH3 hF4 (by decide +kernel)⟩, qDz.fr3 (hR1.2.2.2.2.2.2.2.2.1) hR1.2.2.2.2.1 hR1.1 hH1 hF2 (by decide +kernel) hS2 hRo2 hH2 hF3 hS3 (hRo2.pre hP3) hH3 hF4 (by decide +kernel), qRv.fr3 (hR1.2.2.2.2.2.2.2.2.2) hR1.2.2.2.2.1 hR1.1 hH1 hF2 (by decide +kernel) hS2 hRo2 hH2 hF3 hS3 (hRo2.pre hP3) hH3 hF4 (by decide +kernel)⟩, trivial⟩ : qAll h4 ∧ True)).1
    have hR4 : lR ρ4 ν4 h4 := ⟨(hRo2.pre hP3).pre hP4, x4 _ _ (x3 _ _ (x2 _ _ hR1.2.1)), x4 _ _ (x3 _ _ (x2 _ _ hR1.2.2.1)), x4 _ _ (x3 _ _ (x2 _ _ hR1.2.2.2.1)), hS3.fr (hRo2.pre hP3) hF4 stW_X15_feed_Le, z1⟩
    have x14 : nExt ν ν4 := x1.trans (x2.trans (x3.trans x4))
    have hA4 := hA4.reb rd
    show zE zrx zi 57 243 631 lv3 _ h4 u4 lKK
    refine seg wT_ok lC_e_ok 3000 lY3_e_608_1 (Nat.le_refl _) x14 hlen hA4 rfl rfl hH4 (by omega) (by omega) ?_
    intro x hx N5 ρ5 ν5 lv5 st5 h5 u5 x5 hA5 hH5 hF5 hP5
    rw [List.mem_singleton.mp hx] at hA5 ⊢
    clear hx x
    dsimp only at hA5 ⊢
    have b9 : (h5.length : Int) - h4.length ≤ 0 := Int.le_trans (hA5.cost (by decide +kernel)).1 (by decide +kernel)
    have c1 : (u5 : Int) - u4 ≤ 0 := Int.le_trans (hA5.cost (by decide +kernel)).2 (by decide +kernel)
    obtain ⟨j, j1, j2⟩ := l_i hA5 rfl rfl (x5 _ _ v4)
    exact l_next (g := false) ih [0, 1, 2, 3, 15, 5, 6, 7, 8, 9, 10, 11, 12, 13, 14] (by decide +kernel) (by decide +kernel) hA5 rfl hH5 rfl rfl rfl rfl j1 (x5 _ _ v7) (x5 _ _ v9) (x5 _ _ v11) (acc.dear j2 (by omega) (by omega) false (fun z => z)) (by omega) rfl rfl rfl (lR.fr ⟨hR4.1, x5 _ _ (hR.2.1), x5 _ _ (hR.2.2.1), x5 _ _ (hR.2.2.2.1), hR4.2.2.2.2⟩ hH4 hF5 hP5 (nExt.refl ν5) stW_nil rW_nil)
def lYa_e_636 : sS := ([(3, 0, 0), (3, 8, 0), (3, 40, 0), (3, 36, 0), (0, 0, 4088), (0, 8, 4096), (3, 45, 0), (0, 0, 40), (3, 48, 0), (0, 0, 24), (3, 51, 0), (0, 0, 24), (0, 0, 4088), (0, 0, 4088), (3, 1, 0)], [(0, 0), (1, 1), (2, 2), (3, 3), (4, 4)], [3, 1], [(0, 4, 5, 0, -8), (3, 0, 5, 0, 0), (2, 2, 7, 6, 0), (2, 6, 2, 7, 0), (2, 2, 8, 8, 0), (2, 8, 2, 9, 0), (2, 2, 9, 10, 0), (2, 10, 2, 11, 0), (2, 1, 1, 12, 0), (2, 2, 3, 13, 0), (0, 12, 13, 0, 0), (0, 13, 12, 0, 0), (2, 2, 10, 14, 0), (0, 12, 4, 0, 0), (0, 13, 4, 0, 0)], 0, 0, [])
def lYb_e_636 : sS := vZ (cvS zi lYa_e_636 k_L_write (cx1 k_L_write))
def lYc_e_636 : sS := ([(3, 0, 0), (3, 8, 0), (3, 40, 0), (3, 36, 0), (0, 0, 4088), (0, 8, 4096), (3, 45, 0), (0, 0, 40), (3, 48, 0), (0, 0, 24), (3, 51, 0), (0, 0, 24), (0, 0, 4088), (0, 0, 4088), (3, 1, 0), (0, 0, 1)], [(5, 15), (0, 0), (1, 1), (2, 2), (3, 3), (4, 4)], [2], [(0, 4, 5, 0, -8), (3, 0, 5, 0, 0), (2, 2, 7, 6, 0), (2, 6, 2, 7, 0), (2, 2, 8, 8, 0), (2, 8, 2, 9, 0), (2, 2, 9, 10, 0), (2, 10, 2, 11, 0), (2, 1, 1, 12, 0), (2, 2, 3, 13, 0), (0, 12, 13, 0, 0), (0, 13, 12, 0, 0), (2, 2, 10, 14, 0), (0, 12, 4, 0, 0), (0, 13, 4, 0, 0)], 0, 0, [])
theorem lY1_e_636 : chk zrx zi wT (wRo wSites_15) (wRo wTags_15) lC_e [] 0 0 15 3000 false [(638, lYa_e_636, [])] none 57 243 636 (vZ lM_e) (fun _ _ => false) = true := by decide +kernel
theorem lY2_e_636 : chk zrx zi wT (wRo wSites_15) (wRo wTags_15) lC_e [] 0 0 16 3000 false [(644, lYc_e_636, [])] none 57 243 641 lYb_e_636 (fun _ _ => false) = true := by decide +kernel
theorem lV1_e_636 : cvOk zrx zi wT 243 638 56 lYa_e_636 k_L_write = true := by decide +kernel
theorem lV2_e_636 : cvOk zrx zi wT 243 644 56 lYc_e_636 k_X15_write_Le = true := by decide +kernel
theorem lYn_e_636 : lYb_e_636.1.length = 16 := by decide +kernel
theorem lYr_e_636 : (vZ lM_e).2.2.2.1.all (fun f => !(f.1 == 7)) = true ∧ lYa_e_636.2.2.2.1.all (fun f => !(f.1 == 7)) = true ∧ (cvS zi lYa_e_636 k_L_write (cx1 k_L_write)).2.2.2.1.all (fun f => !(f.1 == 7)) = true ∧ lYc_e_636.2.2.2.1.all (fun f => !(f.1 == 7)) = true := by decide +kernel
def lYd0_e_636 : sS := vZ (cvS zi lYc_e_636 k_X15_write_Le (cxi k_X15_write_Le 0))
theorem lYd0_e_636n : lYd0_e_636.1.length = 19 ∧ (cvS zi lYc_e_636 k_X15_write_Le (cxi k_X15_write_Le 0)).2.2.2.1.all (fun f => !(f.1 == 7)) = true := by decide +kernel
theorem lY3_e_636_0 : chk zrx zi wT (wRo wSites_15) (wRo wTags_15) lC_e [] 0 0 15 3000 false [(27, lT_eze, [])] none 57 243 647 lYd0_e_636 (fun _ _ => false) = true := by decide +kernel
set_option maxRecDepth 20000 in
theorem lA_e_636 {n : Nat} (ih : lIH n) {hb ub : Nat} {N : Int} {ρ : List Nat} {ν : List Value} {lv : List (Nat × Value)} {st : List Value} {h : List zC} {u : Nat} {i R C A : Int32} {F : Int} (hA : gA hb ub ρ ν lM_e lv st h u) (hH : tHeap wT N ρ h) (v4 : ν[4]? = some (.int i)) (v7 : ν[7]? = some (.int R)) (v9 : ν[9]? = some (.int C)) (v11 : ν[11]? = some (.int A))
    (i4 : i.toInt ≤ 4096) (acc : lAcc false hb ub i.toInt R.toInt C.toInt A.toInt F) (rm1 : (ub : Int) + 17920 ≤ zSN) (rm2 : (hb : Int) + 1152 ≤ zCM) (hn : 4104 - i.toInt ≤ (n + 1 : Nat)) (hR : lR ρ ν h) : zE zrx zi 57 243 636 lv st h u lKK := by
  obtain ⟨dl1, dl2, dl3, dl4⟩ := lD_lo R.toInt C.toInt A.toInt
  obtain ⟨r0, ra, rb, rc⟩ := lYr_e_636
  have q0 : (h.length : Int) - hb ≤ 0 := hA.2.2.2.2.1
  have q1 : (u : Int) - ub ≤ 0 := hA.2.2.2.2.2
  have hlen : ν.length ≤ 15 := by
    rw [← hA.1.1]
    exact Nat.le_of_eq rfl
  refine seg wT_ok lC_e_ok 3000 lY1_e_636 (Nat.le_refl _) (nExt.refl ν) hlen (hA.reb r0) rfl rfl hH (by omega) (by omega) ?_
  intro x hx N1 ρ1 ν1 lv1 st1 h1 u1 x1 hA1 hH1 hF1 hP1
  rw [List.mem_singleton.mp hx] at hA1 ⊢
  clear hx x
  dsimp only at hA1 ⊢
  have hR1 := hR.fr hH hF1 hP1 x1 stW_nil rW_nil
  have b1 : (h1.length : Int) - h.length ≤ 0 := Int.le_trans (hA1.cost (by decide +kernel)).1 (by decide +kernel)
  have b2 : (u1 : Int) - u ≤ 0 := Int.le_trans (hA1.cost (by decide +kernel)).2 (by decide +kernel)
  have hT : gSt ν1 [3, 1] st1 := hA1.2.2.1
  obtain ⟨w0, sa0, ea0, o0, ha0⟩ := hT.inv
  subst ea0
  rw [hR1.2.2.2.1] at o0
  cases o0
  obtain ⟨w1, sa1, ea1, o1, ha1⟩ := ha0.inv
  subst ea1
  rw [hR1.2.1] at o1
  cases o1
  cases ha1.nil
  obtain ⟨T, L, fs, fa, fbd, t1, t3, fm1⟩ := hR1.2.2.2.2.2.1.1
  obtain ⟨cnt, el, c0, c2, c1, cel, h0c, h24, -⟩ := id (hR1.2.2.2.2.2.1.2.1)
  obtain ⟨dd, d1, d2, d3⟩ := id (hR1.2.2.2.2.2.2.2.2.1)
  have t2 : L ≤ 60 := fm1.l60
  refine call_val con_L_write vr_243_638 lV1_e_636 rfl rfl (hA1.reb ra) hH1 (by have : k_L_write.2.2.2.2.1 = 3 := rfl; omega) (by have : k_L_write.2.2.2.2.2.1 = 15 := rfl; omega) rfl (fun n => C_Lwrite n  h1 u1 hR1.2.2.2.2.1 h0c h24 t1 t2 t3 c0 (clause_at (hR1.2.2.2.2.2.1.2.1) c0)) ?_
  intro N2 ρ2 ν2 v h2 u2 n2 x2 hA2 hH2 hF2 hP2 V1
  obtain ⟨k, hk, V1⟩ := V1
  cases hk
  have V1 : Q_Lwrite T L cnt  h1 (.inl (some (.int k))) h2 u2 := ⟨k, rfl, V1⟩
  have b3 : (h2.length : Int) - h1.length ≤ 3 := Int.le_trans (hA2.cost (by decide +kernel)).1 (by decide +kernel)
  have b4 : (u2 : Int) - u1 ≤ 15 := Int.le_trans (hA2.cost (by decide +kernel)).2 (by decide +kernel)
  have hTk : ν2[15]? = some (.int k) := gSt_hd hA2.2.2.1 (by decide +kernel)
  have hlen2 : ν2.length ≤ 16 := by
    rw [← hA2.1.1]
    exact Nat.le_of_eq lYn_e_636
  have hS2 : Stc h2 := hR1.2.2.2.2.1.fr hR1.1 hF2 stW_L_write
  have hRo2 : Ro ρ2 := hR1.1.pre hP2
  show zE zrx zi 57 243 641 lv1 _ h2 u2 lKK
  refine seg wT_ok lC_e_ok 3000 lY2_e_636 (Nat.le_refl _) (nExt.refl ν2) hlen2 (hA2.reb rb) rfl rfl hH2 (by omega) (by omega) ?_
  intro x hx N3 ρ3 ν3 lv3 st3 h3 u3 x3 hA3 hH3 hF3 hP3
  rw [List.mem_singleton.mp hx] at hA3 ⊢
  clear hx x
  dsimp only at hA3 ⊢
  have hS3 : Stc h3 := hS2.fr hRo2 hF3 stW_nil
  have b5 : (h3.length : Int) - h2.length ≤ 0 := Int.le_trans (hA3.cost (by decide +kernel)).1 (by decide +kernel)
  have b6 : (u3 : Int) - u2 ≤ 0 := Int.le_trans (hA3.cost (by decide +kernel)).2 (by decide +kernel)
  have hE : ∀ p, p < h2.length → ∀ k, gF h3 p k = gF h2 p k := fun p hp k => gFr_F0 hF3 hH2.1 hp k
  have hT : gSt ν3 [2] st3 := hA3.2.2.1
  obtain ⟨w0, sb0, eb0, c0, hb0⟩ := hT.inv
  subst eb0
  rw [x3 _ _ (x2 _ _ hR1.2.2.1)] at c0
  cases c0
  cases hb0.nil
  have hl1 := hR1.2.2.2.2.1.1
  have hl2 := gFr_len hF2
  have hl3 := gFr_len hF3
  have ro3 : Ro ρ3 := hRo2.pre hP3
  have m2 := (hE 225 (by omega) 2).trans ((gFr_F hF2 (hR1.1 225 51 (by decide +kernel)) (by decide +kernel) (by omega)).trans c2)
  have m1 := (hE 225 (by omega) 1).trans ((gFr_F hF2 (hR1.1 225 51 (by decide +kernel)) (by decide +kernel) (by omega)).trans c1)
  obtain ⟨⟨l, l1, l2⟩, l3, l4, l5, l6, l7, l8⟩ := al_at hH3 ro3 m1 m2
  have l213 : ¬ el = 213 := by omega
  have hA7 : ∀ k, k < cnt.toNatClampNeg → ∃ A : Nat, gF h3 el k = some (.ref A) ∧ 239 ≤ A := fun k hk => by
    obtain ⟨e, e1, e2⟩ := l8 k hk
    exact ⟨e, e1, A_new ro3 e2⟩
  have fm2 := fm1.fr hR1.2.2.2.2.1.1 hR1.1 hH1 hF2 (by decide +kernel)
  have fm3 := fm2.fr hS2.1 hRo2 hH2 hF3 (by decide)
  obtain ⟨fb, sb3⟩ := fm3.sb hH3 ro3
  refine call_val con_X15_write_Le vr_243_644 lV2_e_636 rfl rfl (hA3.reb rc) hH3 (by have : k_X15_write_Le.2.2.2.2.1 = 3 := rfl; omega) (by have : k_X15_write_Le.2.2.2.2.2.1 = 16 := rfl; omega) rfl (fun n => C_mwrite n  h3 u3 hS3 sb3 fm3.2.1 fm3.2.2.2.1 fm3.2.2.2.2 m1 m2 l1 l2 l3 h0c l213) ?_
  intro N4 ρ4 ν4 v h4 u4 n4 x4 hA4 hH4 hF4 hP4 V2
  obtain ⟨nd, rd⟩ := lYd0_e_636n
  obtain ⟨r, hr⟩ : ∃ r : Int32, v = .int r := by
    first
      | (obtain ⟨r, h0, hr, -⟩ := V2; cases hr; exact ⟨r, rfl⟩)
      | (obtain ⟨r, hr, -⟩ := V2; cases hr; exact ⟨r, rfl⟩)
  subst hr
  have b7 : (h4.length : Int) - h3.length ≤ 4 := Int.le_trans (hA4.cost (by decide +kernel)).1 (by decide +kernel)
  have b8 : (u4 : Int) - u3 ≤ 30 := Int.le_trans (hA4.cost (by decide +kernel)).2 (by decide +kernel)
  have z1 := ((by
    obtain ⟨⟨y1, y5⟩, y2, y3, y4⟩ := sum_write (i := 0) hl1 hH1 hR1.1 (hR1.2.2.2.2.2.1.2.1) c0 c1 h0c h24 t2 hl2 hl3 t1 t3 fm3 V1 hE V2
    exact ⟨⟨⟨y1, y5, qHO.fr3 (hR1.2.2.2.2.2.1.2.2.1) hR1.2.2.2.2.1 hR1.1 hH1 hF2 (by decide +kernel) hS2 hRo2 hH2 hF3 hS3 (hRo2.pre hP3) hH3 hF4 (by decide +kernel), (exX_write (hR1.2.2.2.2.2.1.2.2.2) (hR1.2.2.2.2.2.1.2.1) hl1 c0 h0c V1).fr2 hS2 hRo2 hH2 hF3 hS3 (hRo2.pre hP3) hH3 hF4 (by decide +kernel)⟩, ⟨qRFu.fr3 (hR1.2.2.2.2.2.2.1.1) hR1.2.2.2.2.1 hR1.1 hH1 hF2 (by decide +kernel) hS2 hRo2 hH2 hF3 hS3 (hRo2.pre hP3) hH3 hF4 (by decide +kernel), qRCs.fr3 (hR1.2.2.2.2.2.2.1.2.1) hR1.2.2.2.2.1 hR1.1 hH1 hF2 (by decide +kernel) hS2 hRo2 hH2 hF3 hS3 (hRo2.pre hP3) hH3 hF4 (by decide +kernel), qVd.fr3 (hR1.2.2.2.2.2.2.1.2.2) hR1.2.2.2.2.1 hR1.1 hH1 hF2 (by decide +kernel) hS2 hRo2 hH2 hF3 hS3 (hRo2.pre hP3) hH3 hF4 (by decide +kernel)⟩, ⟨Rw.fr3 (hR1.2.2.2.2.2.2.2.1.1) hR1.2.2.2.2.1 hR1.1 hH1 hF2 (by decide +kernel) hS2 hRo2 hH2 hF3 hS3 (hRo2.pre hP3) hH3 hF4 (by decide +kernel), qSm.fr3T (hR1.2.2.2.2.2.2.2.1.2.1) hR1.2.2.2.2.1 hR1.1 hH1 hF2 (by decide +kernel) hS2 hRo2 hH2 hF3 hS3 (hRo2.pre hP3) hH3 hF4 (by decide +kernel), qSm.fr3Y (hR1.2.2.2.2.2.2.2.1.2.2) hR1.2.2.2.2.1 hR1.1 hH1 hF2 (by decide +kernel) hS2 hRo2 hH2 hF3 hS3 (hRo2.pre hP3) hH3 hF4 (by decide +kernel)⟩, qDz.fr3 (hR1.2.2.2.2.2.2.2.2.1) hR1.2.2.2.2.1 hR1.1 hH1 hF2 (by decide +kernel) hS2 hRo2 hH2 hF3 hS3 (hRo2.pre hP3) hH3 hF4 (by decide +kernel), qRv.fr3 (hR1.2.2.2.2.2.2.2.2.2) hR1.2.2.2.2.1 hR1.1 hH1 hF2 (by decide +kernel) hS2 hRo2 hH2 hF3 hS3 (hRo2.pre hP3) hH3 hF4 (by decide +kernel)⟩, trivial⟩ : qAll h4 ∧ True)).1
  have hR4 : lR ρ4 ν4 h4 := ⟨(hRo2.pre hP3).pre hP4, x4 _ _ (x3 _ _ (x2 _ _ hR1.2.1)), x4 _ _ (x3 _ _ (x2 _ _ hR1.2.2.1)), x4 _ _ (x3 _ _ (x2 _ _ hR1.2.2.2.1)), hS3.fr (hRo2.pre hP3) hF4 stW_X15_write_Le, z1⟩
  have x14 : nExt ν ν4 := x1.trans (x2.trans (x3.trans x4))
  have hA4 := hA4.reb rd
  show zE zrx zi 57 243 647 lv3 _ h4 u4 lKK
  refine seg wT_ok lC_e_ok 3000 lY3_e_636_0 (Nat.le_refl _) x14 hlen hA4 rfl rfl hH4 (by omega) (by omega) ?_
  intro x hx N5 ρ5 ν5 lv5 st5 h5 u5 x5 hA5 hH5 hF5 hP5
  rw [List.mem_singleton.mp hx] at hA5 ⊢
  clear hx x
  dsimp only at hA5 ⊢
  have b9 : (h5.length : Int) - h4.length ≤ 0 := Int.le_trans (hA5.cost (by decide +kernel)).1 (by decide +kernel)
  have c1 : (u5 : Int) - u4 ≤ 0 := Int.le_trans (hA5.cost (by decide +kernel)).2 (by decide +kernel)
  obtain ⟨j, j1, j2⟩ := l_i hA5 rfl rfl (x5 _ _ v4)
  exact l_next (g := false) ih [0, 1, 2, 3, 15, 5, 6, 7, 8, 9, 10, 11, 12, 13, 16] (by decide +kernel) (by decide +kernel) hA5 rfl hH5 rfl rfl rfl rfl j1 (x5 _ _ v7) (x5 _ _ v9) (x5 _ _ v11) (acc.dear j2 (by omega) (by omega) false (fun z => z)) (by omega) rfl rfl rfl (lR.fr ⟨hR4.1, x5 _ _ (hR.2.1), x5 _ _ (hR.2.2.1), x5 _ _ (hR.2.2.2.1), hR4.2.2.2.2⟩ hH4 hF5 hP5 (nExt.refl ν5) stW_nil rW_nil)
def lYa_e_652 : sS := ([(3, 0, 0), (3, 8, 0), (3, 40, 0), (3, 36, 0), (0, 0, 4088), (0, 8, 4096), (3, 45, 0), (0, 0, 40), (3, 48, 0), (0, 0, 24), (3, 51, 0), (0, 0, 24), (0, 0, 4088), (0, 0, 4088), (3, 1, 0), (0, 1, 1), (0, 1, 4089), (0, -2147483648, 2147483647)], [(0, 0), (1, 1), (2, 2), (3, 3), (4, 4)], [3, 17, 1], [(4, 0, 16, 17, 0), (0, 16, 4, 0, 1), (0, 4, 16, 0, -1), (0, 4, 5, 0, -8), (3, 0, 5, 0, 0), (2, 2, 7, 6, 0), (2, 6, 2, 7, 0), (2, 2, 8, 8, 0), (2, 8, 2, 9, 0), (2, 2, 9, 10, 0), (2, 10, 2, 11, 0), (2, 1, 1, 12, 0), (2, 2, 3, 13, 0), (0, 12, 13, 0, 0), (0, 13, 12, 0, 0), (2, 2, 10, 14, 0), (0, 12, 4, 0, 0), (0, 13, 4, 0, 0)], 0, 0, [])
def lYb_e_652 : sS := vZ (cvS zi lYa_e_652 k_L_amend (cx1 k_L_amend))
def lYc_e_652 : sS := ([(3, 0, 0), (3, 8, 0), (3, 40, 0), (3, 36, 0), (0, 0, 4088), (0, 8, 4096), (3, 45, 0), (0, 0, 40), (3, 48, 0), (0, 0, 24), (3, 51, 0), (0, 0, 24), (0, 0, 4088), (0, 0, 4088), (3, 1, 0), (0, 1, 1), (0, 1, 4089), (0, -2147483648, 2147483647), (0, 0, 2), (0, 1, 1)], [(5, 18), (0, 0), (1, 1), (2, 2), (3, 3), (4, 4)], [17, 2], [(4, 0, 16, 17, 0), (0, 16, 4, 0, 1), (0, 4, 16, 0, -1), (0, 4, 5, 0, -8), (3, 0, 5, 0, 0), (2, 2, 7, 6, 0), (2, 6, 2, 7, 0), (2, 2, 8, 8, 0), (2, 8, 2, 9, 0), (2, 2, 9, 10, 0), (2, 10, 2, 11, 0), (2, 1, 1, 12, 0), (2, 2, 3, 13, 0), (0, 12, 13, 0, 0), (0, 13, 12, 0, 0), (2, 2, 10, 14, 0), (0, 12, 4, 0, 0), (0, 13, 4, 0, 0)], 0, 0, [])
theorem lY1_e_652 : chk zrx zi wT (wRo wSites_15) (wRo wTags_15) lC_e [] 0 0 15 3000 false [(660, lYa_e_652, [])] none 57 243 652 (vZ lM_e) (fun _ _ => false) = true := by decide +kernel
theorem lY2_e_652 : chk zrx zi wT (wRo wSites_15) (wRo wTags_15) lC_e [] 0 0 19 3000 false [(672, lYc_e_652, [])] none 57 243 663 lYb_e_652 (fun _ _ => false) = true := by decide +kernel
theorem lV1_e_652 : cvOk zrx zi wT 243 660 56 lYa_e_652 k_L_amend = true := by decide +kernel
theorem lV2_e_652 : cvOk zrx zi wT 243 672 56 lYc_e_652 k_X15_amend_Le = true := by decide +kernel
theorem lYn_e_652 : lYb_e_652.1.length = 19 := by decide +kernel
theorem lYr_e_652 : (vZ lM_e).2.2.2.1.all (fun f => !(f.1 == 7)) = true ∧ lYa_e_652.2.2.2.1.all (fun f => !(f.1 == 7)) = true ∧ (cvS zi lYa_e_652 k_L_amend (cx1 k_L_amend)).2.2.2.1.all (fun f => !(f.1 == 7)) = true ∧ lYc_e_652.2.2.2.1.all (fun f => !(f.1 == 7)) = true := by decide +kernel
def lYd0_e_652 : sS := vZ (cvS zi lYc_e_652 k_X15_amend_Le (cxi k_X15_amend_Le 0))
theorem lYd0_e_652n : lYd0_e_652.1.length = 23 ∧ (cvS zi lYc_e_652 k_X15_amend_Le (cxi k_X15_amend_Le 0)).2.2.2.1.all (fun f => !(f.1 == 7)) = true := by decide +kernel
theorem lY3_e_652_0 : chk zrx zi wT (wRo wSites_15) (wRo wTags_15) lC_e [] 0 0 15 3000 false [(27, lT_eze, [])] none 57 243 675 lYd0_e_652 (fun _ _ => false) = true := by decide +kernel
set_option maxRecDepth 20000 in
theorem lA_e_652 {n : Nat} (ih : lIH n) {hb ub : Nat} {N : Int} {ρ : List Nat} {ν : List Value} {lv : List (Nat × Value)} {st : List Value} {h : List zC} {u : Nat} {i R C A : Int32} {F : Int} (hA : gA hb ub ρ ν lM_e lv st h u) (hH : tHeap wT N ρ h) (v4 : ν[4]? = some (.int i)) (v7 : ν[7]? = some (.int R)) (v9 : ν[9]? = some (.int C)) (v11 : ν[11]? = some (.int A))
    (i4 : i.toInt ≤ 4096) (acc : lAcc false hb ub i.toInt R.toInt C.toInt A.toInt F) (rm1 : (ub : Int) + 17920 ≤ zSN) (rm2 : (hb : Int) + 1152 ≤ zCM) (hn : 4104 - i.toInt ≤ (n + 1 : Nat)) (hR : lR ρ ν h) : zE zrx zi 57 243 652 lv st h u lKK := by
  obtain ⟨dl1, dl2, dl3, dl4⟩ := lD_lo R.toInt C.toInt A.toInt
  obtain ⟨r0, ra, rb, rc⟩ := lYr_e_652
  have q0 : (h.length : Int) - hb ≤ 0 := hA.2.2.2.2.1
  have q1 : (u : Int) - ub ≤ 0 := hA.2.2.2.2.2
  have hlen : ν.length ≤ 15 := by
    rw [← hA.1.1]
    exact Nat.le_of_eq rfl
  refine seg wT_ok lC_e_ok 3000 lY1_e_652 (Nat.le_refl _) (nExt.refl ν) hlen (hA.reb r0) rfl rfl hH (by omega) (by omega) ?_
  intro x hx N1 ρ1 ν1 lv1 st1 h1 u1 x1 hA1 hH1 hF1 hP1
  rw [List.mem_singleton.mp hx] at hA1 ⊢
  clear hx x
  dsimp only at hA1 ⊢
  have hR1 := hR.fr hH hF1 hP1 x1 stW_nil rW_nil
  have b1 : (h1.length : Int) - h.length ≤ 0 := Int.le_trans (hA1.cost (by decide +kernel)).1 (by decide +kernel)
  have b2 : (u1 : Int) - u ≤ 0 := Int.le_trans (hA1.cost (by decide +kernel)).2 (by decide +kernel)
  have hT : gSt ν1 [3, 17, 1] st1 := hA1.2.2.1
  obtain ⟨w0, sa0, ea0, o0, ha0⟩ := hT.inv
  subst ea0
  rw [hR1.2.2.2.1] at o0
  cases o0
  obtain ⟨w1, sa1, ea1, o1, ha1⟩ := ha0.inv
  subst ea1
  obtain ⟨p17, rfl, -⟩ := hA1.int o1 rfl
  obtain ⟨w2, sa2, ea2, o2, ha2⟩ := ha1.inv
  subst ea2
  rw [hR1.2.1] at o2
  cases o2
  cases ha2.nil
  obtain ⟨T, L, fs, fa, fbd, t1, t3, fm1⟩ := hR1.2.2.2.2.2.1.1
  obtain ⟨cnt, el, c0, c2, c1, cel, h0c, h24, -⟩ := id (hR1.2.2.2.2.2.1.2.1)
  obtain ⟨dd, d1, d2, d3⟩ := id (hR1.2.2.2.2.2.2.2.2.1)
  have t2 : L ≤ 60 := fm1.l60
  refine call_val con_L_amend vr_243_660 lV1_e_652 rfl rfl (hA1.reb ra) hH1 (by have : k_L_amend.2.2.2.2.1 = 3 := rfl; omega) (by have : k_L_amend.2.2.2.2.2.1 = 15 := rfl; omega) rfl (fun n => C_Lamend n p17 h1 u1 hR1.2.2.2.2.1 h0c h24 t1 t2 t3 c0 (clause_at (hR1.2.2.2.2.2.1.2.1) c0)) ?_
  intro N2 ρ2 ν2 v h2 u2 n2 x2 hA2 hH2 hF2 hP2 V1
  obtain ⟨k, hk, V1⟩ := V1
  cases hk
  have V1 : Q_Lamend T L cnt p17 h1 (.inl (some (.int k))) h2 u2 := ⟨k, rfl, V1⟩
  have b3 : (h2.length : Int) - h1.length ≤ 3 := Int.le_trans (hA2.cost (by decide +kernel)).1 (by decide +kernel)
  have b4 : (u2 : Int) - u1 ≤ 15 := Int.le_trans (hA2.cost (by decide +kernel)).2 (by decide +kernel)
  have hTk : ν2[18]? = some (.int k) := gSt_hd hA2.2.2.1 (by decide +kernel)
  have hlen2 : ν2.length ≤ 19 := by
    rw [← hA2.1.1]
    exact Nat.le_of_eq lYn_e_652
  have hS2 : Stc h2 := hR1.2.2.2.2.1.fr hR1.1 hF2 stW_L_amend
  have hRo2 : Ro ρ2 := hR1.1.pre hP2
  show zE zrx zi 57 243 663 lv1 _ h2 u2 lKK
  refine seg wT_ok lC_e_ok 3000 lY2_e_652 (Nat.le_refl _) (nExt.refl ν2) hlen2 (hA2.reb rb) rfl rfl hH2 (by omega) (by omega) ?_
  intro x hx N3 ρ3 ν3 lv3 st3 h3 u3 x3 hA3 hH3 hF3 hP3
  rw [List.mem_singleton.mp hx] at hA3 ⊢
  clear hx x
  dsimp only at hA3 ⊢
  have hS3 : Stc h3 := hS2.fr hRo2 hF3 stW_nil
  have b5 : (h3.length : Int) - h2.length ≤ 0 := Int.le_trans (hA3.cost (by decide +kernel)).1 (by decide +kernel)
  have b6 : (u3 : Int) - u2 ≤ 0 := Int.le_trans (hA3.cost (by decide +kernel)).2 (by decide +kernel)
  have hE : ∀ p, p < h2.length → ∀ k, gF h3 p k = gF h2 p k := fun p hp k => gFr_F0 hF3 hH2.1 hp k
  have hT : gSt ν3 [17, 2] st3 := hA3.2.2.1
  obtain ⟨w0, sb0, eb0, c0, hb0⟩ := hT.inv
  subst eb0
  rw [x3 _ _ (x2 _ _ o1)] at c0
  cases c0
  obtain ⟨w1, sb1, eb1, c1, hb1⟩ := hb0.inv
  subst eb1
  rw [x3 _ _ (x2 _ _ hR1.2.2.1)] at c1
  cases c1
  cases hb1.nil
  have hl1 := hR1.2.2.2.2.1.1
  have hl2 := gFr_len hF2
  have hl3 := gFr_len hF3
  have ro3 : Ro ρ3 := hRo2.pre hP3
  have m2 := (hE 225 (by omega) 2).trans ((gFr_F hF2 (hR1.1 225 51 (by decide +kernel)) (by decide +kernel) (by omega)).trans c2)
  have m1 := (hE 225 (by omega) 1).trans ((gFr_F hF2 (hR1.1 225 51 (by decide +kernel)) (by decide +kernel) (by omega)).trans c1)
  obtain ⟨⟨l, l1, l2⟩, l3, l4, l5, l6, l7, l8⟩ := al_at hH3 ro3 m1 m2
  have l213 : ¬ el = 213 := by omega
  have hA7 : ∀ k, k < cnt.toNatClampNeg → ∃ A : Nat, gF h3 el k = some (.ref A) ∧ 239 ≤ A := fun k hk => by
    obtain ⟨e, e1, e2⟩ := l8 k hk
    exact ⟨e, e1, A_new ro3 e2⟩
  have fm2 := fm1.fr hR1.2.2.2.2.1.1 hR1.1 hH1 hF2 (by decide +kernel)
  have fm3 := fm2.fr hS2.1 hRo2 hH2 hF3 (by decide)
  obtain ⟨fb, sb3⟩ := fm3.sb hH3 ro3
  refine call_val con_X15_amend_Le vr_243_672 lV2_e_652 rfl rfl (hA3.reb rc) hH3 (by have : k_X15_amend_Le.2.2.2.2.1 = 3 := rfl; omega) (by have : k_X15_amend_Le.2.2.2.2.2.1 = 16 := rfl; omega) rfl (fun n => C_mamend n p17 h3 u3 hS3 sb3 fm3.2.1 fm3.2.2.2.1 fm3.2.2.2.2 m1 m2 l1 l2 l3 h0c l213 hA7) ?_
  intro N4 ρ4 ν4 v h4 u4 n4 x4 hA4 hH4 hF4 hP4 V2
  obtain ⟨nd, rd⟩ := lYd0_e_652n
  obtain ⟨r, hr⟩ : ∃ r : Int32, v = .int r := by
    first
      | (obtain ⟨r, h0, hr, -⟩ := V2; cases hr; exact ⟨r, rfl⟩)
      | (obtain ⟨r, hr, -⟩ := V2; cases hr; exact ⟨r, rfl⟩)
  subst hr
  have b7 : (h4.length : Int) - h3.length ≤ 4 := Int.le_trans (hA4.cost (by decide +kernel)).1 (by decide +kernel)
  have b8 : (u4 : Int) - u3 ≤ 30 := Int.le_trans (hA4.cost (by decide +kernel)).2 (by decide +kernel)
  have z1 := ((by
    obtain ⟨⟨y1, y5⟩, y2, y3, y4⟩ := sum_amend (i := 0) hl1 hH1 hR1.1 (hR1.2.2.2.2.2.1.2.1) c0 c1 h0c h24 t2 hl2 hl3 t1 t3 fm3 V1 hE V2
    exact ⟨⟨⟨y1, y5, qHO.fr3 (hR1.2.2.2.2.2.1.2.2.1) hR1.2.2.2.2.1 hR1.1 hH1 hF2 (by decide +kernel) hS2 hRo2 hH2 hF3 hS3 (hRo2.pre hP3) hH3 hF4 (by decide +kernel), (exX_amend (hR1.2.2.2.2.2.1.2.2.2) hl1 c0 h24 h0c V1).fr2 hS2 hRo2 hH2 hF3 hS3 (hRo2.pre hP3) hH3 hF4 (by decide +kernel)⟩, ⟨qRFu.fr3 (hR1.2.2.2.2.2.2.1.1) hR1.2.2.2.2.1 hR1.1 hH1 hF2 (by decide +kernel) hS2 hRo2 hH2 hF3 hS3 (hRo2.pre hP3) hH3 hF4 (by decide +kernel), qRCs.fr3 (hR1.2.2.2.2.2.2.1.2.1) hR1.2.2.2.2.1 hR1.1 hH1 hF2 (by decide +kernel) hS2 hRo2 hH2 hF3 hS3 (hRo2.pre hP3) hH3 hF4 (by decide +kernel), qVd.fr3 (hR1.2.2.2.2.2.2.1.2.2) hR1.2.2.2.2.1 hR1.1 hH1 hF2 (by decide +kernel) hS2 hRo2 hH2 hF3 hS3 (hRo2.pre hP3) hH3 hF4 (by decide +kernel)⟩, ⟨Rw.fr3 (hR1.2.2.2.2.2.2.2.1.1) hR1.2.2.2.2.1 hR1.1 hH1 hF2 (by decide +kernel) hS2 hRo2 hH2 hF3 hS3 (hRo2.pre hP3) hH3 hF4 (by decide +kernel), qSm.fr3T (hR1.2.2.2.2.2.2.2.1.2.1) hR1.2.2.2.2.1 hR1.1 hH1 hF2 (by decide +kernel) hS2 hRo2 hH2 hF3 hS3 (hRo2.pre hP3) hH3 hF4 (by decide +kernel), qSm.fr3Y (hR1.2.2.2.2.2.2.2.1.2.2) hR1.2.2.2.2.1 hR1.1 hH1 hF2 (by decide +kernel) hS2 hRo2 hH2 hF3 hS3 (hRo2.pre hP3) hH3 hF4 (by decide +kernel)⟩, qDz.fr3 (hR1.2.2.2.2.2.2.2.2.1) hR1.2.2.2.2.1 hR1.1 hH1 hF2 (by decide +kernel) hS2 hRo2 hH2 hF3 hS3 (hRo2.pre hP3) hH3 hF4 (by decide +kernel), qRv.fr3 (hR1.2.2.2.2.2.2.2.2.2) hR1.2.2.2.2.1 hR1.1 hH1 hF2 (by decide +kernel) hS2 hRo2 hH2 hF3 hS3 (hRo2.pre hP3) hH3 hF4 (by decide +kernel)⟩, trivial⟩ : qAll h4 ∧ True)).1
  have hR4 : lR ρ4 ν4 h4 := ⟨(hRo2.pre hP3).pre hP4, x4 _ _ (x3 _ _ (x2 _ _ hR1.2.1)), x4 _ _ (x3 _ _ (x2 _ _ hR1.2.2.1)), x4 _ _ (x3 _ _ (x2 _ _ hR1.2.2.2.1)), hS3.fr (hRo2.pre hP3) hF4 stW_X15_amend_Le, z1⟩
  have x14 : nExt ν ν4 := x1.trans (x2.trans (x3.trans x4))
  have hA4 := hA4.reb rd
  show zE zrx zi 57 243 675 lv3 _ h4 u4 lKK
  refine seg wT_ok lC_e_ok 3000 lY3_e_652_0 (Nat.le_refl _) x14 hlen hA4 rfl rfl hH4 (by omega) (by omega) ?_
  intro x hx N5 ρ5 ν5 lv5 st5 h5 u5 x5 hA5 hH5 hF5 hP5
  rw [List.mem_singleton.mp hx] at hA5 ⊢
  clear hx x
  dsimp only at hA5 ⊢
  have b9 : (h5.length : Int) - h4.length ≤ 0 := Int.le_trans (hA5.cost (by decide +kernel)).1 (by decide +kernel)
  have c1 : (u5 : Int) - u4 ≤ 0 := Int.le_trans (hA5.cost (by decide +kernel)).2 (by decide +kernel)
  obtain ⟨j, j1, j2⟩ := l_i hA5 rfl rfl (x5 _ _ v4)
  exact l_next (g := false) ih [0, 1, 2, 3, 15, 5, 6, 7, 8, 9, 10, 11, 12, 13, 16] (by decide +kernel) (by decide +kernel) hA5 rfl hH5 rfl rfl rfl rfl j1 (x5 _ _ v7) (x5 _ _ v9) (x5 _ _ v11) (acc.dear j2 (by omega) (by omega) false (fun z => z)) (by omega) rfl rfl rfl (lR.fr ⟨hR4.1, x5 _ _ (hR.2.1), x5 _ _ (hR.2.2.1), x5 _ _ (hR.2.2.2.1), hR4.2.2.2.2⟩ hH4 hF5 hP5 (nExt.refl ν5) stW_nil rW_nil)
def lYa_e_680 : sS := ([(3, 0, 0), (3, 8, 0), (3, 40, 0), (3, 36, 0), (0, 0, 4088), (0, 8, 4096), (3, 45, 0), (0, 0, 40), (3, 48, 0), (0, 0, 24), (3, 51, 0), (0, 0, 24), (0, 0, 4088), (0, 0, 4088), (3, 1, 0), (0, 1, 1), (0, 1, 4089), (0, -2147483648, 2147483647), (0, 2, 2), (0, 2, 4090), (0, -2147483648, 2147483647), (0, 3, 3), (0, 3, 4091), (0, -2147483648, 2147483647)], [(0, 0), (1, 1), (2, 2), (3, 3), (4, 4)], [3, 23, 20, 17, 1], [(4, 0, 22, 23, 0), (0, 22, 4, 0, 3), (0, 4, 22, 0, -3), (4, 0, 19, 20, 0), (0, 19, 4, 0, 2), (0, 4, 19, 0, -2), (4, 0, 16, 17, 0), (0, 16, 4, 0, 1), (0, 4, 16, 0, -1), (0, 4, 5, 0, -8), (3, 0, 5, 0, 0), (2, 2, 7, 6, 0), (2, 6, 2, 7, 0), (2, 2, 8, 8, 0), (2, 8, 2, 9, 0), (2, 2, 9, 10, 0), (2, 10, 2, 11, 0), (2, 1, 1, 12, 0), (2, 2, 3, 13, 0), (0, 12, 13, 0, 0), (0, 13, 12, 0, 0), (2, 2, 10, 14, 0), (0, 12, 4, 0, 0), (0, 13, 4, 0, 0)], 0, 0, [])
def lYb_e_680 : sS := vZ (cvS zi lYa_e_680 k_L_seats (cx1 k_L_seats))
def lYc_e_680 : sS := ([(3, 0, 0), (3, 8, 0), (3, 40, 0), (3, 36, 0), (0, 0, 4088), (0, 8, 4096), (3, 45, 0), (0, 0, 40), (3, 48, 0), (0, 0, 24), (3, 51, 0), (0, 0, 24), (0, 0, 4088), (0, 0, 4088), (3, 1, 0), (0, 1, 1), (0, 1, 4089), (0, -2147483648, 2147483647), (0, 2, 2), (0, 2, 4090), (0, -2147483648, 2147483647), (0, 3, 3), (0, 3, 4091), (0, -2147483648, 2147483647), (0, 0, 2), (0, 1, 1), (0, 2, 2), (0, 3, 3)], [(5, 24), (0, 0), (1, 1), (2, 2), (3, 3), (4, 4)], [23, 20, 17, 2], [(4, 0, 22, 23, 0), (0, 22, 4, 0, 3), (0, 4, 22, 0, -3), (4, 0, 19, 20, 0), (0, 19, 4, 0, 2), (0, 4, 19, 0, -2), (4, 0, 16, 17, 0), (0, 16, 4, 0, 1), (0, 4, 16, 0, -1), (0, 4, 5, 0, -8), (3, 0, 5, 0, 0), (2, 2, 7, 6, 0), (2, 6, 2, 7, 0), (2, 2, 8, 8, 0), (2, 8, 2, 9, 0), (2, 2, 9, 10, 0), (2, 10, 2, 11, 0), (2, 1, 1, 12, 0), (2, 2, 3, 13, 0), (0, 12, 13, 0, 0), (0, 13, 12, 0, 0), (2, 2, 10, 14, 0), (0, 12, 4, 0, 0), (0, 13, 4, 0, 0)], 0, 0, [])
theorem lY1_e_680 : chk zrx zi wT (wRo wSites_15) (wRo wTags_15) lC_e [] 0 0 15 3000 false [(700, lYa_e_680, [])] none 57 243 680 (vZ lM_e) (fun _ _ => false) = true := by decide +kernel
theorem lY2_e_680 : chk zrx zi wT (wRo wSites_15) (wRo wTags_15) lC_e [] 0 0 25 3000 false [(724, lYc_e_680, [])] none 57 243 703 lYb_e_680 (fun _ _ => false) = true := by decide +kernel
theorem lV1_e_680 : cvOk zrx zi wT 243 700 56 lYa_e_680 k_L_seats = true := by decide +kernel
theorem lV2_e_680 : cvOk zrx zi wT 243 724 56 lYc_e_680 k_X15_seats = true := by decide +kernel
theorem lYn_e_680 : lYb_e_680.1.length = 25 := by decide +kernel
theorem lYr_e_680 : (vZ lM_e).2.2.2.1.all (fun f => !(f.1 == 7)) = true ∧ lYa_e_680.2.2.2.1.all (fun f => !(f.1 == 7)) = true ∧ (cvS zi lYa_e_680 k_L_seats (cx1 k_L_seats)).2.2.2.1.all (fun f => !(f.1 == 7)) = true ∧ lYc_e_680.2.2.2.1.all (fun f => !(f.1 == 7)) = true := by decide +kernel
def lYd0_e_680 : sS := vZ (cvS zi lYc_e_680 k_X15_seats (cxi k_X15_seats 0))
theorem lYd0_e_680n : lYd0_e_680.1.length = 29 ∧ (cvS zi lYc_e_680 k_X15_seats (cxi k_X15_seats 0)).2.2.2.1.all (fun f => !(f.1 == 7)) = true := by decide +kernel
theorem lY3_e_680_0 : chk zrx zi wT (wRo wSites_15) (wRo wTags_15) lC_e [] 0 0 15 3000 false [(27, lT_eza, [])] none 57 243 727 lYd0_e_680 (fun _ _ => false) = true := by decide +kernel
set_option maxRecDepth 20000 in
theorem lA_e_680 {n : Nat} (ih : lIH n) {hb ub : Nat} {N : Int} {ρ : List Nat} {ν : List Value} {lv : List (Nat × Value)} {st : List Value} {h : List zC} {u : Nat} {i R C A : Int32} {F : Int} (hA : gA hb ub ρ ν lM_e lv st h u) (hH : tHeap wT N ρ h) (v4 : ν[4]? = some (.int i)) (v7 : ν[7]? = some (.int R)) (v9 : ν[9]? = some (.int C)) (v11 : ν[11]? = some (.int A))
    (i4 : i.toInt ≤ 4096) (acc : lAcc false hb ub i.toInt R.toInt C.toInt A.toInt F) (rm1 : (ub : Int) + 17920 ≤ zSN) (rm2 : (hb : Int) + 1152 ≤ zCM) (hn : 4104 - i.toInt ≤ (n + 1 : Nat)) (hR : lR ρ ν h) : zE zrx zi 57 243 680 lv st h u lKK := by
  obtain ⟨dl1, dl2, dl3, dl4⟩ := lD_lo R.toInt C.toInt A.toInt
  obtain ⟨r0, ra, rb, rc⟩ := lYr_e_680
  have q0 : (h.length : Int) - hb ≤ 0 := hA.2.2.2.2.1
  have q1 : (u : Int) - ub ≤ 0 := hA.2.2.2.2.2
  have hlen : ν.length ≤ 15 := by
    rw [← hA.1.1]
    exact Nat.le_of_eq rfl
  refine seg wT_ok lC_e_ok 3000 lY1_e_680 (Nat.le_refl _) (nExt.refl ν) hlen (hA.reb r0) rfl rfl hH (by omega) (by omega) ?_
  intro x hx N1 ρ1 ν1 lv1 st1 h1 u1 x1 hA1 hH1 hF1 hP1
  rw [List.mem_singleton.mp hx] at hA1 ⊢
  clear hx x
  dsimp only at hA1 ⊢
  have hR1 := hR.fr hH hF1 hP1 x1 stW_nil rW_nil
  have b1 : (h1.length : Int) - h.length ≤ 0 := Int.le_trans (hA1.cost (by decide +kernel)).1 (by decide +kernel)
  have b2 : (u1 : Int) - u ≤ 0 := Int.le_trans (hA1.cost (by decide +kernel)).2 (by decide +kernel)
  have hT : gSt ν1 [3, 23, 20, 17, 1] st1 := hA1.2.2.1
  obtain ⟨w0, sa0, ea0, o0, ha0⟩ := hT.inv
  subst ea0
  rw [hR1.2.2.2.1] at o0
  cases o0
  obtain ⟨w1, sa1, ea1, o1, ha1⟩ := ha0.inv
  subst ea1
  obtain ⟨p23, rfl, -⟩ := hA1.int o1 rfl
  obtain ⟨w2, sa2, ea2, o2, ha2⟩ := ha1.inv
  subst ea2
  obtain ⟨p20, rfl, -⟩ := hA1.int o2 rfl
  obtain ⟨w3, sa3, ea3, o3, ha3⟩ := ha2.inv
  subst ea3
  obtain ⟨p17, rfl, -⟩ := hA1.int o3 rfl
  obtain ⟨w4, sa4, ea4, o4, ha4⟩ := ha3.inv
  subst ea4
  rw [hR1.2.1] at o4
  cases o4
  cases ha4.nil
  refine call_val con_L_seats vr_243_700 lV1_e_680 rfl rfl (hA1.reb ra) hH1 (by have : k_L_seats.2.2.2.2.1 = 1 := rfl; omega) (by have : k_L_seats.2.2.2.2.2.1 = 6 := rfl; omega) rfl (fun n => C_Lseats n p17 p20 p23 h1 u1 hR1.2.2.2.2.1) ?_
  intro N2 ρ2 ν2 v h2 u2 n2 x2 hA2 hH2 hF2 hP2 V1
  obtain ⟨k, hk, V1⟩ := V1
  cases hk
  have V1 : Q_Lseats p17 p20 p23 h1 (.inl (some (.int k))) h2 u2 := ⟨k, rfl, V1⟩
  have b3 : (h2.length : Int) - h1.length ≤ 1 := Int.le_trans (hA2.cost (by decide +kernel)).1 (by decide +kernel)
  have b4 : (u2 : Int) - u1 ≤ 6 := Int.le_trans (hA2.cost (by decide +kernel)).2 (by decide +kernel)
  have hTk : ν2[24]? = some (.int k) := gSt_hd hA2.2.2.1 (by decide +kernel)
  have hlen2 : ν2.length ≤ 25 := by
    rw [← hA2.1.1]
    exact Nat.le_of_eq lYn_e_680
  have hS2 : Stc h2 := hR1.2.2.2.2.1.fr hR1.1 hF2 stW_L_seats
  have hRo2 : Ro ρ2 := hR1.1.pre hP2
  show zE zrx zi 57 243 703 lv1 _ h2 u2 lKK
  refine seg wT_ok lC_e_ok 3000 lY2_e_680 (Nat.le_refl _) (nExt.refl ν2) hlen2 (hA2.reb rb) rfl rfl hH2 (by omega) (by omega) ?_
  intro x hx N3 ρ3 ν3 lv3 st3 h3 u3 x3 hA3 hH3 hF3 hP3
  rw [List.mem_singleton.mp hx] at hA3 ⊢
  clear hx x
  dsimp only at hA3 ⊢
  have hS3 : Stc h3 := hS2.fr hRo2 hF3 stW_nil
  have b5 : (h3.length : Int) - h2.length ≤ 0 := Int.le_trans (hA3.cost (by decide +kernel)).1 (by decide +kernel)
  have b6 : (u3 : Int) - u2 ≤ 0 := Int.le_trans (hA3.cost (by decide +kernel)).2 (by decide +kernel)
  have hE : ∀ p, p < h2.length → ∀ k, gF h3 p k = gF h2 p k := fun p hp k => gFr_F0 hF3 hH2.1 hp k
  have hT : gSt ν3 [23, 20, 17, 2] st3 := hA3.2.2.1
  obtain ⟨w0, sb0, eb0, c0, hb0⟩ := hT.inv
  subst eb0
  rw [x3 _ _ (x2 _ _ o1)] at c0
  cases c0
  obtain ⟨w1, sb1, eb1, c1, hb1⟩ := hb0.inv
  subst eb1
  rw [x3 _ _ (x2 _ _ o2)] at c1
  cases c1
  obtain ⟨w2, sb2, eb2, c2, hb2⟩ := hb1.inv
  subst eb2
  rw [x3 _ _ (x2 _ _ o3)] at c2
  cases c2
  obtain ⟨w3, sb3, eb3, c3, hb3⟩ := hb2.inv
  subst eb3
  rw [x3 _ _ (x2 _ _ hR1.2.2.1)] at c3
  cases c3
  cases hb3.nil
  have hl1 := hR1.2.2.2.2.1.1
  have hl2 := gFr_len hF2
  have hl3 := gFr_len hF3
  have ro3 : Ro ρ3 := hRo2.pre hP3
  refine call_val con_X15_seats vr_243_724 lV2_e_680 rfl rfl (hA3.reb rc) hH3 (by have : k_X15_seats.2.2.2.2.1 = 0 := rfl; omega) (by have : k_X15_seats.2.2.2.2.2.1 = 0 := rfl; omega) rfl (fun n => C_mseats n p17 p20 p23 h3 u3 hS3) ?_
  intro N4 ρ4 ν4 v h4 u4 n4 x4 hA4 hH4 hF4 hP4 V2
  obtain ⟨nd, rd⟩ := lYd0_e_680n
  obtain ⟨r, hr⟩ : ∃ r : Int32, v = .int r := by
    first
      | (obtain ⟨r, h0, hr, -⟩ := V2; cases hr; exact ⟨r, rfl⟩)
      | (obtain ⟨r, hr, -⟩ := V2; cases hr; exact ⟨r, rfl⟩)
  subst hr
  have b7 : (h4.length : Int) - h3.length ≤ 0 := Int.le_trans (hA4.cost (by decide +kernel)).1 (by decide +kernel)
  have b8 : (u4 : Int) - u3 ≤ 0 := Int.le_trans (hA4.cost (by decide +kernel)).2 (by decide +kernel)
  have z1 := ((by
    obtain ⟨y1, y2, y3, y4⟩ := sum_seats (hR1.2.2.2.2.2.1.2.2.1) hl1 hl2 V1 hE V2
    exact ⟨⟨⟨qFed.fr3 (hR1.2.2.2.2.2.1.1) hR1.2.2.2.2.1 hR1.1 hH1 hF2 (by decide +kernel) hS2 hRo2 hH2 hF3 hS3 (hRo2.pre hP3) hH3 hF4 (by decide +kernel), qAR.fr3 (hR1.2.2.2.2.2.1.2.1) hR1.2.2.2.2.1 hR1.1 hH1 hF2 (by decide +kernel) hS2 hRo2 hH2 hF3 hS3 (hRo2.pre hP3) hH3 hF4 (by decide +kernel), y1, qEX.fr3 (hR1.2.2.2.2.2.1.2.2.2) hR1.2.2.2.2.1 hR1.1 hH1 hF2 (by decide +kernel) hS2 hRo2 hH2 hF3 hS3 (hRo2.pre hP3) hH3 hF4 (by decide +kernel)⟩, ⟨qRFu.fr3 (hR1.2.2.2.2.2.2.1.1) hR1.2.2.2.2.1 hR1.1 hH1 hF2 (by decide +kernel) hS2 hRo2 hH2 hF3 hS3 (hRo2.pre hP3) hH3 hF4 (by decide +kernel), qRCs.fr3 (hR1.2.2.2.2.2.2.1.2.1) hR1.2.2.2.2.1 hR1.1 hH1 hF2 (by decide +kernel) hS2 hRo2 hH2 hF3 hS3 (hRo2.pre hP3) hH3 hF4 (by decide +kernel), qVd.fr3 (hR1.2.2.2.2.2.2.1.2.2) hR1.2.2.2.2.1 hR1.1 hH1 hF2 (by decide +kernel) hS2 hRo2 hH2 hF3 hS3 (hRo2.pre hP3) hH3 hF4 (by decide +kernel)⟩, ⟨Rw.fr3 (hR1.2.2.2.2.2.2.2.1.1) hR1.2.2.2.2.1 hR1.1 hH1 hF2 (by decide +kernel) hS2 hRo2 hH2 hF3 hS3 (hRo2.pre hP3) hH3 hF4 (by decide +kernel), qSm.fr3T (hR1.2.2.2.2.2.2.2.1.2.1) hR1.2.2.2.2.1 hR1.1 hH1 hF2 (by decide +kernel) hS2 hRo2 hH2 hF3 hS3 (hRo2.pre hP3) hH3 hF4 (by decide +kernel), qSm.fr3Y (hR1.2.2.2.2.2.2.2.1.2.2) hR1.2.2.2.2.1 hR1.1 hH1 hF2 (by decide +kernel) hS2 hRo2 hH2 hF3 hS3 (hRo2.pre hP3) hH3 hF4 (by decide +kernel)⟩, qDz.fr3 (hR1.2.2.2.2.2.2.2.2.1) hR1.2.2.2.2.1 hR1.1 hH1 hF2 (by decide +kernel) hS2 hRo2 hH2 hF3 hS3 (hRo2.pre hP3) hH3 hF4 (by decide +kernel), qRv.fr3 (hR1.2.2.2.2.2.2.2.2.2) hR1.2.2.2.2.1 hR1.1 hH1 hF2 (by decide +kernel) hS2 hRo2 hH2 hF3 hS3 (hRo2.pre hP3) hH3 hF4 (by decide +kernel)⟩, trivial⟩ : qAll h4 ∧ True)).1
  have hR4 : lR ρ4 ν4 h4 := ⟨(hRo2.pre hP3).pre hP4, x4 _ _ (x3 _ _ (x2 _ _ hR1.2.1)), x4 _ _ (x3 _ _ (x2 _ _ hR1.2.2.1)), x4 _ _ (x3 _ _ (x2 _ _ hR1.2.2.2.1)), hS3.fr (hRo2.pre hP3) hF4 stW_X15_seats, z1⟩
  have x14 : nExt ν ν4 := x1.trans (x2.trans (x3.trans x4))
  have hA4 := hA4.reb rd
  show zE zrx zi 57 243 727 lv3 _ h4 u4 lKK
  refine seg wT_ok lC_e_ok 3000 lY3_e_680_0 (Nat.le_refl _) x14 hlen hA4 rfl rfl hH4 (by omega) (by omega) ?_
  intro x hx N5 ρ5 ν5 lv5 st5 h5 u5 x5 hA5 hH5 hF5 hP5
  rw [List.mem_singleton.mp hx] at hA5 ⊢
  clear hx x
  dsimp only at hA5 ⊢
  have b9 : (h5.length : Int) - h4.length ≤ 0 := Int.le_trans (hA5.cost (by decide +kernel)).1 (by decide +kernel)
  have c1 : (u5 : Int) - u4 ≤ 0 := Int.le_trans (hA5.cost (by decide +kernel)).2 (by decide +kernel)
  obtain ⟨j, j1, j2⟩ := l_i hA5 rfl rfl (x5 _ _ v4)
  exact l_next (g := false) ih [0, 1, 2, 3, 15, 5, 6, 7, 8, 9, 10, 11, 12, 13, 14] (by decide +kernel) (by decide +kernel) hA5 rfl hH5 rfl rfl rfl rfl j1 (x5 _ _ v7) (x5 _ _ v9) (x5 _ _ v11) (acc.dear j2 (by omega) (by omega) false (fun z => z)) (by omega) rfl rfl rfl (lR.fr ⟨hR4.1, x5 _ _ (hR.2.1), x5 _ _ (hR.2.2.1), x5 _ _ (hR.2.2.2.1), hR4.2.2.2.2⟩ hH4 hF5 hP5 (nExt.refl ν5) stW_nil rW_nil)
def lYa_e_732 : sS := ([(3, 0, 0), (3, 8, 0), (3, 40, 0), (3, 36, 0), (0, 0, 4088), (0, 8, 4096), (3, 45, 0), (0, 0, 40), (3, 48, 0), (0, 0, 24), (3, 51, 0), (0, 0, 24), (0, 0, 4088), (0, 0, 4088), (3, 1, 0), (0, 1, 1), (0, 1, 4089), (0, -2147483648, 2147483647), (0, 2, 2), (0, 2, 4090), (0, -2147483648, 2147483647), (0, 3, 3), (0, 3, 4091), (0, -2147483648, 2147483647)], [(0, 0), (1, 1), (2, 2), (3, 3), (4, 4)], [3, 23, 20, 17, 1], [(4, 0, 22, 23, 0), (0, 22, 4, 0, 3), (0, 4, 22, 0, -3), (4, 0, 19, 20, 0), (0, 19, 4, 0, 2), (0, 4, 19, 0, -2), (4, 0, 16, 17, 0), (0, 16, 4, 0, 1), (0, 4, 16, 0, -1), (0, 4, 5, 0, -8), (3, 0, 5, 0, 0), (2, 2, 7, 6, 0), (2, 6, 2, 7, 0), (2, 2, 8, 8, 0), (2, 8, 2, 9, 0), (2, 2, 9, 10, 0), (2, 10, 2, 11, 0), (2, 1, 1, 12, 0), (2, 2, 3, 13, 0), (0, 12, 13, 0, 0), (0, 13, 12, 0, 0), (2, 2, 10, 14, 0), (0, 12, 4, 0, 0), (0, 13, 4, 0, 0)], 0, 0, [])
def lYb_e_732 : sS := vZ (cvS zi lYa_e_732 k_L_mood (cx1 k_L_mood))
def lYc_e_732 : sS := ([(3, 0, 0), (3, 8, 0), (3, 40, 0), (3, 36, 0), (0, 0, 4088), (0, 8, 4096), (3, 45, 0), (0, 0, 40), (3, 48, 0), (0, 0, 24), (3, 51, 0), (0, 0, 24), (0, 0, 4088), (0, 0, 4088), (3, 1, 0), (0, 1, 1), (0, 1, 4089), (0, -2147483648, 2147483647), (0, 2, 2), (0, 2, 4090), (0, -2147483648, 2147483647), (0, 3, 3), (0, 3, 4091), (0, -2147483648, 2147483647), (0, 0, 2), (0, 1, 1), (0, 2, 2), (0, 3, 3)], [(5, 24), (0, 0), (1, 1), (2, 2), (3, 3), (4, 4)], [23, 20, 17, 2], [(4, 0, 22, 23, 0), (0, 22, 4, 0, 3), (0, 4, 22, 0, -3), (4, 0, 19, 20, 0), (0, 19, 4, 0, 2), (0, 4, 19, 0, -2), (4, 0, 16, 17, 0), (0, 16, 4, 0, 1), (0, 4, 16, 0, -1), (0, 4, 5, 0, -8), (3, 0, 5, 0, 0), (2, 2, 7, 6, 0), (2, 6, 2, 7, 0), (2, 2, 8, 8, 0), (2, 8, 2, 9, 0), (2, 2, 9, 10, 0), (2, 10, 2, 11, 0), (2, 1, 1, 12, 0), (2, 2, 3, 13, 0), (0, 12, 13, 0, 0), (0, 13, 12, 0, 0), (2, 2, 10, 14, 0), (0, 12, 4, 0, 0), (0, 13, 4, 0, 0)], 0, 0, [])
theorem lY1_e_732 : chk zrx zi wT (wRo wSites_15) (wRo wTags_15) lC_e [] 0 0 15 3000 false [(752, lYa_e_732, [])] none 57 243 732 (vZ lM_e) (fun _ _ => false) = true := by decide +kernel
theorem lY2_e_732 : chk zrx zi wT (wRo wSites_15) (wRo wTags_15) lC_e [] 0 0 25 3000 false [(776, lYc_e_732, [])] none 57 243 755 lYb_e_732 (fun _ _ => false) = true := by decide +kernel
theorem lV1_e_732 : cvOk zrx zi wT 243 752 56 lYa_e_732 k_L_mood = true := by decide +kernel
theorem lV2_e_732 : cvOk zrx zi wT 243 776 56 lYc_e_732 k_X15_mood = true := by decide +kernel
theorem lYn_e_732 : lYb_e_732.1.length = 25 := by decide +kernel
theorem lYr_e_732 : (vZ lM_e).2.2.2.1.all (fun f => !(f.1 == 7)) = true ∧ lYa_e_732.2.2.2.1.all (fun f => !(f.1 == 7)) = true ∧ (cvS zi lYa_e_732 k_L_mood (cx1 k_L_mood)).2.2.2.1.all (fun f => !(f.1 == 7)) = true ∧ lYc_e_732.2.2.2.1.all (fun f => !(f.1 == 7)) = true := by decide +kernel
def lYd0_e_732 : sS := vZ (cvS zi lYc_e_732 k_X15_mood (cxi k_X15_mood 0))
theorem lYd0_e_732n : lYd0_e_732.1.length = 29 ∧ (cvS zi lYc_e_732 k_X15_mood (cxi k_X15_mood 0)).2.2.2.1.all (fun f => !(f.1 == 7)) = true := by decide +kernel
theorem lY3_e_732_0 : chk zrx zi wT (wRo wSites_15) (wRo wTags_15) lC_e [] 0 0 15 3000 false [(27, lT_eza, [])] none 57 243 779 lYd0_e_732 (fun _ _ => false) = true := by decide +kernel
set_option maxRecDepth 20000 in
theorem lA_e_732 {n : Nat} (ih : lIH n) {hb ub : Nat} {N : Int} {ρ : List Nat} {ν : List Value} {lv : List (Nat × Value)} {st : List Value} {h : List zC} {u : Nat} {i R C A : Int32} {F : Int} (hA : gA hb ub ρ ν lM_e lv st h u) (hH : tHeap wT N ρ h) (v4 : ν[4]? = some (.int i)) (v7 : ν[7]? = some (.int R)) (v9 : ν[9]? = some (.int C)) (v11 : ν[11]? = some (.int A))
    (i4 : i.toInt ≤ 4096) (acc : lAcc false hb ub i.toInt R.toInt C.toInt A.toInt F) (rm1 : (ub : Int) + 17920 ≤ zSN) (rm2 : (hb : Int) + 1152 ≤ zCM) (hn : 4104 - i.toInt ≤ (n + 1 : Nat)) (hR : lR ρ ν h) : zE zrx zi 57 243 732 lv st h u lKK := by
  obtain ⟨dl1, dl2, dl3, dl4⟩ := lD_lo R.toInt C.toInt A.toInt
  obtain ⟨r0, ra, rb, rc⟩ := lYr_e_732
  have q0 : (h.length : Int) - hb ≤ 0 := hA.2.2.2.2.1
  have q1 : (u : Int) - ub ≤ 0 := hA.2.2.2.2.2
  have hlen : ν.length ≤ 15 := by
    rw [← hA.1.1]
    exact Nat.le_of_eq rfl
  refine seg wT_ok lC_e_ok 3000 lY1_e_732 (Nat.le_refl _) (nExt.refl ν) hlen (hA.reb r0) rfl rfl hH (by omega) (by omega) ?_
  intro x hx N1 ρ1 ν1 lv1 st1 h1 u1 x1 hA1 hH1 hF1 hP1
  rw [List.mem_singleton.mp hx] at hA1 ⊢
  clear hx x
  dsimp only at hA1 ⊢
  have hR1 := hR.fr hH hF1 hP1 x1 stW_nil rW_nil
  have b1 : (h1.length : Int) - h.length ≤ 0 := Int.le_trans (hA1.cost (by decide +kernel)).1 (by decide +kernel)
  have b2 : (u1 : Int) - u ≤ 0 := Int.le_trans (hA1.cost (by decide +kernel)).2 (by decide +kernel)
  have hT : gSt ν1 [3, 23, 20, 17, 1] st1 := hA1.2.2.1
  obtain ⟨w0, sa0, ea0, o0, ha0⟩ := hT.inv
  subst ea0
  rw [hR1.2.2.2.1] at o0
  cases o0
  obtain ⟨w1, sa1, ea1, o1, ha1⟩ := ha0.inv
  subst ea1
  obtain ⟨p23, rfl, -⟩ := hA1.int o1 rfl
  obtain ⟨w2, sa2, ea2, o2, ha2⟩ := ha1.inv
  subst ea2
  obtain ⟨p20, rfl, -⟩ := hA1.int o2 rfl
  obtain ⟨w3, sa3, ea3, o3, ha3⟩ := ha2.inv
  subst ea3
  obtain ⟨p17, rfl, -⟩ := hA1.int o3 rfl
  obtain ⟨w4, sa4, ea4, o4, ha4⟩ := ha3.inv
  subst ea4
  rw [hR1.2.1] at o4
  cases o4
  cases ha4.nil
  refine call_val con_L_mood vr_243_752 lV1_e_732 rfl rfl (hA1.reb ra) hH1 (by have : k_L_mood.2.2.2.2.1 = 1 := rfl; omega) (by have : k_L_mood.2.2.2.2.2.1 = 6 := rfl; omega) rfl (fun n => C_Lmood n p17 p20 p23 h1 u1 hR1.2.2.2.2.1) ?_
  intro N2 ρ2 ν2 v h2 u2 n2 x2 hA2 hH2 hF2 hP2 V1
  obtain ⟨k, hk, V1⟩ := V1
  cases hk
  have V1 : Q_Lmood p17 p20 p23 h1 (.inl (some (.int k))) h2 u2 := ⟨k, rfl, V1⟩
  have b3 : (h2.length : Int) - h1.length ≤ 1 := Int.le_trans (hA2.cost (by decide +kernel)).1 (by decide +kernel)
  have b4 : (u2 : Int) - u1 ≤ 6 := Int.le_trans (hA2.cost (by decide +kernel)).2 (by decide +kernel)
  have hTk : ν2[24]? = some (.int k) := gSt_hd hA2.2.2.1 (by decide +kernel)
  have hlen2 : ν2.length ≤ 25 := by
    rw [← hA2.1.1]
    exact Nat.le_of_eq lYn_e_732
  have hS2 : Stc h2 := hR1.2.2.2.2.1.fr hR1.1 hF2 stW_L_mood
  have hRo2 : Ro ρ2 := hR1.1.pre hP2
  show zE zrx zi 57 243 755 lv1 _ h2 u2 lKK
  refine seg wT_ok lC_e_ok 3000 lY2_e_732 (Nat.le_refl _) (nExt.refl ν2) hlen2 (hA2.reb rb) rfl rfl hH2 (by omega) (by omega) ?_
  intro x hx N3 ρ3 ν3 lv3 st3 h3 u3 x3 hA3 hH3 hF3 hP3
  rw [List.mem_singleton.mp hx] at hA3 ⊢
  clear hx x
  dsimp only at hA3 ⊢
  have hS3 : Stc h3 := hS2.fr hRo2 hF3 stW_nil
  have b5 : (h3.length : Int) - h2.length ≤ 0 := Int.le_trans (hA3.cost (by decide +kernel)).1 (by decide +kernel)
  have b6 : (u3 : Int) - u2 ≤ 0 := Int.le_trans (hA3.cost (by decide +kernel)).2 (by decide +kernel)
  have hE : ∀ p, p < h2.length → ∀ k, gF h3 p k = gF h2 p k := fun p hp k => gFr_F0 hF3 hH2.1 hp k
  have hT : gSt ν3 [23, 20, 17, 2] st3 := hA3.2.2.1
  obtain ⟨w0, sb0, eb0, c0, hb0⟩ := hT.inv
  subst eb0
  rw [x3 _ _ (x2 _ _ o1)] at c0
  cases c0
  obtain ⟨w1, sb1, eb1, c1, hb1⟩ := hb0.inv
  subst eb1
  rw [x3 _ _ (x2 _ _ o2)] at c1
  cases c1
  obtain ⟨w2, sb2, eb2, c2, hb2⟩ := hb1.inv
  subst eb2
  rw [x3 _ _ (x2 _ _ o3)] at c2
  cases c2
  obtain ⟨w3, sb3, eb3, c3, hb3⟩ := hb2.inv
  subst eb3
  rw [x3 _ _ (x2 _ _ hR1.2.2.1)] at c3
  cases c3
  cases hb3.nil
  have hl1 := hR1.2.2.2.2.1.1
  have hl2 := gFr_len hF2
  have hl3 := gFr_len hF3
  have ro3 : Ro ρ3 := hRo2.pre hP3
  refine call_val con_X15_mood vr_243_776 lV2_e_732 rfl rfl (hA3.reb rc) hH3 (by have : k_X15_mood.2.2.2.2.1 = 0 := rfl; omega) (by have : k_X15_mood.2.2.2.2.2.1 = 0 := rfl; omega) rfl (fun n => C_mmood n p17 p20 p23 h3 u3 hS3) ?_
  intro N4 ρ4 ν4 v h4 u4 n4 x4 hA4 hH4 hF4 hP4 V2
  obtain ⟨nd, rd⟩ := lYd0_e_732n
  obtain ⟨r, hr⟩ : ∃ r : Int32, v = .int r := by
    first
      | (obtain ⟨r, h0, hr, -⟩ := V2; cases hr; exact ⟨r, rfl⟩)
      | (obtain ⟨r, hr, -⟩ := V2; cases hr; exact ⟨r, rfl⟩)
  subst hr
  have b7 : (h4.length : Int) - h3.length ≤ 0 := Int.le_trans (hA4.cost (by decide +kernel)).1 (by decide +kernel)
  have b8 : (u4 : Int) - u3 ≤ 0 := Int.le_trans (hA4.cost (by decide +kernel)).2 (by decide +kernel)
  have z1 := ((by
    obtain ⟨y1, y2, y3, y4⟩ := sum_mood (hR1.2.2.2.2.2.1.2.2.1) hl1 hl2 V1 hE V2
    exact ⟨⟨⟨qFed.fr3 (hR1.2.2.2.2.2.1.1) hR1.2.2.2.2.1 hR1.1 hH1 hF2 (by decide +kernel) hS2 hRo2 hH2 hF3 hS3 (hRo2.pre hP3) hH3 hF4 (by decide +kernel), qAR.fr3 (hR1.2.2.2.2.2.1.2.1) hR1.2.2.2.2.1 hR1.1 hH1 hF2 (by decide +kernel) hS2 hRo2 hH2 hF3 hS3 (hRo2.pre hP3) hH3 hF4 (by decide +kernel), y1, qEX.fr3 (hR1.2.2.2.2.2.1.2.2.2) hR1.2.2.2.2.1 hR1.1 hH1 hF2 (by decide +kernel) hS2 hRo2 hH2 hF3 hS3 (hRo2.pre hP3) hH3 hF4 (by decide +kernel)⟩, ⟨qRFu.fr3 (hR1.2.2.2.2.2.2.1.1) hR1.2.2.2.2.1 hR1.1 hH1 hF2 (by decide +kernel) hS2 hRo2 hH2 hF3 hS3 (hRo2.pre hP3) hH3 hF4 (by decide +kernel), qRCs.fr3 (hR1.2.2.2.2.2.2.1.2.1) hR1.2.2.2.2.1 hR1.1 hH1 hF2 (by decide +kernel) hS2 hRo2 hH2 hF3 hS3 (hRo2.pre hP3) hH3 hF4 (by decide +kernel), qVd.fr3 (hR1.2.2.2.2.2.2.1.2.2) hR1.2.2.2.2.1 hR1.1 hH1 hF2 (by decide +kernel) hS2 hRo2 hH2 hF3 hS3 (hRo2.pre hP3) hH3 hF4 (by decide +kernel)⟩, ⟨Rw.fr3 (hR1.2.2.2.2.2.2.2.1.1) hR1.2.2.2.2.1 hR1.1 hH1 hF2 (by decide +kernel) hS2 hRo2 hH2 hF3 hS3 (hRo2.pre hP3) hH3 hF4 (by decide +kernel), qSm.fr3T (hR1.2.2.2.2.2.2.2.1.2.1) hR1.2.2.2.2.1 hR1.1 hH1 hF2 (by decide +kernel) hS2 hRo2 hH2 hF3 hS3 (hRo2.pre hP3) hH3 hF4 (by decide +kernel), qSm.fr3Y (hR1.2.2.2.2.2.2.2.1.2.2) hR1.2.2.2.2.1 hR1.1 hH1 hF2 (by decide +kernel) hS2 hRo2 hH2 hF3 hS3 (hRo2.pre hP3) hH3 hF4 (by decide +kernel)⟩, qDz.fr3 (hR1.2.2.2.2.2.2.2.2.1) hR1.2.2.2.2.1 hR1.1 hH1 hF2 (by decide +kernel) hS2 hRo2 hH2 hF3 hS3 (hRo2.pre hP3) hH3 hF4 (by decide +kernel), qRv.fr3 (hR1.2.2.2.2.2.2.2.2.2) hR1.2.2.2.2.1 hR1.1 hH1 hF2 (by decide +kernel) hS2 hRo2 hH2 hF3 hS3 (hRo2.pre hP3) hH3 hF4 (by decide +kernel)⟩, trivial⟩ : qAll h4 ∧ True)).1
  have hR4 : lR ρ4 ν4 h4 := ⟨(hRo2.pre hP3).pre hP4, x4 _ _ (x3 _ _ (x2 _ _ hR1.2.1)), x4 _ _ (x3 _ _ (x2 _ _ hR1.2.2.1)), x4 _ _ (x3 _ _ (x2 _ _ hR1.2.2.2.1)), hS3.fr (hRo2.pre hP3) hF4 stW_X15_mood, z1⟩
  have x14 : nExt ν ν4 := x1.trans (x2.trans (x3.trans x4))
  have hA4 := hA4.reb rd
  show zE zrx zi 57 243 779 lv3 _ h4 u4 lKK
  refine seg wT_ok lC_e_ok 3000 lY3_e_732_0 (Nat.le_refl _) x14 hlen hA4 rfl rfl hH4 (by omega) (by omega) ?_
  intro x hx N5 ρ5 ν5 lv5 st5 h5 u5 x5 hA5 hH5 hF5 hP5
  rw [List.mem_singleton.mp hx] at hA5 ⊢
  clear hx x
  dsimp only at hA5 ⊢
  have b9 : (h5.length : Int) - h4.length ≤ 0 := Int.le_trans (hA5.cost (by decide +kernel)).1 (by decide +kernel)
  have c1 : (u5 : Int) - u4 ≤ 0 := Int.le_trans (hA5.cost (by decide +kernel)).2 (by decide +kernel)
  obtain ⟨j, j1, j2⟩ := l_i hA5 rfl rfl (x5 _ _ v4)
  exact l_next (g := false) ih [0, 1, 2, 3, 15, 5, 6, 7, 8, 9, 10, 11, 12, 13, 14] (by decide +kernel) (by decide +kernel) hA5 rfl hH5 rfl rfl rfl rfl j1 (x5 _ _ v7) (x5 _ _ v9) (x5 _ _ v11) (acc.dear j2 (by omega) (by omega) false (fun z => z)) (by omega) rfl rfl rfl (lR.fr ⟨hR4.1, x5 _ _ (hR.2.1), x5 _ _ (hR.2.2.1), x5 _ _ (hR.2.2.2.1), hR4.2.2.2.2⟩ hH4 hF5 hP5 (nExt.refl ν5) stW_nil rW_nil)
def lYa_e_784 : sS := ([(3, 0, 0), (3, 8, 0), (3, 40, 0), (3, 36, 0), (0, 0, 4088), (0, 8, 4096), (3, 45, 0), (0, 0, 40), (3, 48, 0), (0, 0, 24), (3, 51, 0), (0, 0, 24), (0, 0, 4088), (0, 0, 4088), (3, 1, 0), (0, 1, 1), (0, 1, 4089), (0, -2147483648, 2147483647), (0, 2, 2), (0, 2, 4090), (0, -2147483648, 2147483647)], [(0, 0), (1, 1), (2, 2), (3, 3), (4, 4)], [3, 20, 17, 1], [(4, 0, 19, 20, 0), (0, 19, 4, 0, 2), (0, 4, 19, 0, -2), (4, 0, 16, 17, 0), (0, 16, 4, 0, 1), (0, 4, 16, 0, -1), (0, 4, 5, 0, -8), (3, 0, 5, 0, 0), (2, 2, 7, 6, 0), (2, 6, 2, 7, 0), (2, 2, 8, 8, 0), (2, 8, 2, 9, 0), (2, 2, 9, 10, 0), (2, 10, 2, 11, 0), (2, 1, 1, 12, 0), (2, 2, 3, 13, 0), (0, 12, 13, 0, 0), (0, 13, 12, 0, 0), (2, 2, 10, 14, 0), (0, 12, 4, 0, 0), (0, 13, 4, 0, 0)], 0, 0, [])
def lYb_e_784 : sS := vZ (cvS zi lYa_e_784 k_L_taste (cx1 k_L_taste))
def lYc_e_784 : sS := ([(3, 0, 0), (3, 8, 0), (3, 40, 0), (3, 36, 0), (0, 0, 4088), (0, 8, 4096), (3, 45, 0), (0, 0, 40), (3, 48, 0), (0, 0, 24), (3, 51, 0), (0, 0, 24), (0, 0, 4088), (0, 0, 4088), (3, 1, 0), (0, 1, 1), (0, 1, 4089), (0, -2147483648, 2147483647), (0, 2, 2), (0, 2, 4090), (0, -2147483648, 2147483647), (0, 0, 2), (0, 1, 1), (0, 2, 2)], [(5, 21), (0, 0), (1, 1), (2, 2), (3, 3), (4, 4)], [20, 17, 2], [(4, 0, 19, 20, 0), (0, 19, 4, 0, 2), (0, 4, 19, 0, -2), (4, 0, 16, 17, 0), (0, 16, 4, 0, 1), (0, 4, 16, 0, -1), (0, 4, 5, 0, -8), (3, 0, 5, 0, 0), (2, 2, 7, 6, 0), (2, 6, 2, 7, 0), (2, 2, 8, 8, 0), (2, 8, 2, 9, 0), (2, 2, 9, 10, 0), (2, 10, 2, 11, 0), (2, 1, 1, 12, 0), (2, 2, 3, 13, 0), (0, 12, 13, 0, 0), (0, 13, 12, 0, 0), (2, 2, 10, 14, 0), (0, 12, 4, 0, 0), (0, 13, 4, 0, 0)], 0, 0, [])
theorem lY1_e_784 : chk zrx zi wT (wRo wSites_15) (wRo wTags_15) lC_e [] 0 0 15 3000 false [(798, lYa_e_784, [])] none 57 243 784 (vZ lM_e) (fun _ _ => false) = true := by decide +kernel
theorem lY2_e_784 : chk zrx zi wT (wRo wSites_15) (wRo wTags_15) lC_e [] 0 0 22 3000 false [(816, lYc_e_784, [])] none 57 243 801 lYb_e_784 (fun _ _ => false) = true := by decide +kernel
theorem lV1_e_784 : cvOk zrx zi wT 243 798 56 lYa_e_784 k_L_taste = true := by decide +kernel
theorem lV2_e_784 : cvOk zrx zi wT 243 816 56 lYc_e_784 k_X15_taste = true := by decide +kernel
theorem lYn_e_784 : lYb_e_784.1.length = 22 := by decide +kernel
theorem lYr_e_784 : (vZ lM_e).2.2.2.1.all (fun f => !(f.1 == 7)) = true ∧ lYa_e_784.2.2.2.1.all (fun f => !(f.1 == 7)) = true ∧ (cvS zi lYa_e_784 k_L_taste (cx1 k_L_taste)).2.2.2.1.all (fun f => !(f.1 == 7)) = true ∧ lYc_e_784.2.2.2.1.all (fun f => !(f.1 == 7)) = true := by decide +kernel
def lYd0_e_784 : sS := vZ (cvS zi lYc_e_784 k_X15_taste (cxi k_X15_taste 0))
theorem lYd0_e_784n : lYd0_e_784.1.length = 25 ∧ (cvS zi lYc_e_784 k_X15_taste (cxi k_X15_taste 0)).2.2.2.1.all (fun f => !(f.1 == 7)) = true := by decide +kernel
theorem lY3_e_784_0 : chk zrx zi wT (wRo wSites_15) (wRo wTags_15) lC_e [] 0 0 15 3000 false [(27, lT_eza, [])] none 57 243 819 lYd0_e_784 (fun _ _ => false) = true := by decide +kernel
set_option maxRecDepth 20000 in
theorem lA_e_784 {n : Nat} (ih : lIH n) {hb ub : Nat} {N : Int} {ρ : List Nat} {ν : List Value} {lv : List (Nat × Value)} {st : List Value} {h : List zC} {u : Nat} {i R C A : Int32} {F : Int} (hA : gA hb ub ρ ν lM_e lv st h u) (hH : tHeap wT N ρ h) (v4 : ν[4]? = some (.int i)) (v7 : ν[7]? = some (.int R)) (v9 : ν[9]? = some (.int C)) (v11 : ν[11]? = some (.int A))
    (i4 : i.toInt ≤ 4096) (acc : lAcc false hb ub i.toInt R.toInt C.toInt A.toInt F) (rm1 : (ub : Int) + 17920 ≤ zSN) (rm2 : (hb : Int) + 1152 ≤ zCM) (hn : 4104 - i.toInt ≤ (n + 1 : Nat)) (hR : lR ρ ν h) : zE zrx zi 57 243 784 lv st h u lKK := by
  obtain ⟨dl1, dl2, dl3, dl4⟩ := lD_lo R.toInt C.toInt A.toInt
  obtain ⟨r0, ra, rb, rc⟩ := lYr_e_784
  have q0 : (h.length : Int) - hb ≤ 0 := hA.2.2.2.2.1
  have q1 : (u : Int) - ub ≤ 0 := hA.2.2.2.2.2
  have hlen : ν.length ≤ 15 := by
    rw [← hA.1.1]
    exact Nat.le_of_eq rfl
  refine seg wT_ok lC_e_ok 3000 lY1_e_784 (Nat.le_refl _) (nExt.refl ν) hlen (hA.reb r0) rfl rfl hH (by omega) (by omega) ?_
  intro x hx N1 ρ1 ν1 lv1 st1 h1 u1 x1 hA1 hH1 hF1 hP1
  rw [List.mem_singleton.mp hx] at hA1 ⊢
  clear hx x
  dsimp only at hA1 ⊢
  have hR1 := hR.fr hH hF1 hP1 x1 stW_nil rW_nil
  have b1 : (h1.length : Int) - h.length ≤ 0 := Int.le_trans (hA1.cost (by decide +kernel)).1 (by decide +kernel)
  have b2 : (u1 : Int) - u ≤ 0 := Int.le_trans (hA1.cost (by decide +kernel)).2 (by decide +kernel)
  have hT : gSt ν1 [3, 20, 17, 1] st1 := hA1.2.2.1
  obtain ⟨w0, sa0, ea0, o0, ha0⟩ := hT.inv
  subst ea0
  rw [hR1.2.2.2.1] at o0
  cases o0
  obtain ⟨w1, sa1, ea1, o1, ha1⟩ := ha0.inv
  subst ea1
  obtain ⟨p20, rfl, -⟩ := hA1.int o1 rfl
  obtain ⟨w2, sa2, ea2, o2, ha2⟩ := ha1.inv
  subst ea2
  obtain ⟨p17, rfl, -⟩ := hA1.int o2 rfl
  obtain ⟨w3, sa3, ea3, o3, ha3⟩ := ha2.inv
  subst ea3
  rw [hR1.2.1] at o3
  cases o3
  cases ha3.nil
  refine call_val con_L_taste vr_243_798 lV1_e_784 rfl rfl (hA1.reb ra) hH1 (by have : k_L_taste.2.2.2.2.1 = 1 := rfl; omega) (by have : k_L_taste.2.2.2.2.2.1 = 6 := rfl; omega) rfl (fun n => C_Ltaste n p17 p20 h1 u1 hR1.2.2.2.2.1) ?_
  intro N2 ρ2 ν2 v h2 u2 n2 x2 hA2 hH2 hF2 hP2 V1
  obtain ⟨k, hk, V1⟩ := V1
  cases hk
  have V1 : Q_Ltaste p17 p20 h1 (.inl (some (.int k))) h2 u2 := ⟨k, rfl, V1⟩
  have b3 : (h2.length : Int) - h1.length ≤ 1 := Int.le_trans (hA2.cost (by decide +kernel)).1 (by decide +kernel)
  have b4 : (u2 : Int) - u1 ≤ 6 := Int.le_trans (hA2.cost (by decide +kernel)).2 (by decide +kernel)
  have hTk : ν2[21]? = some (.int k) := gSt_hd hA2.2.2.1 (by decide +kernel)
  have hlen2 : ν2.length ≤ 22 := by
    rw [← hA2.1.1]
    exact Nat.le_of_eq lYn_e_784
  have hS2 : Stc h2 := hR1.2.2.2.2.1.fr hR1.1 hF2 stW_L_taste
  have hRo2 : Ro ρ2 := hR1.1.pre hP2
  show zE zrx zi 57 243 801 lv1 _ h2 u2 lKK
  refine seg wT_ok lC_e_ok 3000 lY2_e_784 (Nat.le_refl _) (nExt.refl ν2) hlen2 (hA2.reb rb) rfl rfl hH2 (by omega) (by omega) ?_
  intro x hx N3 ρ3 ν3 lv3 st3 h3 u3 x3 hA3 hH3 hF3 hP3
  rw [List.mem_singleton.mp hx] at hA3 ⊢
  clear hx x
  dsimp only at hA3 ⊢
  have hS3 : Stc h3 := hS2.fr hRo2 hF3 stW_nil
  have b5 : (h3.length : Int) - h2.length ≤ 0 := Int.le_trans (hA3.cost (by decide +kernel)).1 (by decide +kernel)
  have b6 : (u3 : Int) - u2 ≤ 0 := Int.le_trans (hA3.cost (by decide +kernel)).2 (by decide +kernel)
  have hE : ∀ p, p < h2.length → ∀ k, gF h3 p k = gF h2 p k := fun p hp k => gFr_F0 hF3 hH2.1 hp k
  have hT : gSt ν3 [20, 17, 2] st3 := hA3.2.2.1
  obtain ⟨w0, sb0, eb0, c0, hb0⟩ := hT.inv
  subst eb0
  rw [x3 _ _ (x2 _ _ o1)] at c0
  cases c0
  obtain ⟨w1, sb1, eb1, c1, hb1⟩ := hb0.inv
  subst eb1
  rw [x3 _ _ (x2 _ _ o2)] at c1
  cases c1
  obtain ⟨w2, sb2, eb2, c2, hb2⟩ := hb1.inv
  subst eb2
  rw [x3 _ _ (x2 _ _ hR1.2.2.1)] at c2
  cases c2
  cases hb2.nil
  have hl1 := hR1.2.2.2.2.1.1
  have hl2 := gFr_len hF2
  have hl3 := gFr_len hF3
  have ro3 : Ro ρ3 := hRo2.pre hP3
  refine call_val con_X15_taste vr_243_816 lV2_e_784 rfl rfl (hA3.reb rc) hH3 (by have : k_X15_taste.2.2.2.2.1 = 0 := rfl; omega) (by have : k_X15_taste.2.2.2.2.2.1 = 0 := rfl; omega) rfl (fun n => C_mtaste n p17 p20 h3 u3 hS3) ?_
  intro N4 ρ4 ν4 v h4 u4 n4 x4 hA4 hH4 hF4 hP4 V2
  obtain ⟨nd, rd⟩ := lYd0_e_784n
  obtain ⟨r, hr⟩ : ∃ r : Int32, v = .int r := by
    first
      | (obtain ⟨r, h0, hr, -⟩ := V2; cases hr; exact ⟨r, rfl⟩)
      | (obtain ⟨r, hr, -⟩ := V2; cases hr; exact ⟨r, rfl⟩)
  subst hr
  have b7 : (h4.length : Int) - h3.length ≤ 0 := Int.le_trans (hA4.cost (by decide +kernel)).1 (by decide +kernel)
  have b8 : (u4 : Int) - u3 ≤ 0 := Int.le_trans (hA4.cost (by decide +kernel)).2 (by decide +kernel)
  have z1 := ((by
    obtain ⟨y1, y2, y3, y4⟩ := sum_taste (hR1.2.2.2.2.2.1.2.2.1) hl1 hl2 V1 hE V2
    exact ⟨⟨⟨qFed.fr3 (hR1.2.2.2.2.2.1.1) hR1.2.2.2.2.1 hR1.1 hH1 hF2 (by decide +kernel) hS2 hRo2 hH2 hF3 hS3 (hRo2.pre hP3) hH3 hF4 (by decide +kernel), qAR.fr3 (hR1.2.2.2.2.2.1.2.1) hR1.2.2.2.2.1 hR1.1 hH1 hF2 (by decide +kernel) hS2 hRo2 hH2 hF3 hS3 (hRo2.pre hP3) hH3 hF4 (by decide +kernel), y1, qEX.fr3 (hR1.2.2.2.2.2.1.2.2.2) hR1.2.2.2.2.1 hR1.1 hH1 hF2 (by decide +kernel) hS2 hRo2 hH2 hF3 hS3 (hRo2.pre hP3) hH3 hF4 (by decide +kernel)⟩, ⟨qRFu.fr3 (hR1.2.2.2.2.2.2.1.1) hR1.2.2.2.2.1 hR1.1 hH1 hF2 (by decide +kernel) hS2 hRo2 hH2 hF3 hS3 (hRo2.pre hP3) hH3 hF4 (by decide +kernel), qRCs.fr3 (hR1.2.2.2.2.2.2.1.2.1) hR1.2.2.2.2.1 hR1.1 hH1 hF2 (by decide +kernel) hS2 hRo2 hH2 hF3 hS3 (hRo2.pre hP3) hH3 hF4 (by decide +kernel), qVd.fr3 (hR1.2.2.2.2.2.2.1.2.2) hR1.2.2.2.2.1 hR1.1 hH1 hF2 (by decide +kernel) hS2 hRo2 hH2 hF3 hS3 (hRo2.pre hP3) hH3 hF4 (by decide +kernel)⟩, ⟨Rw.fr3 (hR1.2.2.2.2.2.2.2.1.1) hR1.2.2.2.2.1 hR1.1 hH1 hF2 (by decide +kernel) hS2 hRo2 hH2 hF3 hS3 (hRo2.pre hP3) hH3 hF4 (by decide +kernel), qSm.fr3T (hR1.2.2.2.2.2.2.2.1.2.1) hR1.2.2.2.2.1 hR1.1 hH1 hF2 (by decide +kernel) hS2 hRo2 hH2 hF3 hS3 (hRo2.pre hP3) hH3 hF4 (by decide +kernel), qSm.fr3Y (hR1.2.2.2.2.2.2.2.1.2.2) hR1.2.2.2.2.1 hR1.1 hH1 hF2 (by decide +kernel) hS2 hRo2 hH2 hF3 hS3 (hRo2.pre hP3) hH3 hF4 (by decide +kernel)⟩, qDz.fr3 (hR1.2.2.2.2.2.2.2.2.1) hR1.2.2.2.2.1 hR1.1 hH1 hF2 (by decide +kernel) hS2 hRo2 hH2 hF3 hS3 (hRo2.pre hP3) hH3 hF4 (by decide +kernel), qRv.fr3 (hR1.2.2.2.2.2.2.2.2.2) hR1.2.2.2.2.1 hR1.1 hH1 hF2 (by decide +kernel) hS2 hRo2 hH2 hF3 hS3 (hRo2.pre hP3) hH3 hF4 (by decide +kernel)⟩, trivial⟩ : qAll h4 ∧ True)).1
  have hR4 : lR ρ4 ν4 h4 := ⟨(hRo2.pre hP3).pre hP4, x4 _ _ (x3 _ _ (x2 _ _ hR1.2.1)), x4 _ _ (x3 _ _ (x2 _ _ hR1.2.2.1)), x4 _ _ (x3 _ _ (x2 _ _ hR1.2.2.2.1)), hS3.fr (hRo2.pre hP3) hF4 stW_X15_taste, z1⟩
  have x14 : nExt ν ν4 := x1.trans (x2.trans (x3.trans x4))
  have hA4 := hA4.reb rd
  show zE zrx zi 57 243 819 lv3 _ h4 u4 lKK
  refine seg wT_ok lC_e_ok 3000 lY3_e_784_0 (Nat.le_refl _) x14 hlen hA4 rfl rfl hH4 (by omega) (by omega) ?_
  intro x hx N5 ρ5 ν5 lv5 st5 h5 u5 x5 hA5 hH5 hF5 hP5
  rw [List.mem_singleton.mp hx] at hA5 ⊢
  clear hx x
  dsimp only at hA5 ⊢
  have b9 : (h5.length : Int) - h4.length ≤ 0 := Int.le_trans (hA5.cost (by decide +kernel)).1 (by decide +kernel)
  have c1 : (u5 : Int) - u4 ≤ 0 := Int.le_trans (hA5.cost (by decide +kernel)).2 (by decide +kernel)
  obtain ⟨j, j1, j2⟩ := l_i hA5 rfl rfl (x5 _ _ v4)
  exact l_next (g := false) ih [0, 1, 2, 3, 15, 5, 6, 7, 8, 9, 10, 11, 12, 13, 14] (by decide +kernel) (by decide +kernel) hA5 rfl hH5 rfl rfl rfl rfl j1 (x5 _ _ v7) (x5 _ _ v9) (x5 _ _ v11) (acc.dear j2 (by omega) (by omega) false (fun z => z)) (by omega) rfl rfl rfl (lR.fr ⟨hR4.1, x5 _ _ (hR.2.1), x5 _ _ (hR.2.2.1), x5 _ _ (hR.2.2.2.1), hR4.2.2.2.2⟩ hH4 hF5 hP5 (nExt.refl ν5) stW_nil rW_nil)
def lYa_e_824 : sS := ([(3, 0, 0), (3, 8, 0), (3, 40, 0), (3, 36, 0), (0, 0, 4088), (0, 8, 4096), (3, 45, 0), (0, 0, 40), (3, 48, 0), (0, 0, 24), (3, 51, 0), (0, 0, 24), (0, 0, 4088), (0, 0, 4088), (3, 1, 0), (0, 1, 1), (0, 1, 4089), (0, -2147483648, 2147483647), (0, 2, 2), (0, 2, 4090), (0, -2147483648, 2147483647)], [(0, 0), (1, 1), (2, 2), (3, 3), (4, 4)], [3, 20, 17, 1], [(4, 0, 19, 20, 0), (0, 19, 4, 0, 2), (0, 4, 19, 0, -2), (4, 0, 16, 17, 0), (0, 16, 4, 0, 1), (0, 4, 16, 0, -1), (0, 4, 5, 0, -8), (3, 0, 5, 0, 0), (2, 2, 7, 6, 0), (2, 6, 2, 7, 0), (2, 2, 8, 8, 0), (2, 8, 2, 9, 0), (2, 2, 9, 10, 0), (2, 10, 2, 11, 0), (2, 1, 1, 12, 0), (2, 2, 3, 13, 0), (0, 12, 13, 0, 0), (0, 13, 12, 0, 0), (2, 2, 10, 14, 0), (0, 12, 4, 0, 0), (0, 13, 4, 0, 0)], 0, 0, [])
def lYb_e_824 : sS := vZ (cvS zi lYa_e_824 k_L_pledge (cx1 k_L_pledge))
def lYc_e_824 : sS := ([(3, 0, 0), (3, 8, 0), (3, 40, 0), (3, 36, 0), (0, 0, 4088), (0, 8, 4096), (3, 45, 0), (0, 0, 40), (3, 48, 0), (0, 0, 24), (3, 51, 0), (0, 0, 24), (0, 0, 4088), (0, 0, 4088), (3, 1, 0), (0, 1, 1), (0, 1, 4089), (0, -2147483648, 2147483647), (0, 2, 2), (0, 2, 4090), (0, -2147483648, 2147483647), (0, 0, 2), (0, 1, 1), (0, 2, 2)], [(5, 21), (0, 0), (1, 1), (2, 2), (3, 3), (4, 4)], [20, 17, 2], [(4, 0, 19, 20, 0), (0, 19, 4, 0, 2), (0, 4, 19, 0, -2), (4, 0, 16, 17, 0), (0, 16, 4, 0, 1), (0, 4, 16, 0, -1), (0, 4, 5, 0, -8), (3, 0, 5, 0, 0), (2, 2, 7, 6, 0), (2, 6, 2, 7, 0), (2, 2, 8, 8, 0), (2, 8, 2, 9, 0), (2, 2, 9, 10, 0), (2, 10, 2, 11, 0), (2, 1, 1, 12, 0), (2, 2, 3, 13, 0), (0, 12, 13, 0, 0), (0, 13, 12, 0, 0), (2, 2, 10, 14, 0), (0, 12, 4, 0, 0), (0, 13, 4, 0, 0)], 0, 0, [])
theorem lY1_e_824 : chk zrx zi wT (wRo wSites_15) (wRo wTags_15) lC_e [] 0 0 15 3000 false [(838, lYa_e_824, [])] none 57 243 824 (vZ lM_e) (fun _ _ => false) = true := by decide +kernel
theorem lY2_e_824 : chk zrx zi wT (wRo wSites_15) (wRo wTags_15) lC_e [] 0 0 22 3000 false [(856, lYc_e_824, [])] none 57 243 841 lYb_e_824 (fun _ _ => false) = true := by decide +kernel
theorem lV1_e_824 : cvOk zrx zi wT 243 838 56 lYa_e_824 k_L_pledge = true := by decide +kernel
theorem lV2_e_824 : cvOk zrx zi wT 243 856 56 lYc_e_824 k_X15_pledge = true := by decide +kernel
theorem lYn_e_824 : lYb_e_824.1.length = 22 := by decide +kernel
theorem lYr_e_824 : (vZ lM_e).2.2.2.1.all (fun f => !(f.1 == 7)) = true ∧ lYa_e_824.2.2.2.1.all (fun f => !(f.1 == 7)) = true ∧ (cvS zi lYa_e_824 k_L_pledge (cx1 k_L_pledge)).2.2.2.1.all (fun f => !(f.1 == 7)) = true ∧ lYc_e_824.2.2.2.1.all (fun f => !(f.1 == 7)) = true := by decide +kernel
def lYd0_e_824 : sS := vZ (cvS zi lYc_e_824 k_X15_pledge (cxi k_X15_pledge 0))
theorem lYd0_e_824n : lYd0_e_824.1.length = 25 ∧ (cvS zi lYc_e_824 k_X15_pledge (cxi k_X15_pledge 0)).2.2.2.1.all (fun f => !(f.1 == 7)) = true := by decide +kernel
theorem lY3_e_824_0 : chk zrx zi wT (wRo wSites_15) (wRo wTags_15) lC_e [] 0 0 15 3000 false [(27, lT_eza, [])] none 57 243 859 lYd0_e_824 (fun _ _ => false) = true := by decide +kernel
set_option maxRecDepth 20000 in
theorem lA_e_824 {n : Nat} (ih : lIH n) {hb ub : Nat} {N : Int} {ρ : List Nat} {ν : List Value} {lv : List (Nat × Value)} {st : List Value} {h : List zC} {u : Nat} {i R C A : Int32} {F : Int} (hA : gA hb ub ρ ν lM_e lv st h u) (hH : tHeap wT N ρ h) (v4 : ν[4]? = some (.int i)) (v7 : ν[7]? = some (.int R)) (v9 : ν[9]? = some (.int C)) (v11 : ν[11]? = some (.int A))
    (i4 : i.toInt ≤ 4096) (acc : lAcc false hb ub i.toInt R.toInt C.toInt A.toInt F) (rm1 : (ub : Int) + 17920 ≤ zSN) (rm2 : (hb : Int) + 1152 ≤ zCM) (hn : 4104 - i.toInt ≤ (n + 1 : Nat)) (hR : lR ρ ν h) : zE zrx zi 57 243 824 lv st h u lKK := by
  obtain ⟨dl1, dl2, dl3, dl4⟩ := lD_lo R.toInt C.toInt A.toInt
  obtain ⟨r0, ra, rb, rc⟩ := lYr_e_824
  have q0 : (h.length : Int) - hb ≤ 0 := hA.2.2.2.2.1
  have q1 : (u : Int) - ub ≤ 0 := hA.2.2.2.2.2
  have hlen : ν.length ≤ 15 := by
    rw [← hA.1.1]
    exact Nat.le_of_eq rfl
  refine seg wT_ok lC_e_ok 3000 lY1_e_824 (Nat.le_refl _) (nExt.refl ν) hlen (hA.reb r0) rfl rfl hH (by omega) (by omega) ?_
  intro x hx N1 ρ1 ν1 lv1 st1 h1 u1 x1 hA1 hH1 hF1 hP1
  rw [List.mem_singleton.mp hx] at hA1 ⊢
  clear hx x
  dsimp only at hA1 ⊢
  have hR1 := hR.fr hH hF1 hP1 x1 stW_nil rW_nil
  have b1 : (h1.length : Int) - h.length ≤ 0 := Int.le_trans (hA1.cost (by decide +kernel)).1 (by decide +kernel)
  have b2 : (u1 : Int) - u ≤ 0 := Int.le_trans (hA1.cost (by decide +kernel)).2 (by decide +kernel)
  have hT : gSt ν1 [3, 20, 17, 1] st1 := hA1.2.2.1
  obtain ⟨w0, sa0, ea0, o0, ha0⟩ := hT.inv
  subst ea0
  rw [hR1.2.2.2.1] at o0
  cases o0
  obtain ⟨w1, sa1, ea1, o1, ha1⟩ := ha0.inv
  subst ea1
  obtain ⟨p20, rfl, -⟩ := hA1.int o1 rfl
  obtain ⟨w2, sa2, ea2, o2, ha2⟩ := ha1.inv
  subst ea2
  obtain ⟨p17, rfl, -⟩ := hA1.int o2 rfl
  obtain ⟨w3, sa3, ea3, o3, ha3⟩ := ha2.inv
  subst ea3
  rw [hR1.2.1] at o3
  cases o3
  cases ha3.nil
  obtain ⟨T, L, fs, fa, fbd, t1, t3, fm1⟩ := hR1.2.2.2.2.2.1.1
  obtain ⟨cnt, el, c0, c2, c1, cel, h0c, h24, -⟩ := id (hR1.2.2.2.2.2.1.2.1)
  obtain ⟨dd, d1, d2, d3⟩ := id (hR1.2.2.2.2.2.2.2.2.1)
  have t2 : L ≤ 60 := fm1.l60
  refine call_val con_L_pledge vr_243_838 lV1_e_824 rfl rfl (hA1.reb ra) hH1 (by have : k_L_pledge.2.2.2.2.1 = 1 := rfl; omega) (by have : k_L_pledge.2.2.2.2.2.1 = 6 := rfl; omega) rfl (fun n => C_Lpledge n p17 p20 h1 u1 hR1.2.2.2.2.1 c0 h24) ?_
  intro N2 ρ2 ν2 v h2 u2 n2 x2 hA2 hH2 hF2 hP2 V1
  obtain ⟨k, hk, V1⟩ := V1
  cases hk
  have V1 : Q_Lpledge cnt p17 p20 h1 (.inl (some (.int k))) h2 u2 := ⟨k, rfl, V1⟩
  have b3 : (h2.length : Int) - h1.length ≤ 1 := Int.le_trans (hA2.cost (by decide +kernel)).1 (by decide +kernel)
  have b4 : (u2 : Int) - u1 ≤ 6 := Int.le_trans (hA2.cost (by decide +kernel)).2 (by decide +kernel)
  have hTk : ν2[21]? = some (.int k) := gSt_hd hA2.2.2.1 (by decide +kernel)
  have hlen2 : ν2.length ≤ 22 := by
    rw [← hA2.1.1]
    exact Nat.le_of_eq lYn_e_824
  have hS2 : Stc h2 := hR1.2.2.2.2.1.fr hR1.1 hF2 stW_L_pledge
  have hRo2 : Ro ρ2 := hR1.1.pre hP2
  show zE zrx zi 57 243 841 lv1 _ h2 u2 lKK
  refine seg wT_ok lC_e_ok 3000 lY2_e_824 (Nat.le_refl _) (nExt.refl ν2) hlen2 (hA2.reb rb) rfl rfl hH2 (by omega) (by omega) ?_
  intro x hx N3 ρ3 ν3 lv3 st3 h3 u3 x3 hA3 hH3 hF3 hP3
  rw [List.mem_singleton.mp hx] at hA3 ⊢
  clear hx x
  dsimp only at hA3 ⊢
  have hS3 : Stc h3 := hS2.fr hRo2 hF3 stW_nil
  have b5 : (h3.length : Int) - h2.length ≤ 0 := Int.le_trans (hA3.cost (by decide +kernel)).1 (by decide +kernel)
  have b6 : (u3 : Int) - u2 ≤ 0 := Int.le_trans (hA3.cost (by decide +kernel)).2 (by decide +kernel)
  have hE : ∀ p, p < h2.length → ∀ k, gF h3 p k = gF h2 p k := fun p hp k => gFr_F0 hF3 hH2.1 hp k
  have hT : gSt ν3 [20, 17, 2] st3 := hA3.2.2.1
  obtain ⟨w0, sb0, eb0, c0, hb0⟩ := hT.inv
  subst eb0
  rw [x3 _ _ (x2 _ _ o1)] at c0
  cases c0
  obtain ⟨w1, sb1, eb1, c1, hb1⟩ := hb0.inv
  subst eb1
  rw [x3 _ _ (x2 _ _ o2)] at c1
  cases c1
  obtain ⟨w2, sb2, eb2, c2, hb2⟩ := hb1.inv
  subst eb2
  rw [x3 _ _ (x2 _ _ hR1.2.2.1)] at c2
  cases c2
  cases hb2.nil
  have hl1 := hR1.2.2.2.2.1.1
  have hl2 := gFr_len hF2
  have hl3 := gFr_len hF3
  have ro3 : Ro ρ3 := hRo2.pre hP3
  have m2 := (hE 225 (by omega) 2).trans ((gFr_F hF2 (hR1.1 225 51 (by decide +kernel)) (by decide +kernel) (by omega)).trans c2)
  have m1 := (hE 225 (by omega) 1).trans ((gFr_F hF2 (hR1.1 225 51 (by decide +kernel)) (by decide +kernel) (by omega)).trans c1)
  obtain ⟨⟨l, l1, l2⟩, l3, l4, l5, l6, l7, l8⟩ := al_at hH3 ro3 m1 m2
  have l213 : ¬ el = 213 := by omega
  have hA7 : ∀ k, k < cnt.toNatClampNeg → ∃ A : Nat, gF h3 el k = some (.ref A) ∧ 239 ≤ A := fun k hk => by
    obtain ⟨e, e1, e2⟩ := l8 k hk
    exact ⟨e, e1, A_new ro3 e2⟩
  refine call_val con_X15_pledge vr_243_856 lV2_e_824 rfl rfl (hA3.reb rc) hH3 (by have : k_X15_pledge.2.2.2.2.1 = 0 := rfl; omega) (by have : k_X15_pledge.2.2.2.2.2.1 = 0 := rfl; omega) rfl (fun n => C_mpledge n p17 p20 h3 u3 hS3 m1 m2 h0c l213 hA7 (len_236 hH3 ro3)) ?_
  intro N4 ρ4 ν4 v h4 u4 n4 x4 hA4 hH4 hF4 hP4 V2
  obtain ⟨nd, rd⟩ := lYd0_e_824n
  obtain ⟨r, hr⟩ : ∃ r : Int32, v = .int r := by
    first
      | (obtain ⟨r, h0, hr, -⟩ := V2; cases hr; exact ⟨r, rfl⟩)
      | (obtain ⟨r, hr, -⟩ := V2; cases hr; exact ⟨r, rfl⟩)
  subst hr
  have b7 : (h4.length : Int) - h3.length ≤ 0 := Int.le_trans (hA4.cost (by decide +kernel)).1 (by decide +kernel)
  have b8 : (u4 : Int) - u3 ≤ 0 := Int.le_trans (hA4.cost (by decide +kernel)).2 (by decide +kernel)
  have z1 := ((by
    obtain ⟨y1, y2, y3, y4⟩ := sum_pledge hl1 hH1 hR1.1 (hR1.2.2.2.2.2.1.2.2.1) (hR1.2.2.2.2.2.1.2.1) c0 c1 h0c h24 hl2 V1 hE V2
    exact ⟨⟨⟨qFed.fr3 (hR1.2.2.2.2.2.1.1) hR1.2.2.2.2.1 hR1.1 hH1 hF2 (by decide +kernel) hS2 hRo2 hH2 hF3 hS3 (hRo2.pre hP3) hH3 hF4 (by decide +kernel), qAR.fr3 (hR1.2.2.2.2.2.1.2.1) hR1.2.2.2.2.1 hR1.1 hH1 hF2 (by decide +kernel) hS2 hRo2 hH2 hF3 hS3 (hRo2.pre hP3) hH3 hF4 (by decide +kernel), y1, qEX.fr3 (hR1.2.2.2.2.2.1.2.2.2) hR1.2.2.2.2.1 hR1.1 hH1 hF2 (by decide +kernel) hS2 hRo2 hH2 hF3 hS3 (hRo2.pre hP3) hH3 hF4 (by decide +kernel)⟩, ⟨qRFu.fr3 (hR1.2.2.2.2.2.2.1.1) hR1.2.2.2.2.1 hR1.1 hH1 hF2 (by decide +kernel) hS2 hRo2 hH2 hF3 hS3 (hRo2.pre hP3) hH3 hF4 (by decide +kernel), qRCs.fr3 (hR1.2.2.2.2.2.2.1.2.1) hR1.2.2.2.2.1 hR1.1 hH1 hF2 (by decide +kernel) hS2 hRo2 hH2 hF3 hS3 (hRo2.pre hP3) hH3 hF4 (by decide +kernel), qVd.fr3 (hR1.2.2.2.2.2.2.1.2.2) hR1.2.2.2.2.1 hR1.1 hH1 hF2 (by decide +kernel) hS2 hRo2 hH2 hF3 hS3 (hRo2.pre hP3) hH3 hF4 (by decide +kernel)⟩, ⟨Rw.fr3 (hR1.2.2.2.2.2.2.2.1.1) hR1.2.2.2.2.1 hR1.1 hH1 hF2 (by decide +kernel) hS2 hRo2 hH2 hF3 hS3 (hRo2.pre hP3) hH3 hF4 (by decide +kernel), qSm.fr3T (hR1.2.2.2.2.2.2.2.1.2.1) hR1.2.2.2.2.1 hR1.1 hH1 hF2 (by decide +kernel) hS2 hRo2 hH2 hF3 hS3 (hRo2.pre hP3) hH3 hF4 (by decide +kernel), qSm.fr3Y (hR1.2.2.2.2.2.2.2.1.2.2) hR1.2.2.2.2.1 hR1.1 hH1 hF2 (by decide +kernel) hS2 hRo2 hH2 hF3 hS3 (hRo2.pre hP3) hH3 hF4 (by decide +kernel)⟩, qDz.fr3 (hR1.2.2.2.2.2.2.2.2.1) hR1.2.2.2.2.1 hR1.1 hH1 hF2 (by decide +kernel) hS2 hRo2 hH2 hF3 hS3 (hRo2.pre hP3) hH3 hF4 (by decide +kernel), qRv.fr3 (hR1.2.2.2.2.2.2.2.2.2) hR1.2.2.2.2.1 hR1.1 hH1 hF2 (by decide +kernel) hS2 hRo2 hH2 hF3 hS3 (hRo2.pre hP3) hH3 hF4 (by decide +kernel)⟩, trivial⟩ : qAll h4 ∧ True)).1
  have hR4 : lR ρ4 ν4 h4 := ⟨(hRo2.pre hP3).pre hP4, x4 _ _ (x3 _ _ (x2 _ _ hR1.2.1)), x4 _ _ (x3 _ _ (x2 _ _ hR1.2.2.1)), x4 _ _ (x3 _ _ (x2 _ _ hR1.2.2.2.1)), hS3.fr (hRo2.pre hP3) hF4 stW_X15_pledge, z1⟩
  have x14 : nExt ν ν4 := x1.trans (x2.trans (x3.trans x4))
  have hA4 := hA4.reb rd
  show zE zrx zi 57 243 859 lv3 _ h4 u4 lKK
  refine seg wT_ok lC_e_ok 3000 lY3_e_824_0 (Nat.le_refl _) x14 hlen hA4 rfl rfl hH4 (by omega) (by omega) ?_
  intro x hx N5 ρ5 ν5 lv5 st5 h5 u5 x5 hA5 hH5 hF5 hP5
  rw [List.mem_singleton.mp hx] at hA5 ⊢
  clear hx x
  dsimp only at hA5 ⊢
  have b9 : (h5.length : Int) - h4.length ≤ 0 := Int.le_trans (hA5.cost (by decide +kernel)).1 (by decide +kernel)
  have c1 : (u5 : Int) - u4 ≤ 0 := Int.le_trans (hA5.cost (by decide +kernel)).2 (by decide +kernel)
  obtain ⟨j, j1, j2⟩ := l_i hA5 rfl rfl (x5 _ _ v4)
  exact l_next (g := false) ih [0, 1, 2, 3, 15, 5, 6, 7, 8, 9, 10, 11, 12, 13, 14] (by decide +kernel) (by decide +kernel) hA5 rfl hH5 rfl rfl rfl rfl j1 (x5 _ _ v7) (x5 _ _ v9) (x5 _ _ v11) (acc.dear j2 (by omega) (by omega) false (fun z => z)) (by omega) rfl rfl rfl (lR.fr ⟨hR4.1, x5 _ _ (hR.2.1), x5 _ _ (hR.2.2.1), x5 _ _ (hR.2.2.2.1), hR4.2.2.2.2⟩ hH4 hF5 hP5 (nExt.refl ν5) stW_nil rW_nil)
def lYa_e_864 : sS := ([(3, 0, 0), (3, 8, 0), (3, 40, 0), (3, 36, 0), (0, 0, 4088), (0, 8, 4096), (3, 45, 0), (0, 0, 40), (3, 48, 0), (0, 0, 24), (3, 51, 0), (0, 0, 24), (0, 0, 4088), (0, 0, 4088), (3, 1, 0), (0, 1, 1), (0, 1, 4089), (0, -2147483648, 2147483647)], [(0, 0), (1, 1), (2, 2), (3, 3), (4, 4)], [3, 17, 1], [(4, 0, 16, 17, 0), (0, 16, 4, 0, 1), (0, 4, 16, 0, -1), (0, 4, 5, 0, -8), (3, 0, 5, 0, 0), (2, 2, 7, 6, 0), (2, 6, 2, 7, 0), (2, 2, 8, 8, 0), (2, 8, 2, 9, 0), (2, 2, 9, 10, 0), (2, 10, 2, 11, 0), (2, 1, 1, 12, 0), (2, 2, 3, 13, 0), (0, 12, 13, 0, 0), (0, 13, 12, 0, 0), (2, 2, 10, 14, 0), (0, 12, 4, 0, 0), (0, 13, 4, 0, 0)], 0, 0, [])
def lYb_e_864 : sS := vZ (cvS zi lYa_e_864 k_L_vote (cx1 k_L_vote))
def lYc_e_864 : sS := ([(3, 0, 0), (3, 8, 0), (3, 40, 0), (3, 36, 0), (0, 0, 4088), (0, 8, 4096), (3, 45, 0), (0, 0, 40), (3, 48, 0), (0, 0, 24), (3, 51, 0), (0, 0, 24), (0, 0, 4088), (0, 0, 4088), (3, 1, 0), (0, 1, 1), (0, 1, 4089), (0, -2147483648, 2147483647), (0, 0, 2), (0, 1, 1)], [(5, 18), (0, 0), (1, 1), (2, 2), (3, 3), (4, 4)], [17, 2], [(4, 0, 16, 17, 0), (0, 16, 4, 0, 1), (0, 4, 16, 0, -1), (0, 4, 5, 0, -8), (3, 0, 5, 0, 0), (2, 2, 7, 6, 0), (2, 6, 2, 7, 0), (2, 2, 8, 8, 0), (2, 8, 2, 9, 0), (2, 2, 9, 10, 0), (2, 10, 2, 11, 0), (2, 1, 1, 12, 0), (2, 2, 3, 13, 0), (0, 12, 13, 0, 0), (0, 13, 12, 0, 0), (2, 2, 10, 14, 0), (0, 12, 4, 0, 0), (0, 13, 4, 0, 0)], 0, 0, [])
theorem lY1_e_864 : chk zrx zi wT (wRo wSites_15) (wRo wTags_15) lC_e [] 0 0 15 3000 false [(872, lYa_e_864, [])] none 57 243 864 (vZ lM_e) (fun _ _ => false) = true := by decide +kernel
theorem lY2_e_864 : chk zrx zi wT (wRo wSites_15) (wRo wTags_15) lC_e [] 0 0 19 3000 false [(884, lYc_e_864, [])] none 57 243 875 lYb_e_864 (fun _ _ => false) = true := by decide +kernel
theorem lV1_e_864 : cvOk zrx zi wT 243 872 56 lYa_e_864 k_L_vote = true := by decide +kernel
theorem lV2_e_864 : cvOk zrx zi wT 243 884 56 lYc_e_864 k_X15_vote = true := by decide +kernel
theorem lYn_e_864 : lYb_e_864.1.length = 19 := by decide +kernel
theorem lYr_e_864 : (vZ lM_e).2.2.2.1.all (fun f => !(f.1 == 7)) = true ∧ lYa_e_864.2.2.2.1.all (fun f => !(f.1 == 7)) = true ∧ (cvS zi lYa_e_864 k_L_vote (cx1 k_L_vote)).2.2.2.1.all (fun f => !(f.1 == 7)) = true ∧ lYc_e_864.2.2.2.1.all (fun f => !(f.1 == 7)) = true := by decide +kernel
def lYd0_e_864 : sS := vZ (cvS zi lYc_e_864 k_X15_vote (cxi k_X15_vote 0))
theorem lYd0_e_864n : lYd0_e_864.1.length = 21 ∧ (cvS zi lYc_e_864 k_X15_vote (cxi k_X15_vote 0)).2.2.2.1.all (fun f => !(f.1 == 7)) = true := by decide +kernel
theorem lY3_e_864_0 : chk zrx zi wT (wRo wSites_15) (wRo wTags_15) lC_e [] 0 0 15 3000 false [(27, lT_eza, [])] none 57 243 887 lYd0_e_864 (fun _ _ => false) = true := by decide +kernel
set_option maxRecDepth 20000 in
theorem lA_e_864 {n : Nat} (ih : lIH n) {hb ub : Nat} {N : Int} {ρ : List Nat} {ν : List Value} {lv : List (Nat × Value)} {st : List Value} {h : List zC} {u : Nat} {i R C A : Int32} {F : Int} (hA : gA hb ub ρ ν lM_e lv st h u) (hH : tHeap wT N ρ h) (v4 : ν[4]? = some (.int i)) (v7 : ν[7]? = some (.int R)) (v9 : ν[9]? = some (.int C)) (v11 : ν[11]? = some (.int A))
    (i4 : i.toInt ≤ 4096) (acc : lAcc false hb ub i.toInt R.toInt C.toInt A.toInt F) (rm1 : (ub : Int) + 17920 ≤ zSN) (rm2 : (hb : Int) + 1152 ≤ zCM) (hn : 4104 - i.toInt ≤ (n + 1 : Nat)) (hR : lR ρ ν h) : zE zrx zi 57 243 864 lv st h u lKK := by
  obtain ⟨dl1, dl2, dl3, dl4⟩ := lD_lo R.toInt C.toInt A.toInt
  obtain ⟨r0, ra, rb, rc⟩ := lYr_e_864
  have q0 : (h.length : Int) - hb ≤ 0 := hA.2.2.2.2.1
  have q1 : (u : Int) - ub ≤ 0 := hA.2.2.2.2.2
  have hlen : ν.length ≤ 15 := by
    rw [← hA.1.1]
    exact Nat.le_of_eq rfl
  refine seg wT_ok lC_e_ok 3000 lY1_e_864 (Nat.le_refl _) (nExt.refl ν) hlen (hA.reb r0) rfl rfl hH (by omega) (by omega) ?_
  intro x hx N1 ρ1 ν1 lv1 st1 h1 u1 x1 hA1 hH1 hF1 hP1
  rw [List.mem_singleton.mp hx] at hA1 ⊢
  clear hx x
  dsimp only at hA1 ⊢
  have hR1 := hR.fr hH hF1 hP1 x1 stW_nil rW_nil
  have b1 : (h1.length : Int) - h.length ≤ 0 := Int.le_trans (hA1.cost (by decide +kernel)).1 (by decide +kernel)
  have b2 : (u1 : Int) - u ≤ 0 := Int.le_trans (hA1.cost (by decide +kernel)).2 (by decide +kernel)
  have hT : gSt ν1 [3, 17, 1] st1 := hA1.2.2.1
  obtain ⟨w0, sa0, ea0, o0, ha0⟩ := hT.inv
  subst ea0
  rw [hR1.2.2.2.1] at o0
  cases o0
  obtain ⟨w1, sa1, ea1, o1, ha1⟩ := ha0.inv
  subst ea1
  obtain ⟨p17, rfl, -⟩ := hA1.int o1 rfl
  obtain ⟨w2, sa2, ea2, o2, ha2⟩ := ha1.inv
  subst ea2
  rw [hR1.2.1] at o2
  cases o2
  cases ha2.nil
  obtain ⟨T, L, fs, fa, fbd, t1, t3, fm1⟩ := hR1.2.2.2.2.2.1.1
  obtain ⟨cnt, el, c0, c2, c1, cel, h0c, h24, -⟩ := id (hR1.2.2.2.2.2.1.2.1)
  obtain ⟨dd, d1, d2, d3⟩ := id (hR1.2.2.2.2.2.2.2.2.1)
  have t2 : L ≤ 60 := fm1.l60
  refine call_val con_L_vote vr_243_872 lV1_e_864 rfl rfl (hA1.reb ra) hH1 (by have : k_L_vote.2.2.2.2.1 = 1 := rfl; omega) (by have : k_L_vote.2.2.2.2.2.1 = 6 := rfl; omega) rfl (fun n => C_Lvote n p17 h1 u1 hR1.2.2.2.2.1 c0 h24 (clause_at (hR1.2.2.2.2.2.1.2.1) c0)) ?_
  intro N2 ρ2 ν2 v h2 u2 n2 x2 hA2 hH2 hF2 hP2 V1
  obtain ⟨k, hk, V1⟩ := V1
  cases hk
  have V1 : Q_Lvote cnt p17 h1 (.inl (some (.int k))) h2 u2 := ⟨k, rfl, V1⟩
  have b3 : (h2.length : Int) - h1.length ≤ 1 := Int.le_trans (hA2.cost (by decide +kernel)).1 (by decide +kernel)
  have b4 : (u2 : Int) - u1 ≤ 6 := Int.le_trans (hA2.cost (by decide +kernel)).2 (by decide +kernel)
  have hTk : ν2[18]? = some (.int k) := gSt_hd hA2.2.2.1 (by decide +kernel)
  have hlen2 : ν2.length ≤ 19 := by
    rw [← hA2.1.1]
    exact Nat.le_of_eq lYn_e_864
  have hS2 : Stc h2 := hR1.2.2.2.2.1.fr hR1.1 hF2 stW_L_vote
  have hRo2 : Ro ρ2 := hR1.1.pre hP2
  show zE zrx zi 57 243 875 lv1 _ h2 u2 lKK
  refine seg wT_ok lC_e_ok 3000 lY2_e_864 (Nat.le_refl _) (nExt.refl ν2) hlen2 (hA2.reb rb) rfl rfl hH2 (by omega) (by omega) ?_
  intro x hx N3 ρ3 ν3 lv3 st3 h3 u3 x3 hA3 hH3 hF3 hP3
  rw [List.mem_singleton.mp hx] at hA3 ⊢
  clear hx x
  dsimp only at hA3 ⊢
  have hS3 : Stc h3 := hS2.fr hRo2 hF3 stW_nil
  have b5 : (h3.length : Int) - h2.length ≤ 0 := Int.le_trans (hA3.cost (by decide +kernel)).1 (by decide +kernel)
  have b6 : (u3 : Int) - u2 ≤ 0 := Int.le_trans (hA3.cost (by decide +kernel)).2 (by decide +kernel)
  have hE : ∀ p, p < h2.length → ∀ k, gF h3 p k = gF h2 p k := fun p hp k => gFr_F0 hF3 hH2.1 hp k
  have hT : gSt ν3 [17, 2] st3 := hA3.2.2.1
  obtain ⟨w0, sb0, eb0, c0, hb0⟩ := hT.inv
  subst eb0
  rw [x3 _ _ (x2 _ _ o1)] at c0
  cases c0
  obtain ⟨w1, sb1, eb1, c1, hb1⟩ := hb0.inv
  subst eb1
  rw [x3 _ _ (x2 _ _ hR1.2.2.1)] at c1
  cases c1
  cases hb1.nil
  have hl1 := hR1.2.2.2.2.1.1
  have hl2 := gFr_len hF2
  have hl3 := gFr_len hF3
  have ro3 : Ro ρ3 := hRo2.pre hP3
  have m2 := (hE 225 (by omega) 2).trans ((gFr_F hF2 (hR1.1 225 51 (by decide +kernel)) (by decide +kernel) (by omega)).trans c2)
  have m1 := (hE 225 (by omega) 1).trans ((gFr_F hF2 (hR1.1 225 51 (by decide +kernel)) (by decide +kernel) (by omega)).trans c1)
  obtain ⟨⟨l, l1, l2⟩, l3, l4, l5, l6, l7, l8⟩ := al_at hH3 ro3 m1 m2
  have l213 : ¬ el = 213 := by omega
  have hA7 : ∀ k, k < cnt.toNatClampNeg → ∃ A : Nat, gF h3 el k = some (.ref A) ∧ 239 ≤ A := fun k hk => by
    obtain ⟨e, e1, e2⟩ := l8 k hk
    exact ⟨e, e1, A_new ro3 e2⟩
  refine call_val con_X15_vote vr_243_884 lV2_e_864 rfl rfl (hA3.reb rc) hH3 (by have : k_X15_vote.2.2.2.2.1 = 0 := rfl; omega) (by have : k_X15_vote.2.2.2.2.2.1 = 0 := rfl; omega) rfl (fun n => C_mvote n p17 h3 u3 hS3 m1 m2 h0c l213 hA7 (fun hx A hA => by
    obtain ⟨e, e1, e2⟩ := l8 _ (iN_cl h0c hx)
    rw [hA] at e1
    cases e1
    exact art_ints hH3 e2)) ?_
  intro N4 ρ4 ν4 v h4 u4 n4 x4 hA4 hH4 hF4 hP4 V2
  obtain ⟨nd, rd⟩ := lYd0_e_864n
  obtain ⟨r, hr⟩ : ∃ r : Int32, v = .int r := by
    first
      | (obtain ⟨r, h0, hr, -⟩ := V2; cases hr; exact ⟨r, rfl⟩)
      | (obtain ⟨r, hr, -⟩ := V2; cases hr; exact ⟨r, rfl⟩)
  subst hr
  have b7 : (h4.length : Int) - h3.length ≤ 0 := Int.le_trans (hA4.cost (by decide +kernel)).1 (by decide +kernel)
  have b8 : (u4 : Int) - u3 ≤ 0 := Int.le_trans (hA4.cost (by decide +kernel)).2 (by decide +kernel)
  have z1 := ((by
    obtain ⟨⟨y1, y5⟩, y2, y3, y4⟩ := sum_vote hl1 hH1 hR1.1 (hR1.2.2.2.2.2.1.2.2.1) (hR1.2.2.2.2.2.1.2.1) d1 d2 c0 c1 h0c h24 hl2 V1 hE V2
    exact ⟨⟨⟨qFed.fr3 (hR1.2.2.2.2.2.1.1) hR1.2.2.2.2.1 hR1.1 hH1 hF2 (by decide +kernel) hS2 hRo2 hH2 hF3 hS3 (hRo2.pre hP3) hH3 hF4 (by decide +kernel), y5, y1, (exX_vote (hR1.2.2.2.2.2.1.2.2.2) h24 d1 d3 V1).fr2 hS2 hRo2 hH2 hF3 hS3 (hRo2.pre hP3) hH3 hF4 (by decide +kernel)⟩, ⟨qRFu.fr3 (hR1.2.2.2.2.2.2.1.1) hR1.2.2.2.2.1 hR1.1 hH1 hF2 (by decide +kernel) hS2 hRo2 hH2 hF3 hS3 (hRo2.pre hP3) hH3 hF4 (by decide +kernel), qRCs.fr3 (hR1.2.2.2.2.2.2.1.2.1) hR1.2.2.2.2.1 hR1.1 hH1 hF2 (by decide +kernel) hS2 hRo2 hH2 hF3 hS3 (hRo2.pre hP3) hH3 hF4 (by decide +kernel), qVd.fr3 (hR1.2.2.2.2.2.2.1.2.2) hR1.2.2.2.2.1 hR1.1 hH1 hF2 (by decide +kernel) hS2 hRo2 hH2 hF3 hS3 (hRo2.pre hP3) hH3 hF4 (by decide +kernel)⟩, ⟨Rw.fr3 (hR1.2.2.2.2.2.2.2.1.1) hR1.2.2.2.2.1 hR1.1 hH1 hF2 (by decide +kernel) hS2 hRo2 hH2 hF3 hS3 (hRo2.pre hP3) hH3 hF4 (by decide +kernel), qSm.fr3T (hR1.2.2.2.2.2.2.2.1.2.1) hR1.2.2.2.2.1 hR1.1 hH1 hF2 (by decide +kernel) hS2 hRo2 hH2 hF3 hS3 (hRo2.pre hP3) hH3 hF4 (by decide +kernel), qSm.fr3Y (hR1.2.2.2.2.2.2.2.1.2.2) hR1.2.2.2.2.1 hR1.1 hH1 hF2 (by decide +kernel) hS2 hRo2 hH2 hF3 hS3 (hRo2.pre hP3) hH3 hF4 (by decide +kernel)⟩, qDz.fr3 (hR1.2.2.2.2.2.2.2.2.1) hR1.2.2.2.2.1 hR1.1 hH1 hF2 (by decide +kernel) hS2 hRo2 hH2 hF3 hS3 (hRo2.pre hP3) hH3 hF4 (by decide +kernel), qRv.fr3 (hR1.2.2.2.2.2.2.2.2.2) hR1.2.2.2.2.1 hR1.1 hH1 hF2 (by decide +kernel) hS2 hRo2 hH2 hF3 hS3 (hRo2.pre hP3) hH3 hF4 (by decide +kernel)⟩, trivial⟩ : qAll h4 ∧ True)).1
  have hR4 : lR ρ4 ν4 h4 := ⟨(hRo2.pre hP3).pre hP4, x4 _ _ (x3 _ _ (x2 _ _ hR1.2.1)), x4 _ _ (x3 _ _ (x2 _ _ hR1.2.2.1)), x4 _ _ (x3 _ _ (x2 _ _ hR1.2.2.2.1)), hS3.fr (hRo2.pre hP3) hF4 stW_X15_vote, z1⟩
  have x14 : nExt ν ν4 := x1.trans (x2.trans (x3.trans x4))
  have hA4 := hA4.reb rd
  show zE zrx zi 57 243 887 lv3 _ h4 u4 lKK
  refine seg wT_ok lC_e_ok 3000 lY3_e_864_0 (Nat.le_refl _) x14 hlen hA4 rfl rfl hH4 (by omega) (by omega) ?_
  intro x hx N5 ρ5 ν5 lv5 st5 h5 u5 x5 hA5 hH5 hF5 hP5
  rw [List.mem_singleton.mp hx] at hA5 ⊢
  clear hx x
  dsimp only at hA5 ⊢
  have b9 : (h5.length : Int) - h4.length ≤ 0 := Int.le_trans (hA5.cost (by decide +kernel)).1 (by decide +kernel)
  have c1 : (u5 : Int) - u4 ≤ 0 := Int.le_trans (hA5.cost (by decide +kernel)).2 (by decide +kernel)
  obtain ⟨j, j1, j2⟩ := l_i hA5 rfl rfl (x5 _ _ v4)
  exact l_next (g := false) ih [0, 1, 2, 3, 15, 5, 6, 7, 8, 9, 10, 11, 12, 13, 14] (by decide +kernel) (by decide +kernel) hA5 rfl hH5 rfl rfl rfl rfl j1 (x5 _ _ v7) (x5 _ _ v9) (x5 _ _ v11) (acc.dear j2 (by omega) (by omega) false (fun z => z)) (by omega) rfl rfl rfl (lR.fr ⟨hR4.1, x5 _ _ (hR.2.1), x5 _ _ (hR.2.2.1), x5 _ _ (hR.2.2.2.1), hR4.2.2.2.2⟩ hH4 hF5 hP5 (nExt.refl ν5) stW_nil rW_nil)
def lYa_e_892 : sS := ([(3, 0, 0), (3, 8, 0), (3, 40, 0), (3, 36, 0), (0, 0, 4088), (0, 8, 4096), (3, 45, 0), (0, 0, 40), (3, 48, 0), (0, 0, 24), (3, 51, 0), (0, 0, 24), (0, 0, 4088), (0, 0, 4088), (3, 1, 0), (0, 1, 1), (0, 1, 4089), (0, -2147483648, 2147483647)], [(0, 0), (1, 1), (2, 2), (3, 3), (4, 4)], [3, 17, 1], [(4, 0, 16, 17, 0), (0, 16, 4, 0, 1), (0, 4, 16, 0, -1), (0, 4, 5, 0, -8), (3, 0, 5, 0, 0), (2, 2, 7, 6, 0), (2, 6, 2, 7, 0), (2, 2, 8, 8, 0), (2, 8, 2, 9, 0), (2, 2, 9, 10, 0), (2, 10, 2, 11, 0), (2, 1, 1, 12, 0), (2, 2, 3, 13, 0), (0, 12, 13, 0, 0), (0, 13, 12, 0, 0), (2, 2, 10, 14, 0), (0, 12, 4, 0, 0), (0, 13, 4, 0, 0)], 0, 0, [])
def lYb_e_892 : sS := vZ (cvS zi lYa_e_892 k_L_repeal (cx1 k_L_repeal))
def lYc_e_892 : sS := ([(3, 0, 0), (3, 8, 0), (3, 40, 0), (3, 36, 0), (0, 0, 4088), (0, 8, 4096), (3, 45, 0), (0, 0, 40), (3, 48, 0), (0, 0, 24), (3, 51, 0), (0, 0, 24), (0, 0, 4088), (0, 0, 4088), (3, 1, 0), (0, 1, 1), (0, 1, 4089), (0, -2147483648, 2147483647), (0, 0, 2), (0, 1, 1)], [(5, 18), (0, 0), (1, 1), (2, 2), (3, 3), (4, 4)], [17, 2], [(4, 0, 16, 17, 0), (0, 16, 4, 0, 1), (0, 4, 16, 0, -1), (0, 4, 5, 0, -8), (3, 0, 5, 0, 0), (2, 2, 7, 6, 0), (2, 6, 2, 7, 0), (2, 2, 8, 8, 0), (2, 8, 2, 9, 0), (2, 2, 9, 10, 0), (2, 10, 2, 11, 0), (2, 1, 1, 12, 0), (2, 2, 3, 13, 0), (0, 12, 13, 0, 0), (0, 13, 12, 0, 0), (2, 2, 10, 14, 0), (0, 12, 4, 0, 0), (0, 13, 4, 0, 0)], 0, 0, [])
theorem lY1_e_892 : chk zrx zi wT (wRo wSites_15) (wRo wTags_15) lC_e [] 0 0 15 3000 false [(900, lYa_e_892, [])] none 57 243 892 (vZ lM_e) (fun _ _ => false) = true := by decide +kernel
theorem lY2_e_892 : chk zrx zi wT (wRo wSites_15) (wRo wTags_15) lC_e [] 0 0 19 3000 false [(912, lYc_e_892, [])] none 57 243 903 lYb_e_892 (fun _ _ => false) = true := by decide +kernel
theorem lV1_e_892 : cvOk zrx zi wT 243 900 56 lYa_e_892 k_L_repeal = true := by decide +kernel
theorem lV2_e_892 : cvOk zrx zi wT 243 912 56 lYc_e_892 k_X15_repeal = true := by decide +kernel
theorem lYn_e_892 : lYb_e_892.1.length = 19 := by decide +kernel
theorem lYr_e_892 : (vZ lM_e).2.2.2.1.all (fun f => !(f.1 == 7)) = true ∧ lYa_e_892.2.2.2.1.all (fun f => !(f.1 == 7)) = true ∧ (cvS zi lYa_e_892 k_L_repeal (cx1 k_L_repeal)).2.2.2.1.all (fun f => !(f.1 == 7)) = true ∧ lYc_e_892.2.2.2.1.all (fun f => !(f.1 == 7)) = true := by decide +kernel
def lYd0_e_892 : sS := vZ (cvS zi lYc_e_892 k_X15_repeal (cxi k_X15_repeal 0))
theorem lYd0_e_892n : lYd0_e_892.1.length = 21 ∧ (cvS zi lYc_e_892 k_X15_repeal (cxi k_X15_repeal 0)).2.2.2.1.all (fun f => !(f.1 == 7)) = true := by decide +kernel
theorem lY3_e_892_0 : chk zrx zi wT (wRo wSites_15) (wRo wTags_15) lC_e [] 0 0 15 3000 false [(27, lT_eza, [])] none 57 243 915 lYd0_e_892 (fun _ _ => false) = true := by decide +kernel
set_option maxRecDepth 20000 in
theorem lA_e_892 {n : Nat} (ih : lIH n) {hb ub : Nat} {N : Int} {ρ : List Nat} {ν : List Value} {lv : List (Nat × Value)} {st : List Value} {h : List zC} {u : Nat} {i R C A : Int32} {F : Int} (hA : gA hb ub ρ ν lM_e lv st h u) (hH : tHeap wT N ρ h) (v4 : ν[4]? = some (.int i)) (v7 : ν[7]? = some (.int R)) (v9 : ν[9]? = some (.int C)) (v11 : ν[11]? = some (.int A))
    (i4 : i.toInt ≤ 4096) (acc : lAcc false hb ub i.toInt R.toInt C.toInt A.toInt F) (rm1 : (ub : Int) + 17920 ≤ zSN) (rm2 : (hb : Int) + 1152 ≤ zCM) (hn : 4104 - i.toInt ≤ (n + 1 : Nat)) (hR : lR ρ ν h) : zE zrx zi 57 243 892 lv st h u lKK := by
  obtain ⟨dl1, dl2, dl3, dl4⟩ := lD_lo R.toInt C.toInt A.toInt
  obtain ⟨r0, ra, rb, rc⟩ := lYr_e_892
  have q0 : (h.length : Int) - hb ≤ 0 := hA.2.2.2.2.1
  have q1 : (u : Int) - ub ≤ 0 := hA.2.2.2.2.2
  have hlen : ν.length ≤ 15 := by
    rw [← hA.1.1]
    exact Nat.le_of_eq rfl
  refine seg wT_ok lC_e_ok 3000 lY1_e_892 (Nat.le_refl _) (nExt.refl ν) hlen (hA.reb r0) rfl rfl hH (by omega) (by omega) ?_
  intro x hx N1 ρ1 ν1 lv1 st1 h1 u1 x1 hA1 hH1 hF1 hP1
  rw [List.mem_singleton.mp hx] at hA1 ⊢
  clear hx x
  dsimp only at hA1 ⊢
  have hR1 := hR.fr hH hF1 hP1 x1 stW_nil rW_nil
  have b1 : (h1.length : Int) - h.length ≤ 0 := Int.le_trans (hA1.cost (by decide +kernel)).1 (by decide +kernel)
  have b2 : (u1 : Int) - u ≤ 0 := Int.le_trans (hA1.cost (by decide +kernel)).2 (by decide +kernel)
  have hT : gSt ν1 [3, 17, 1] st1 := hA1.2.2.1
  obtain ⟨w0, sa0, ea0, o0, ha0⟩ := hT.inv
  subst ea0
  rw [hR1.2.2.2.1] at o0
  cases o0
  obtain ⟨w1, sa1, ea1, o1, ha1⟩ := ha0.inv
  subst ea1
  obtain ⟨p17, rfl, -⟩ := hA1.int o1 rfl
  obtain ⟨w2, sa2, ea2, o2, ha2⟩ := ha1.inv
  subst ea2
  rw [hR1.2.1] at o2
  cases o2
  cases ha2.nil
  obtain ⟨T, L, fs, fa, fbd, t1, t3, fm1⟩ := hR1.2.2.2.2.2.1.1
  obtain ⟨cnt, el, c0, c2, c1, cel, h0c, h24, -⟩ := id (hR1.2.2.2.2.2.1.2.1)
  obtain ⟨dd, d1, d2, d3⟩ := id (hR1.2.2.2.2.2.2.2.2.1)
  have t2 : L ≤ 60 := fm1.l60
  refine call_val con_L_repeal vr_243_900 lV1_e_892 rfl rfl (hA1.reb ra) hH1 (by have : k_L_repeal.2.2.2.2.1 = 1 := rfl; omega) (by have : k_L_repeal.2.2.2.2.2.1 = 6 := rfl; omega) rfl (fun n => C_Lrepeal n p17 h1 u1 hR1.2.2.2.2.1 c0 h24 (clause_at (hR1.2.2.2.2.2.1.2.1) c0)) ?_
  intro N2 ρ2 ν2 v h2 u2 n2 x2 hA2 hH2 hF2 hP2 V1
  obtain ⟨k, hk, V1⟩ := V1
  cases hk
  have V1 : Q_Lrepeal cnt p17 h1 (.inl (some (.int k))) h2 u2 := ⟨k, rfl, V1⟩
  have b3 : (h2.length : Int) - h1.length ≤ 1 := Int.le_trans (hA2.cost (by decide +kernel)).1 (by decide +kernel)
  have b4 : (u2 : Int) - u1 ≤ 6 := Int.le_trans (hA2.cost (by decide +kernel)).2 (by decide +kernel)
  have hTk : ν2[18]? = some (.int k) := gSt_hd hA2.2.2.1 (by decide +kernel)
  have hlen2 : ν2.length ≤ 19 := by
    rw [← hA2.1.1]
    exact Nat.le_of_eq lYn_e_892
  have hS2 : Stc h2 := hR1.2.2.2.2.1.fr hR1.1 hF2 stW_L_repeal
  have hRo2 : Ro ρ2 := hR1.1.pre hP2
  show zE zrx zi 57 243 903 lv1 _ h2 u2 lKK
  refine seg wT_ok lC_e_ok 3000 lY2_e_892 (Nat.le_refl _) (nExt.refl ν2) hlen2 (hA2.reb rb) rfl rfl hH2 (by omega) (by omega) ?_
  intro x hx N3 ρ3 ν3 lv3 st3 h3 u3 x3 hA3 hH3 hF3 hP3
  rw [List.mem_singleton.mp hx] at hA3 ⊢
  clear hx x
  dsimp only at hA3 ⊢
  have hS3 : Stc h3 := hS2.fr hRo2 hF3 stW_nil
  have b5 : (h3.length : Int) - h2.length ≤ 0 := Int.le_trans (hA3.cost (by decide +kernel)).1 (by decide +kernel)
  have b6 : (u3 : Int) - u2 ≤ 0 := Int.le_trans (hA3.cost (by decide +kernel)).2 (by decide +kernel)
  have hE : ∀ p, p < h2.length → ∀ k, gF h3 p k = gF h2 p k := fun p hp k => gFr_F0 hF3 hH2.1 hp k
  have hT : gSt ν3 [17, 2] st3 := hA3.2.2.1
  obtain ⟨w0, sb0, eb0, c0, hb0⟩ := hT.inv
  subst eb0
  rw [x3 _ _ (x2 _ _ o1)] at c0
  cases c0
  obtain ⟨w1, sb1, eb1, c1, hb1⟩ := hb0.inv
  subst eb1
  rw [x3 _ _ (x2 _ _ hR1.2.2.1)] at c1
  cases c1
  cases hb1.nil
  have hl1 := hR1.2.2.2.2.1.1
  have hl2 := gFr_len hF2
  have hl3 := gFr_len hF3
  have ro3 : Ro ρ3 := hRo2.pre hP3
  have m2 := (hE 225 (by omega) 2).trans ((gFr_F hF2 (hR1.1 225 51 (by decide +kernel)) (by decide +kernel) (by omega)).trans c2)
  have m1 := (hE 225 (by omega) 1).trans ((gFr_F hF2 (hR1.1 225 51 (by decide +kernel)) (by decide +kernel) (by omega)).trans c1)
  obtain ⟨⟨l, l1, l2⟩, l3, l4, l5, l6, l7, l8⟩ := al_at hH3 ro3 m1 m2
  have l213 : ¬ el = 213 := by omega
  have hA7 : ∀ k, k < cnt.toNatClampNeg → ∃ A : Nat, gF h3 el k = some (.ref A) ∧ 239 ≤ A := fun k hk => by
    obtain ⟨e, e1, e2⟩ := l8 k hk
    exact ⟨e, e1, A_new ro3 e2⟩
  refine call_val con_X15_repeal vr_243_912 lV2_e_892 rfl rfl (hA3.reb rc) hH3 (by have : k_X15_repeal.2.2.2.2.1 = 0 := rfl; omega) (by have : k_X15_repeal.2.2.2.2.2.1 = 0 := rfl; omega) rfl (fun n => C_mrepeal n p17 h3 u3 hS3 m1 m2 h0c l213 hA7) ?_
  intro N4 ρ4 ν4 v h4 u4 n4 x4 hA4 hH4 hF4 hP4 V2
  obtain ⟨nd, rd⟩ := lYd0_e_892n
  obtain ⟨r, hr⟩ : ∃ r : Int32, v = .int r := by
    first
      | (obtain ⟨r, h0, hr, -⟩ := V2; cases hr; exact ⟨r, rfl⟩)
      | (obtain ⟨r, hr, -⟩ := V2; cases hr; exact ⟨r, rfl⟩)
  subst hr
  have b7 : (h4.length : Int) - h3.length ≤ 0 := Int.le_trans (hA4.cost (by decide +kernel)).1 (by decide +kernel)
  have b8 : (u4 : Int) - u3 ≤ 0 := Int.le_trans (hA4.cost (by decide +kernel)).2 (by decide +kernel)
  have z1 := ((by
    obtain ⟨y1, y2, y3, y4⟩ := sum_repeal hl1 hH1 hR1.1 (hR1.2.2.2.2.2.1.2.2.1) (hR1.2.2.2.2.2.1.2.1) d1 d2 c0 c1 h0c h24 hl2 V1 hE V2
    exact ⟨⟨⟨qFed.fr3 (hR1.2.2.2.2.2.1.1) hR1.2.2.2.2.1 hR1.1 hH1 hF2 (by decide +kernel) hS2 hRo2 hH2 hF3 hS3 (hRo2.pre hP3) hH3 hF4 (by decide +kernel), y1, qHO.fr3 (hR1.2.2.2.2.2.1.2.2.1) hR1.2.2.2.2.1 hR1.1 hH1 hF2 (by decide +kernel) hS2 hRo2 hH2 hF3 hS3 (hRo2.pre hP3) hH3 hF4 (by decide +kernel), (exX_repeal (hR1.2.2.2.2.2.1.2.2.2) h24 d1 d3 V1).fr2 hS2 hRo2 hH2 hF3 hS3 (hRo2.pre hP3) hH3 hF4 (by decide +kernel)⟩, ⟨qRFu.fr3 (hR1.2.2.2.2.2.2.1.1) hR1.2.2.2.2.1 hR1.1 hH1 hF2 (by decide +kernel) hS2 hRo2 hH2 hF3 hS3 (hRo2.pre hP3) hH3 hF4 (by decide +kernel), qRCs.fr3 (hR1.2.2.2.2.2.2.1.2.1) hR1.2.2.2.2.1 hR1.1 hH1 hF2 (by decide +kernel) hS2 hRo2 hH2 hF3 hS3 (hRo2.pre hP3) hH3 hF4 (by decide +kernel), qVd.fr3 (hR1.2.2.2.2.2.2.1.2.2) hR1.2.2.2.2.1 hR1.1 hH1 hF2 (by decide +kernel) hS2 hRo2 hH2 hF3 hS3 (hRo2.pre hP3) hH3 hF4 (by decide +kernel)⟩, ⟨Rw.fr3 (hR1.2.2.2.2.2.2.2.1.1) hR1.2.2.2.2.1 hR1.1 hH1 hF2 (by decide +kernel) hS2 hRo2 hH2 hF3 hS3 (hRo2.pre hP3) hH3 hF4 (by decide +kernel), qSm.fr3T (hR1.2.2.2.2.2.2.2.1.2.1) hR1.2.2.2.2.1 hR1.1 hH1 hF2 (by decide +kernel) hS2 hRo2 hH2 hF3 hS3 (hRo2.pre hP3) hH3 hF4 (by decide +kernel), qSm.fr3Y (hR1.2.2.2.2.2.2.2.1.2.2) hR1.2.2.2.2.1 hR1.1 hH1 hF2 (by decide +kernel) hS2 hRo2 hH2 hF3 hS3 (hRo2.pre hP3) hH3 hF4 (by decide +kernel)⟩, qDz.fr3 (hR1.2.2.2.2.2.2.2.2.1) hR1.2.2.2.2.1 hR1.1 hH1 hF2 (by decide +kernel) hS2 hRo2 hH2 hF3 hS3 (hRo2.pre hP3) hH3 hF4 (by decide +kernel), qRv.fr3 (hR1.2.2.2.2.2.2.2.2.2) hR1.2.2.2.2.1 hR1.1 hH1 hF2 (by decide +kernel) hS2 hRo2 hH2 hF3 hS3 (hRo2.pre hP3) hH3 hF4 (by decide +kernel)⟩, trivial⟩ : qAll h4 ∧ True)).1
  have hR4 : lR ρ4 ν4 h4 := ⟨(hRo2.pre hP3).pre hP4, x4 _ _ (x3 _ _ (x2 _ _ hR1.2.1)), x4 _ _ (x3 _ _ (x2 _ _ hR1.2.2.1)), x4 _ _ (x3 _ _ (x2 _ _ hR1.2.2.2.1)), hS3.fr (hRo2.pre hP3) hF4 stW_X15_repeal, z1⟩
  have x14 : nExt ν ν4 := x1.trans (x2.trans (x3.trans x4))
  have hA4 := hA4.reb rd
  show zE zrx zi 57 243 915 lv3 _ h4 u4 lKK
  refine seg wT_ok lC_e_ok 3000 lY3_e_892_0 (Nat.le_refl _) x14 hlen hA4 rfl rfl hH4 (by omega) (by omega) ?_
  intro x hx N5 ρ5 ν5 lv5 st5 h5 u5 x5 hA5 hH5 hF5 hP5
  rw [List.mem_singleton.mp hx] at hA5 ⊢
  clear hx x
  dsimp only at hA5 ⊢
  have b9 : (h5.length : Int) - h4.length ≤ 0 := Int.le_trans (hA5.cost (by decide +kernel)).1 (by decide +kernel)
  have c1 : (u5 : Int) - u4 ≤ 0 := Int.le_trans (hA5.cost (by decide +kernel)).2 (by decide +kernel)
  obtain ⟨j, j1, j2⟩ := l_i hA5 rfl rfl (x5 _ _ v4)
  exact l_next (g := false) ih [0, 1, 2, 3, 15, 5, 6, 7, 8, 9, 10, 11, 12, 13, 14] (by decide +kernel) (by decide +kernel) hA5 rfl hH5 rfl rfl rfl rfl j1 (x5 _ _ v7) (x5 _ _ v9) (x5 _ _ v11) (acc.dear j2 (by omega) (by omega) false (fun z => z)) (by omega) rfl rfl rfl (lR.fr ⟨hR4.1, x5 _ _ (hR.2.1), x5 _ _ (hR.2.2.1), x5 _ _ (hR.2.2.2.1), hR4.2.2.2.2⟩ hH4 hF5 hP5 (nExt.refl ν5) stW_nil rW_nil)
def lYa_e_920 : sS := ([(3, 0, 0), (3, 8, 0), (3, 40, 0), (3, 36, 0), (0, 0, 4088), (0, 8, 4096), (3, 45, 0), (0, 0, 40), (3, 48, 0), (0, 0, 24), (3, 51, 0), (0, 0, 24), (0, 0, 4088), (0, 0, 4088), (3, 1, 0), (0, 1, 1), (0, 1, 4089), (0, -2147483648, 2147483647), (0, 2, 2), (0, 2, 4090), (0, -2147483648, 2147483647)], [(0, 0), (1, 1), (2, 2), (3, 3), (4, 4)], [3, 20, 17, 1], [(4, 0, 19, 20, 0), (0, 19, 4, 0, 2), (0, 4, 19, 0, -2), (4, 0, 16, 17, 0), (0, 16, 4, 0, 1), (0, 4, 16, 0, -1), (0, 4, 5, 0, -8), (3, 0, 5, 0, 0), (2, 2, 7, 6, 0), (2, 6, 2, 7, 0), (2, 2, 8, 8, 0), (2, 8, 2, 9, 0), (2, 2, 9, 10, 0), (2, 10, 2, 11, 0), (2, 1, 1, 12, 0), (2, 2, 3, 13, 0), (0, 12, 13, 0, 0), (0, 13, 12, 0, 0), (2, 2, 10, 14, 0), (0, 12, 4, 0, 0), (0, 13, 4, 0, 0)], 0, 0, [])
def lYb_e_920 : sS := vZ (cvS zi lYa_e_920 k_L_way (cx1 k_L_way))
def lYc_e_920 : sS := ([(3, 0, 0), (3, 8, 0), (3, 40, 0), (3, 36, 0), (0, 0, 4088), (0, 8, 4096), (3, 45, 0), (0, 0, 40), (3, 48, 0), (0, 0, 24), (3, 51, 0), (0, 0, 24), (0, 0, 4088), (0, 0, 4088), (3, 1, 0), (0, 1, 1), (0, 1, 4089), (0, -2147483648, 2147483647), (0, 2, 2), (0, 2, 4090), (0, -2147483648, 2147483647), (0, 0, 2), (0, 1, 1), (0, 2, 2)], [(5, 21), (0, 0), (1, 1), (2, 2), (3, 3), (4, 4)], [20, 17, 2], [(4, 0, 19, 20, 0), (0, 19, 4, 0, 2), (0, 4, 19, 0, -2), (4, 0, 16, 17, 0), (0, 16, 4, 0, 1), (0, 4, 16, 0, -1), (0, 4, 5, 0, -8), (3, 0, 5, 0, 0), (2, 2, 7, 6, 0), (2, 6, 2, 7, 0), (2, 2, 8, 8, 0), (2, 8, 2, 9, 0), (2, 2, 9, 10, 0), (2, 10, 2, 11, 0), (2, 1, 1, 12, 0), (2, 2, 3, 13, 0), (0, 12, 13, 0, 0), (0, 13, 12, 0, 0), (2, 2, 10, 14, 0), (0, 12, 4, 0, 0), (0, 13, 4, 0, 0)], 0, 0, [])
theorem lY1_e_920 : chk zrx zi wT (wRo wSites_15) (wRo wTags_15) lC_e [] 0 0 15 3000 false [(934, lYa_e_920, [])] none 57 243 920 (vZ lM_e) (fun _ _ => false) = true := by decide +kernel
theorem lY2_e_920 : chk zrx zi wT (wRo wSites_15) (wRo wTags_15) lC_e [] 0 0 22 3000 false [(952, lYc_e_920, [])] none 57 243 937 lYb_e_920 (fun _ _ => false) = true := by decide +kernel
theorem lV1_e_920 : cvOk zrx zi wT 243 934 56 lYa_e_920 k_L_way = true := by decide +kernel
theorem lV2_e_920 : cvOk zrx zi wT 243 952 56 lYc_e_920 k_X15_way = true := by decide +kernel
theorem lYn_e_920 : lYb_e_920.1.length = 22 := by decide +kernel
theorem lYr_e_920 : (vZ lM_e).2.2.2.1.all (fun f => !(f.1 == 7)) = true ∧ lYa_e_920.2.2.2.1.all (fun f => !(f.1 == 7)) = true ∧ (cvS zi lYa_e_920 k_L_way (cx1 k_L_way)).2.2.2.1.all (fun f => !(f.1 == 7)) = true ∧ lYc_e_920.2.2.2.1.all (fun f => !(f.1 == 7)) = true := by decide +kernel
def lYd0_e_920 : sS := vZ (cvS zi lYc_e_920 k_X15_way (cxi k_X15_way 0))
theorem lYd0_e_920n : lYd0_e_920.1.length = 25 ∧ (cvS zi lYc_e_920 k_X15_way (cxi k_X15_way 0)).2.2.2.1.all (fun f => !(f.1 == 7)) = true := by decide +kernel
theorem lY3_e_920_0 : chk zrx zi wT (wRo wSites_15) (wRo wTags_15) lC_e [] 0 0 15 3000 false [(27, lT_eza, [])] none 57 243 955 lYd0_e_920 (fun _ _ => false) = true := by decide +kernel
set_option maxRecDepth 20000 in
theorem lA_e_920 {n : Nat} (ih : lIH n) {hb ub : Nat} {N : Int} {ρ : List Nat} {ν : List Value} {lv : List (Nat × Value)} {st : List Value} {h : List zC} {u : Nat} {i R C A : Int32} {F : Int} (hA : gA hb ub ρ ν lM_e lv st h u) (hH : tHeap wT N ρ h) (v4 : ν[4]? = some (.int i)) (v7 : ν[7]? = some (.int R)) (v9 : ν[9]? = some (.int C)) (v11 : ν[11]? = some (.int A))
    (i4 : i.toInt ≤ 4096) (acc : lAcc false hb ub i.toInt R.toInt C.toInt A.toInt F) (rm1 : (ub : Int) + 17920 ≤ zSN) (rm2 : (hb : Int) + 1152 ≤ zCM) (hn : 4104 - i.toInt ≤ (n + 1 : Nat)) (hR : lR ρ ν h) : zE zrx zi 57 243 920 lv st h u lKK := by
  obtain ⟨dl1, dl2, dl3, dl4⟩ := lD_lo R.toInt C.toInt A.toInt
  obtain ⟨r0, ra, rb, rc⟩ := lYr_e_920
  have q0 : (h.length : Int) - hb ≤ 0 := hA.2.2.2.2.1
  have q1 : (u : Int) - ub ≤ 0 := hA.2.2.2.2.2
  have hlen : ν.length ≤ 15 := by
    rw [← hA.1.1]
    exact Nat.le_of_eq rfl
  refine seg wT_ok lC_e_ok 3000 lY1_e_920 (Nat.le_refl _) (nExt.refl ν) hlen (hA.reb r0) rfl rfl hH (by omega) (by omega) ?_
  intro x hx N1 ρ1 ν1 lv1 st1 h1 u1 x1 hA1 hH1 hF1 hP1
  rw [List.mem_singleton.mp hx] at hA1 ⊢
  clear hx x
  dsimp only at hA1 ⊢
  have hR1 := hR.fr hH hF1 hP1 x1 stW_nil rW_nil
  have b1 : (h1.length : Int) - h.length ≤ 0 := Int.le_trans (hA1.cost (by decide +kernel)).1 (by decide +kernel)
  have b2 : (u1 : Int) - u ≤ 0 := Int.le_trans (hA1.cost (by decide +kernel)).2 (by decide +kernel)
  have hT : gSt ν1 [3, 20, 17, 1] st1 := hA1.2.2.1
  obtain ⟨w0, sa0, ea0, o0, ha0⟩ := hT.inv
  subst ea0
  rw [hR1.2.2.2.1] at o0
  cases o0
  obtain ⟨w1, sa1, ea1, o1, ha1⟩ := ha0.inv
  subst ea1
  obtain ⟨p20, rfl, -⟩ := hA1.int o1 rfl
  obtain ⟨w2, sa2, ea2, o2, ha2⟩ := ha1.inv
  subst ea2
  obtain ⟨p17, rfl, -⟩ := hA1.int o2 rfl
  obtain ⟨w3, sa3, ea3, o3, ha3⟩ := ha2.inv
  subst ea3
  rw [hR1.2.1] at o3
  cases o3
  cases ha3.nil
  refine call_val con_L_way vr_243_934 lV1_e_920 rfl rfl (hA1.reb ra) hH1 (by have : k_L_way.2.2.2.2.1 = 1 := rfl; omega) (by have : k_L_way.2.2.2.2.2.1 = 6 := rfl; omega) rfl (fun n => C_Lway n p17 p20 h1 u1 hR1.2.2.2.2.1) ?_
  intro N2 ρ2 ν2 v h2 u2 n2 x2 hA2 hH2 hF2 hP2 V1
  obtain ⟨k, hk, V1⟩ := V1
  cases hk
  have V1 : Q_Lway p17 p20 h1 (.inl (some (.int k))) h2 u2 := ⟨k, rfl, V1⟩
  have b3 : (h2.length : Int) - h1.length ≤ 1 := Int.le_trans (hA2.cost (by decide +kernel)).1 (by decide +kernel)
  have b4 : (u2 : Int) - u1 ≤ 6 := Int.le_trans (hA2.cost (by decide +kernel)).2 (by decide +kernel)
  have hTk : ν2[21]? = some (.int k) := gSt_hd hA2.2.2.1 (by decide +kernel)
  have hlen2 : ν2.length ≤ 22 := by
    rw [← hA2.1.1]
    exact Nat.le_of_eq lYn_e_920
  have hS2 : Stc h2 := hR1.2.2.2.2.1.fr hR1.1 hF2 stW_L_way
  have hRo2 : Ro ρ2 := hR1.1.pre hP2
  show zE zrx zi 57 243 937 lv1 _ h2 u2 lKK
  refine seg wT_ok lC_e_ok 3000 lY2_e_920 (Nat.le_refl _) (nExt.refl ν2) hlen2 (hA2.reb rb) rfl rfl hH2 (by omega) (by omega) ?_
  intro x hx N3 ρ3 ν3 lv3 st3 h3 u3 x3 hA3 hH3 hF3 hP3
  rw [List.mem_singleton.mp hx] at hA3 ⊢
  clear hx x
  dsimp only at hA3 ⊢
  have hS3 : Stc h3 := hS2.fr hRo2 hF3 stW_nil
  have b5 : (h3.length : Int) - h2.length ≤ 0 := Int.le_trans (hA3.cost (by decide +kernel)).1 (by decide +kernel)
  have b6 : (u3 : Int) - u2 ≤ 0 := Int.le_trans (hA3.cost (by decide +kernel)).2 (by decide +kernel)
  have hE : ∀ p, p < h2.length → ∀ k, gF h3 p k = gF h2 p k := fun p hp k => gFr_F0 hF3 hH2.1 hp k
  have hT : gSt ν3 [20, 17, 2] st3 := hA3.2.2.1
  obtain ⟨w0, sb0, eb0, c0, hb0⟩ := hT.inv
  subst eb0
  rw [x3 _ _ (x2 _ _ o1)] at c0
  cases c0
  obtain ⟨w1, sb1, eb1, c1, hb1⟩ := hb0.inv
  subst eb1
  rw [x3 _ _ (x2 _ _ o2)] at c1
  cases c1
  obtain ⟨w2, sb2, eb2, c2, hb2⟩ := hb1.inv
  subst eb2
  rw [x3 _ _ (x2 _ _ hR1.2.2.1)] at c2
  cases c2
  cases hb2.nil
  have hl1 := hR1.2.2.2.2.1.1
  have hl2 := gFr_len hF2
  have hl3 := gFr_len hF3
  have ro3 : Ro ρ3 := hRo2.pre hP3
  refine call_val con_X15_way vr_243_952 lV2_e_920 rfl rfl (hA3.reb rc) hH3 (by have : k_X15_way.2.2.2.2.1 = 0 := rfl; omega) (by have : k_X15_way.2.2.2.2.2.1 = 0 := rfl; omega) rfl (fun n => C_mway n p17 p20 h3 u3 hS3) ?_
  intro N4 ρ4 ν4 v h4 u4 n4 x4 hA4 hH4 hF4 hP4 V2
  obtain ⟨nd, rd⟩ := lYd0_e_920n
  obtain ⟨r, hr⟩ : ∃ r : Int32, v = .int r := by
    first
      | (obtain ⟨r, h0, hr, -⟩ := V2; cases hr; exact ⟨r, rfl⟩)
      | (obtain ⟨r, hr, -⟩ := V2; cases hr; exact ⟨r, rfl⟩)
  subst hr
  have b7 : (h4.length : Int) - h3.length ≤ 0 := Int.le_trans (hA4.cost (by decide +kernel)).1 (by decide +kernel)
  have b8 : (u4 : Int) - u3 ≤ 0 := Int.le_trans (hA4.cost (by decide +kernel)).2 (by decide +kernel)
  have z1 := ((by
    obtain ⟨y1, y2, y3, y4⟩ := sum_way (hR1.2.2.2.2.2.2.2.1.2.2) hl1 hl2 V1 hE V2
    exact ⟨⟨⟨qFed.fr3 (hR1.2.2.2.2.2.1.1) hR1.2.2.2.2.1 hR1.1 hH1 hF2 (by decide +kernel) hS2 hRo2 hH2 hF3 hS3 (hRo2.pre hP3) hH3 hF4 (by decide +kernel), qAR.fr3 (hR1.2.2.2.2.2.1.2.1) hR1.2.2.2.2.1 hR1.1 hH1 hF2 (by decide +kernel) hS2 hRo2 hH2 hF3 hS3 (hRo2.pre hP3) hH3 hF4 (by decide +kernel), qHO.fr3 (hR1.2.2.2.2.2.1.2.2.1) hR1.2.2.2.2.1 hR1.1 hH1 hF2 (by decide +kernel) hS2 hRo2 hH2 hF3 hS3 (hRo2.pre hP3) hH3 hF4 (by decide +kernel), qEX.fr3 (hR1.2.2.2.2.2.1.2.2.2) hR1.2.2.2.2.1 hR1.1 hH1 hF2 (by decide +kernel) hS2 hRo2 hH2 hF3 hS3 (hRo2.pre hP3) hH3 hF4 (by decide +kernel)⟩, ⟨qRFu.fr3 (hR1.2.2.2.2.2.2.1.1) hR1.2.2.2.2.1 hR1.1 hH1 hF2 (by decide +kernel) hS2 hRo2 hH2 hF3 hS3 (hRo2.pre hP3) hH3 hF4 (by decide +kernel), qRCs.fr3 (hR1.2.2.2.2.2.2.1.2.1) hR1.2.2.2.2.1 hR1.1 hH1 hF2 (by decide +kernel) hS2 hRo2 hH2 hF3 hS3 (hRo2.pre hP3) hH3 hF4 (by decide +kernel), qVd.fr3 (hR1.2.2.2.2.2.2.1.2.2) hR1.2.2.2.2.1 hR1.1 hH1 hF2 (by decide +kernel) hS2 hRo2 hH2 hF3 hS3 (hRo2.pre hP3) hH3 hF4 (by decide +kernel)⟩, ⟨Rw.fr3 (hR1.2.2.2.2.2.2.2.1.1) hR1.2.2.2.2.1 hR1.1 hH1 hF2 (by decide +kernel) hS2 hRo2 hH2 hF3 hS3 (hRo2.pre hP3) hH3 hF4 (by decide +kernel), qSm.fr3T (hR1.2.2.2.2.2.2.2.1.2.1) hR1.2.2.2.2.1 hR1.1 hH1 hF2 (by decide +kernel) hS2 hRo2 hH2 hF3 hS3 (hRo2.pre hP3) hH3 hF4 (by decide +kernel), y1⟩, qDz.fr3 (hR1.2.2.2.2.2.2.2.2.1) hR1.2.2.2.2.1 hR1.1 hH1 hF2 (by decide +kernel) hS2 hRo2 hH2 hF3 hS3 (hRo2.pre hP3) hH3 hF4 (by decide +kernel), qRv.fr3 (hR1.2.2.2.2.2.2.2.2.2) hR1.2.2.2.2.1 hR1.1 hH1 hF2 (by decide +kernel) hS2 hRo2 hH2 hF3 hS3 (hRo2.pre hP3) hH3 hF4 (by decide +kernel)⟩, trivial⟩ : qAll h4 ∧ True)).1
  have hR4 : lR ρ4 ν4 h4 := ⟨(hRo2.pre hP3).pre hP4, x4 _ _ (x3 _ _ (x2 _ _ hR1.2.1)), x4 _ _ (x3 _ _ (x2 _ _ hR1.2.2.1)), x4 _ _ (x3 _ _ (x2 _ _ hR1.2.2.2.1)), hS3.fr (hRo2.pre hP3) hF4 stW_X15_way, z1⟩
  have x14 : nExt ν ν4 := x1.trans (x2.trans (x3.trans x4))
  have hA4 := hA4.reb rd
  show zE zrx zi 57 243 955 lv3 _ h4 u4 lKK
  refine seg wT_ok lC_e_ok 3000 lY3_e_920_0 (Nat.le_refl _) x14 hlen hA4 rfl rfl hH4 (by omega) (by omega) ?_
  intro x hx N5 ρ5 ν5 lv5 st5 h5 u5 x5 hA5 hH5 hF5 hP5
  rw [List.mem_singleton.mp hx] at hA5 ⊢
  clear hx x
  dsimp only at hA5 ⊢
  have b9 : (h5.length : Int) - h4.length ≤ 0 := Int.le_trans (hA5.cost (by decide +kernel)).1 (by decide +kernel)
  have c1 : (u5 : Int) - u4 ≤ 0 := Int.le_trans (hA5.cost (by decide +kernel)).2 (by decide +kernel)
  obtain ⟨j, j1, j2⟩ := l_i hA5 rfl rfl (x5 _ _ v4)
  exact l_next (g := false) ih [0, 1, 2, 3, 15, 5, 6, 7, 8, 9, 10, 11, 12, 13, 14] (by decide +kernel) (by decide +kernel) hA5 rfl hH5 rfl rfl rfl rfl j1 (x5 _ _ v7) (x5 _ _ v9) (x5 _ _ v11) (acc.dear j2 (by omega) (by omega) false (fun z => z)) (by omega) rfl rfl rfl (lR.fr ⟨hR4.1, x5 _ _ (hR.2.1), x5 _ _ (hR.2.2.1), x5 _ _ (hR.2.2.2.1), hR4.2.2.2.2⟩ hH4 hF5 hP5 (nExt.refl ν5) stW_nil rW_nil)
def lYa_e_960 : sS := ([(3, 0, 0), (3, 8, 0), (3, 40, 0), (3, 36, 0), (0, 0, 4088), (0, 8, 4096), (3, 45, 0), (0, 0, 40), (3, 48, 0), (0, 0, 24), (3, 51, 0), (0, 0, 24), (0, 0, 4088), (0, 0, 4088), (3, 1, 0), (0, 1, 1), (0, 1, 4089), (0, -2147483648, 2147483647), (0, 2, 2), (0, 2, 4090), (0, -2147483648, 2147483647)], [(0, 0), (1, 1), (2, 2), (3, 3), (4, 4)], [3, 20, 17, 1], [(4, 0, 19, 20, 0), (0, 19, 4, 0, 2), (0, 4, 19, 0, -2), (4, 0, 16, 17, 0), (0, 16, 4, 0, 1), (0, 4, 16, 0, -1), (0, 4, 5, 0, -8), (3, 0, 5, 0, 0), (2, 2, 7, 6, 0), (2, 6, 2, 7, 0), (2, 2, 8, 8, 0), (2, 8, 2, 9, 0), (2, 2, 9, 10, 0), (2, 10, 2, 11, 0), (2, 1, 1, 12, 0), (2, 2, 3, 13, 0), (0, 12, 13, 0, 0), (0, 13, 12, 0, 0), (2, 2, 10, 14, 0), (0, 12, 4, 0, 0), (0, 13, 4, 0, 0)], 0, 0, [])
def lYb_e_960 : sS := vZ (cvS zi lYa_e_960 k_L_judge (cx1 k_L_judge))
def lYc_e_960 : sS := ([(3, 0, 0), (3, 8, 0), (3, 40, 0), (3, 36, 0), (0, 0, 4088), (0, 8, 4096), (3, 45, 0), (0, 0, 40), (3, 48, 0), (0, 0, 24), (3, 51, 0), (0, 0, 24), (0, 0, 4088), (0, 0, 4088), (3, 1, 0), (0, 1, 1), (0, 1, 4089), (0, -2147483648, 2147483647), (0, 2, 2), (0, 2, 4090), (0, -2147483648, 2147483647), (0, 0, 2), (0, 1, 1), (0, 2, 2)], [(5, 21), (0, 0), (1, 1), (2, 2), (3, 3), (4, 4)], [20, 17, 2], [(4, 0, 19, 20, 0), (0, 19, 4, 0, 2), (0, 4, 19, 0, -2), (4, 0, 16, 17, 0), (0, 16, 4, 0, 1), (0, 4, 16, 0, -1), (0, 4, 5, 0, -8), (3, 0, 5, 0, 0), (2, 2, 7, 6, 0), (2, 6, 2, 7, 0), (2, 2, 8, 8, 0), (2, 8, 2, 9, 0), (2, 2, 9, 10, 0), (2, 10, 2, 11, 0), (2, 1, 1, 12, 0), (2, 2, 3, 13, 0), (0, 12, 13, 0, 0), (0, 13, 12, 0, 0), (2, 2, 10, 14, 0), (0, 12, 4, 0, 0), (0, 13, 4, 0, 0)], 0, 0, [])
theorem lY1_e_960 : chk zrx zi wT (wRo wSites_15) (wRo wTags_15) lC_e [] 0 0 15 3000 false [(974, lYa_e_960, [])] none 57 243 960 (vZ lM_e) (fun _ _ => false) = true := by decide +kernel
theorem lY2_e_960 : chk zrx zi wT (wRo wSites_15) (wRo wTags_15) lC_e [] 0 0 22 3000 false [(992, lYc_e_960, [])] none 57 243 977 lYb_e_960 (fun _ _ => false) = true := by decide +kernel
theorem lV1_e_960 : cvOk zrx zi wT 243 974 56 lYa_e_960 k_L_judge = true := by decide +kernel
theorem lV2_e_960 : cvOk zrx zi wT 243 992 56 lYc_e_960 k_X15_judge = true := by decide +kernel
theorem lYk_e_960 : sGet lYb_e_960.1 21 = (0, 0, 2) := by decide +kernel
theorem lYn_e_960 : lYb_e_960.1.length = 22 := by decide +kernel
theorem lYr_e_960 : (vZ lM_e).2.2.2.1.all (fun f => !(f.1 == 7)) = true ∧ lYa_e_960.2.2.2.1.all (fun f => !(f.1 == 7)) = true ∧ (cvS zi lYa_e_960 k_L_judge (cx1 k_L_judge)).2.2.2.1.all (fun f => !(f.1 == 7)) = true ∧ lYc_e_960.2.2.2.1.all (fun f => !(f.1 == 7)) = true := by decide +kernel
def lYd0_e_960 : sS := vZ (cvS zi lYc_e_960 k_X15_judge (cxi k_X15_judge 0))
theorem lYd0_e_960n : lYd0_e_960.1.length = 25 ∧ (cvS zi lYc_e_960 k_X15_judge (cxi k_X15_judge 0)).2.2.2.1.all (fun f => !(f.1 == 7)) = true := by decide +kernel
def lYf0_e_960 : sS := sNw (sFs (sNr lYd0_e_960 21 0 0) [(2, 2, 0, 21, 0)]) (1, 0, 0) [(2, 3, 0, 25, 0), (17, 25, 24, 0, 0)]
def lYg0_e_960 : sS := sFs (sNr lYd0_e_960 21 1 2) [(2, 2, 0, 21, 0)]
theorem lY3_e_960_0 : chk zrx zi wT (wRo wSites_15) (wRo wTags_15) lC_e [] 0 0 15 3000 false [(27, lT_eza, [])] none 57 243 995 lYf0_e_960 (fun _ _ => false) = true := by decide +kernel
theorem lY4_e_960_0 : chk zrx zi wT (wRo wSites_15) (wRo wTags_15) lC_e [] 0 0 15 3000 false [(27, lT_eza, [])] none 57 243 995 lYg0_e_960 (fun _ _ => false) = true := by decide +kernel
set_option maxRecDepth 20000 in
theorem lA_e_960 {n : Nat} (ih : lIH n) {hb ub : Nat} {N : Int} {ρ : List Nat} {ν : List Value} {lv : List (Nat × Value)} {st : List Value} {h : List zC} {u : Nat} {i R C A : Int32} {F : Int} (hA : gA hb ub ρ ν lM_e lv st h u) (hH : tHeap wT N ρ h) (v4 : ν[4]? = some (.int i)) (v7 : ν[7]? = some (.int R)) (v9 : ν[9]? = some (.int C)) (v11 : ν[11]? = some (.int A))
    (i4 : i.toInt ≤ 4096) (acc : lAcc false hb ub i.toInt R.toInt C.toInt A.toInt F) (rm1 : (ub : Int) + 17920 ≤ zSN) (rm2 : (hb : Int) + 1152 ≤ zCM) (hn : 4104 - i.toInt ≤ (n + 1 : Nat)) (hR : lR ρ ν h) : zE zrx zi 57 243 960 lv st h u lKK := by
  obtain ⟨dl1, dl2, dl3, dl4⟩ := lD_lo R.toInt C.toInt A.toInt
  obtain ⟨r0, ra, rb, rc⟩ := lYr_e_960
  have q0 : (h.length : Int) - hb ≤ 0 := hA.2.2.2.2.1
  have q1 : (u : Int) - ub ≤ 0 := hA.2.2.2.2.2
  have hlen : ν.length ≤ 15 := by
    rw [← hA.1.1]
    exact Nat.le_of_eq rfl
  refine seg wT_ok lC_e_ok 3000 lY1_e_960 (Nat.le_refl _) (nExt.refl ν) hlen (hA.reb r0) rfl rfl hH (by omega) (by omega) ?_
  intro x hx N1 ρ1 ν1 lv1 st1 h1 u1 x1 hA1 hH1 hF1 hP1
  rw [List.mem_singleton.mp hx] at hA1 ⊢
  clear hx x
  dsimp only at hA1 ⊢
  have hR1 := hR.fr hH hF1 hP1 x1 stW_nil rW_nil
  have b1 : (h1.length : Int) - h.length ≤ 0 := Int.le_trans (hA1.cost (by decide +kernel)).1 (by decide +kernel)
  have b2 : (u1 : Int) - u ≤ 0 := Int.le_trans (hA1.cost (by decide +kernel)).2 (by decide +kernel)
  have hT : gSt ν1 [3, 20, 17, 1] st1 := hA1.2.2.1
  obtain ⟨w0, sa0, ea0, o0, ha0⟩ := hT.inv
  subst ea0
  rw [hR1.2.2.2.1] at o0
  cases o0
  obtain ⟨w1, sa1, ea1, o1, ha1⟩ := ha0.inv
  subst ea1
  obtain ⟨p20, rfl, -⟩ := hA1.int o1 rfl
  obtain ⟨w2, sa2, ea2, o2, ha2⟩ := ha1.inv
  subst ea2
  obtain ⟨p17, rfl, -⟩ := hA1.int o2 rfl
  obtain ⟨w3, sa3, ea3, o3, ha3⟩ := ha2.inv
  subst ea3
  rw [hR1.2.1] at o3
  cases o3
  cases ha3.nil
  obtain ⟨cnt, el, Fk, pf⟩ := pk_at (hR1.2.2.2.2.2.1.2.1) (hR1.2.2.2.2.2.1.2.2.2)
  obtain ⟨cr, rl, pr⟩ : ∃ (cr : Int32) (rl : Nat), pkR h1 cr rl := hR1.2.2.2.2.2.2.1.1
  obtain ⟨cc, lc, pc⟩ : ∃ (cc : Int32) (lc : Nat), pkC h1 cc lc := hR1.2.2.2.2.2.2.1.2.1
  have kc := pk_kC pf pr (hR1.2.2.2.2.1)
  have hcd : ∀ k, k < cc.toNatClampNeg → CI h1 (189 + k) := fun k hk j hj => by
    obtain ⟨q, -, -, -, q4⟩ := pc.2.2.2.2.2.2 k hk
    obtain ⟨x, x1, -⟩ := q4 j (by omega)
    exact ⟨x, x1⟩
  have hwy : ∀ i, i < 4 → ∃ w : Int32, gF h1 25 i = some (.int w) := fun i hi => by
    obtain ⟨w, w1, -⟩ := (hR1.2.2.2.2.2.2.2.1.2.2) i hi
    exact ⟨w, w1⟩
  have hl1 := hR1.2.2.2.2.1.1
  refine call_val con_L_judge vr_243_974 lV1_e_960 rfl rfl (hA1.reb ra) hH1 (by have : k_L_judge.2.2.2.2.1 = 1 := rfl; omega) (by have : k_L_judge.2.2.2.2.2.1 = 6 := rfl; omega) rfl (fun n => C_Ljudge n p17 p20 h1 u1 kc pc.1 pc.2.2.2.2.2.1 hcd hwy) ?_
  intro N2 ρ2 ν2 v h2 u2 n2 x2 hA2 hH2 hF2 hP2 V1
  obtain ⟨k, hk, V1⟩ := V1
  cases hk
  have V1 : Q_Ljudge (exK h1) (geK h1 cnt) cnt cr cc p17 p20 h1 (.inl (some (.int k))) h2 u2 := ⟨k, rfl, V1⟩
  have b3 : (h2.length : Int) - h1.length ≤ 1 := Int.le_trans (hA2.cost (by decide +kernel)).1 (by decide +kernel)
  have b4 : (u2 : Int) - u1 ≤ 6 := Int.le_trans (hA2.cost (by decide +kernel)).2 (by decide +kernel)
  have hTk : ν2[21]? = some (.int k) := gSt_hd hA2.2.2.1 (by decide +kernel)
  have hB2 : gA h2.length u2 ρ2 ν2 lYb_e_960 lv1 _ h2 u2 := hA2.reb rb
  obtain ⟨k', ek, kk1, kk2⟩ := hB2.int hTk (by rw [lYk_e_960])
  cases ek
  rw [lYk_e_960] at kk1 kk2
  have hlen2 : ν2.length ≤ 22 := by
    rw [← hA2.1.1]
    exact Nat.le_of_eq lYn_e_960
  have hS2 : Stc h2 := hR1.2.2.2.2.1.fr hR1.1 hF2 stW_L_judge
  have hRo2 : Ro ρ2 := hR1.1.pre hP2
  show zE zrx zi 57 243 977 lv1 _ h2 u2 lKK
  refine seg wT_ok lC_e_ok 3000 lY2_e_960 (Nat.le_refl _) (nExt.refl ν2) hlen2 (hA2.reb rb) rfl rfl hH2 (by omega) (by omega) ?_
  intro x hx N3 ρ3 ν3 lv3 st3 h3 u3 x3 hA3 hH3 hF3 hP3
  rw [List.mem_singleton.mp hx] at hA3 ⊢
  clear hx x
  dsimp only at hA3 ⊢
  have hS3 : Stc h3 := hS2.fr hRo2 hF3 stW_nil
  have b5 : (h3.length : Int) - h2.length ≤ 0 := Int.le_trans (hA3.cost (by decide +kernel)).1 (by decide +kernel)
  have b6 : (u3 : Int) - u2 ≤ 0 := Int.le_trans (hA3.cost (by decide +kernel)).2 (by decide +kernel)
  have hE : ∀ p, p < h2.length → ∀ k, gF h3 p k = gF h2 p k := fun p hp k => gFr_F0 hF3 hH2.1 hp k
  have hT : gSt ν3 [20, 17, 2] st3 := hA3.2.2.1
  obtain ⟨w0, sb0, eb0, c0, hb0⟩ := hT.inv
  subst eb0
  rw [x3 _ _ (x2 _ _ o1)] at c0
  cases c0
  obtain ⟨w1, sb1, eb1, c1, hb1⟩ := hb0.inv
  subst eb1
  rw [x3 _ _ (x2 _ _ o2)] at c1
  cases c1
  obtain ⟨w2, sb2, eb2, c2, hb2⟩ := hb1.inv
  subst eb2
  rw [x3 _ _ (x2 _ _ hR1.2.2.1)] at c2
  cases c2
  cases hb2.nil
  have hl1 := hR1.2.2.2.2.1.1
  have hl2 := gFr_len hF2
  have hl3 := gFr_len hF3
  have ro3 : Ro ρ3 := hRo2.pre hP3
  have o3 : rfO h1 h3 := fun q j hq z => (hE q (by omega) j).trans (rf_judge pc.2.2.2.2.2.1 V1 q j hq z)
  have mc := pk_mC pf pr hl1 hS3 o3
  obtain ⟨⟨nel, nrl⟩, nA, nR, ⟨hcs, hcl, nlc⟩, hq, hw, hj⟩ := pk_ref pf pr pc (hR1.2.2.2.2.2.2.1.2.2) (hR1.2.2.2.2.2.2.2.1.2.2) hl1 o3
  refine call_val con_X15_judge vr_243_992 lV2_e_960 rfl rfl (hA3.reb rc) hH3 (by have : k_X15_judge.2.2.2.2.1 = 0 := rfl; omega) (by have : k_X15_judge.2.2.2.2.2.1 = 0 := rfl; omega) rfl (fun n => C_mjudge n p17 p20 h3 u3 mc nel nrl nA nR hcs hcl pc.2.2.2.2.1 nlc hq hw) ?_
  intro N4 ρ4 ν4 v h4 u4 n4 x4 hA4 hH4 hF4 hP4 V2
  obtain ⟨nd, rd⟩ := lYd0_e_960n
  obtain ⟨r, hr⟩ : ∃ r : Int32, v = .int r := by
    first
      | (obtain ⟨r, h0, hr, -⟩ := V2; cases hr; exact ⟨r, rfl⟩)
      | (obtain ⟨r, hr, -⟩ := V2; cases hr; exact ⟨r, rfl⟩)
  subst hr
  have b7 : (h4.length : Int) - h3.length ≤ 0 := Int.le_trans (hA4.cost (by decide +kernel)).1 (by decide +kernel)
  have b8 : (u4 : Int) - u3 ≤ 0 := Int.le_trans (hA4.cost (by decide +kernel)).2 (by decide +kernel)
  obtain ⟨z1, z2, z3, z4⟩ := (by
    obtain ⟨y1, y2, y3, y4⟩ := sumV_judge hl1 hH1 hR1.1 (hR1.2.2.2.2.1) pf pr (hR1.2.2.2.2.2.2.2.1.2.1) pc (hR1.2.2.2.2.2.2.2.1.2.2) (hR1.2.2.2.2.2.2.1.2.2) hl2 V1 hE V2
    exact ⟨⟨⟨qFed.fr3 (hR1.2.2.2.2.2.1.1) hR1.2.2.2.2.1 hR1.1 hH1 hF2 (by decide +kernel) hS2 hRo2 hH2 hF3 hS3 (hRo2.pre hP3) hH3 hF4 (by decide +kernel), qAR.fr3 (hR1.2.2.2.2.2.1.2.1) hR1.2.2.2.2.1 hR1.1 hH1 hF2 (by decide +kernel) hS2 hRo2 hH2 hF3 hS3 (hRo2.pre hP3) hH3 hF4 (by decide +kernel), qHO.fr3 (hR1.2.2.2.2.2.1.2.2.1) hR1.2.2.2.2.1 hR1.1 hH1 hF2 (by decide +kernel) hS2 hRo2 hH2 hF3 hS3 (hRo2.pre hP3) hH3 hF4 (by decide +kernel), qEX.fr3 (hR1.2.2.2.2.2.1.2.2.2) hR1.2.2.2.2.1 hR1.1 hH1 hF2 (by decide +kernel) hS2 hRo2 hH2 hF3 hS3 (hRo2.pre hP3) hH3 hF4 (by decide +kernel)⟩, ⟨qRFu.fr3 (hR1.2.2.2.2.2.2.1.1) hR1.2.2.2.2.1 hR1.1 hH1 hF2 (by decide +kernel) hS2 hRo2 hH2 hF3 hS3 (hRo2.pre hP3) hH3 hF4 (by decide +kernel), qRCs.fr3 (hR1.2.2.2.2.2.2.1.2.1) hR1.2.2.2.2.1 hR1.1 hH1 hF2 (by decide +kernel) hS2 hRo2 hH2 hF3 hS3 (hRo2.pre hP3) hH3 hF4 (by decide +kernel), y1⟩, ⟨Rw.fr3 (hR1.2.2.2.2.2.2.2.1.1) hR1.2.2.2.2.1 hR1.1 hH1 hF2 (by decide +kernel) hS2 hRo2 hH2 hF3 hS3 (hRo2.pre hP3) hH3 hF4 (by decide +kernel), qSm.fr3T (hR1.2.2.2.2.2.2.2.1.2.1) hR1.2.2.2.2.1 hR1.1 hH1 hF2 (by decide +kernel) hS2 hRo2 hH2 hF3 hS3 (hRo2.pre hP3) hH3 hF4 (by decide +kernel), qSm.fr3Y (hR1.2.2.2.2.2.2.2.1.2.2) hR1.2.2.2.2.1 hR1.1 hH1 hF2 (by decide +kernel) hS2 hRo2 hH2 hF3 hS3 (hRo2.pre hP3) hH3 hF4 (by decide +kernel)⟩, qDz.fr3 (hR1.2.2.2.2.2.2.2.2.1) hR1.2.2.2.2.1 hR1.1 hH1 hF2 (by decide +kernel) hS2 hRo2 hH2 hF3 hS3 (hRo2.pre hP3) hH3 hF4 (by decide +kernel), qRv.fr3 (hR1.2.2.2.2.2.2.2.2.2) hR1.2.2.2.2.1 hR1.1 hH1 hF2 (by decide +kernel) hS2 hRo2 hH2 hF3 hS3 (hRo2.pre hP3) hH3 hF4 (by decide +kernel)⟩, y2, y3, y4⟩ : qAll h4 ∧ gF h4 213 0 = some (.int k) ∧ (k = 0 → gF h4 238 0 = some (.long r.toInt64)) ∧ (k = 0 ∨ k = 1 ∨ k = 2))
  have hR4 : lR ρ4 ν4 h4 := ⟨(hRo2.pre hP3).pre hP4, x4 _ _ (x3 _ _ (x2 _ _ hR1.2.1)), x4 _ _ (x3 _ _ (x2 _ _ hR1.2.2.1)), x4 _ _ (x3 _ _ (x2 _ _ hR1.2.2.2.1)), hS3.fr (hRo2.pre hP3) hF4 stW_X15_judge, z1⟩
  have x14 : nExt ν ν4 := x1.trans (x2.trans (x3.trans x4))
  have vk : ν4[21]? = some (.int k) := x4 _ _ (x3 _ _ hTk)
  have vr : ν4[24]? = some (.int r) := gSt_hd hA4.2.2.1 (by decide +kernel)
  have hA4 := hA4.reb rd
  show zE zrx zi 57 243 995 lv3 _ h4 u4 lKK
  by_cases hk : k = 0
  · subst hk
    have hA6 := (((hA4.nr (lo := 0) (hi := 0) vk (by decide) (by decide)).fs (G := [(2, 2, 0, 21, 0)]) (fun f hf => by
      rw [List.mem_singleton.mp hf]
      exact fH2 hR4.2.2.1 z2 vk)).nw (t := (1, 0, 0)) (v := .long r.toInt64) (G := [(2, 3, 0, 25, 0), (17, 25, 24, 0, 0)]) ⟨_, rfl⟩ (fun f hf => by
      have hl : ν4.length = 25 := by
        rw [← hA4.1.1]
        exact nd
      have vl : (ν4 ++ [Value.long r.toInt64])[25]? = some (.long r.toInt64) := by
        rw [← hl]
        exact nNew _ _
      rcases List.mem_cons.mp hf with rfl | hf
      · exact fH2 (nExt_app _ _ _ _ hR4.2.2.2.1) (z3 rfl) vl
      · rw [List.mem_singleton.mp hf]
        exact ⟨r, nExt_app _ _ _ _ vr, vl⟩))
    refine seg wT_ok lC_e_ok 3000 lY3_e_960_0 (Nat.le_refl _) (x14.trans (nExt_app _ _)) hlen hA6 rfl rfl hH4 (by omega) (by omega) ?_
    intro x hx N5 ρ5 ν5 lv5 st5 h5 u5 x5 hA5 hH5 hF5 hP5
    rw [List.mem_singleton.mp hx] at hA5 ⊢
    clear hx x
    dsimp only at hA5 ⊢
    have b9 : (h5.length : Int) - h4.length ≤ 0 := Int.le_trans (hA5.cost (by decide +kernel)).1 (by decide +kernel)
    have c1 : (u5 : Int) - u4 ≤ 0 := Int.le_trans (hA5.cost (by decide +kernel)).2 (by decide +kernel)
    obtain ⟨j, j1, j2⟩ := l_i hA5 rfl rfl (x5 _ _ v4)
    exact l_next (g := false) ih [0, 1, 2, 3, 15, 5, 6, 7, 8, 9, 10, 11, 12, 13, 14] (by decide +kernel) (by decide +kernel) hA5 rfl hH5 rfl rfl rfl rfl j1 (x5 _ _ v7) (x5 _ _ v9) (x5 _ _ v11) (acc.dear j2 (by omega) (by omega) false (fun z => z)) (by omega) rfl rfl rfl (lR.fr ⟨hR4.1, x5 _ _ (hR.2.1), x5 _ _ (hR.2.2.1), x5 _ _ (hR.2.2.2.1), hR4.2.2.2.2⟩ hH4 hF5 hP5 (nExt.refl ν5) stW_nil rW_nil)
  · have hk2 : 1 ≤ k.toInt ∧ k.toInt ≤ 2 := by
      have kk1 : 0 ≤ k.toInt := kk1
      have kk2 : k.toInt ≤ 2 := kk2
      have : ¬ k.toInt = 0 := fun z => hk (Int32.toInt_inj.mp z)
      omega
    have hA6 := (hA4.nr (lo := 1) (hi := 2) vk hk2.1 hk2.2).fs (G := [(2, 2, 0, 21, 0)]) (fun f hf => by
      rw [List.mem_singleton.mp hf]
      exact fH2 hR4.2.2.1 z2 vk)
    refine seg wT_ok lC_e_ok 3000 lY4_e_960_0 (Nat.le_refl _) x14 hlen hA6 rfl rfl hH4 (by omega) (by omega) ?_
    intro x hx N5 ρ5 ν5 lv5 st5 h5 u5 x5 hA5 hH5 hF5 hP5
    rw [List.mem_singleton.mp hx] at hA5 ⊢
    clear hx x
    dsimp only at hA5 ⊢
    have b9 : (h5.length : Int) - h4.length ≤ 0 := Int.le_trans (hA5.cost (by decide +kernel)).1 (by decide +kernel)
    have c1 : (u5 : Int) - u4 ≤ 0 := Int.le_trans (hA5.cost (by decide +kernel)).2 (by decide +kernel)
    obtain ⟨j, j1, j2⟩ := l_i hA5 rfl rfl (x5 _ _ v4)
    exact l_next (g := false) ih [0, 1, 2, 3, 15, 5, 6, 7, 8, 9, 10, 11, 12, 13, 14] (by decide +kernel) (by decide +kernel) hA5 rfl hH5 rfl rfl rfl rfl j1 (x5 _ _ v7) (x5 _ _ v9) (x5 _ _ v11) (acc.dear j2 (by omega) (by omega) false (fun z => z)) (by omega) rfl rfl rfl (lR.fr ⟨hR4.1, x5 _ _ (hR.2.1), x5 _ _ (hR.2.2.1), x5 _ _ (hR.2.2.2.1), hR4.2.2.2.2⟩ hH4 hF5 hP5 (nExt.refl ν5) stW_nil rW_nil)
def lYa_e_1029 : sS := ([(3, 0, 0), (3, 8, 0), (3, 40, 0), (3, 36, 0), (0, 0, 4088), (0, 8, 4096), (3, 45, 0), (0, 0, 40), (3, 48, 0), (0, 0, 24), (3, 51, 0), (0, 0, 24), (0, 0, 4088), (0, 0, 4088), (3, 1, 0), (0, 1, 1), (0, 1, 4089), (0, -2147483648, 2147483647)], [(0, 0), (1, 1), (2, 2), (3, 3), (4, 4)], [3, 17, 1], [(4, 0, 16, 17, 0), (0, 16, 4, 0, 1), (0, 4, 16, 0, -1), (0, 4, 5, 0, -8), (3, 0, 5, 0, 0), (2, 2, 7, 6, 0), (2, 6, 2, 7, 0), (2, 2, 8, 8, 0), (2, 8, 2, 9, 0), (2, 2, 9, 10, 0), (2, 10, 2, 11, 0), (2, 1, 1, 12, 0), (2, 2, 3, 13, 0), (0, 12, 13, 0, 0), (0, 13, 12, 0, 0), (2, 2, 10, 14, 0), (0, 12, 4, 0, 0), (0, 13, 4, 0, 0)], 0, 0, [])
def lYb_e_1029 : sS := vZ (cvS zi lYa_e_1029 k_L_appeal (cx1 k_L_appeal))
def lYc_e_1029 : sS := ([(3, 0, 0), (3, 8, 0), (3, 40, 0), (3, 36, 0), (0, 0, 4088), (0, 8, 4096), (3, 45, 0), (0, 0, 40), (3, 48, 0), (0, 0, 24), (3, 51, 0), (0, 0, 24), (0, 0, 4088), (0, 0, 4088), (3, 1, 0), (0, 1, 1), (0, 1, 4089), (0, -2147483648, 2147483647), (0, 0, 2), (0, 1, 1)], [(5, 18), (0, 0), (1, 1), (2, 2), (3, 3), (4, 4)], [17, 2], [(4, 0, 16, 17, 0), (0, 16, 4, 0, 1), (0, 4, 16, 0, -1), (0, 4, 5, 0, -8), (3, 0, 5, 0, 0), (2, 2, 7, 6, 0), (2, 6, 2, 7, 0), (2, 2, 8, 8, 0), (2, 8, 2, 9, 0), (2, 2, 9, 10, 0), (2, 10, 2, 11, 0), (2, 1, 1, 12, 0), (2, 2, 3, 13, 0), (0, 12, 13, 0, 0), (0, 13, 12, 0, 0), (2, 2, 10, 14, 0), (0, 12, 4, 0, 0), (0, 13, 4, 0, 0)], 0, 0, [])
theorem lY1_e_1029 : chk zrx zi wT (wRo wSites_15) (wRo wTags_15) lC_e [] 0 0 15 3000 false [(1037, lYa_e_1029, [])] none 57 243 1029 (vZ lM_e) (fun _ _ => false) = true := by decide +kernel
theorem lY2_e_1029 : chk zrx zi wT (wRo wSites_15) (wRo wTags_15) lC_e [] 0 0 19 3000 false [(1049, lYc_e_1029, [])] none 57 243 1040 lYb_e_1029 (fun _ _ => false) = true := by decide +kernel
theorem lV1_e_1029 : cvOk zrx zi wT 243 1037 56 lYa_e_1029 k_L_appeal = true := by decide +kernel
theorem lV2_e_1029 : cvOk zrx zi wT 243 1049 56 lYc_e_1029 k_X15_appeal = true := by decide +kernel
theorem lYn_e_1029 : lYb_e_1029.1.length = 19 := by decide +kernel
theorem lYr_e_1029 : (vZ lM_e).2.2.2.1.all (fun f => !(f.1 == 7)) = true ∧ lYa_e_1029.2.2.2.1.all (fun f => !(f.1 == 7)) = true ∧ (cvS zi lYa_e_1029 k_L_appeal (cx1 k_L_appeal)).2.2.2.1.all (fun f => !(f.1 == 7)) = true ∧ lYc_e_1029.2.2.2.1.all (fun f => !(f.1 == 7)) = true := by decide +kernel
def lYd0_e_1029 : sS := vZ (cvS zi lYc_e_1029 k_X15_appeal (cxi k_X15_appeal 0))
theorem lYd0_e_1029n : lYd0_e_1029.1.length = 21 ∧ (cvS zi lYc_e_1029 k_X15_appeal (cxi k_X15_appeal 0)).2.2.2.1.all (fun f => !(f.1 == 7)) = true := by decide +kernel
theorem lY3_e_1029_0 : chk zrx zi wT (wRo wSites_15) (wRo wTags_15) lC_e [] 0 0 15 3000 false [(27, lT_eza, [])] none 57 243 1052 lYd0_e_1029 (fun _ _ => false) = true := by decide +kernel
set_option maxRecDepth 20000 in
theorem lA_e_1029 {n : Nat} (ih : lIH n) {hb ub : Nat} {N : Int} {ρ : List Nat} {ν : List Value} {lv : List (Nat × Value)} {st : List Value} {h : List zC} {u : Nat} {i R C A : Int32} {F : Int} (hA : gA hb ub ρ ν lM_e lv st h u) (hH : tHeap wT N ρ h) (v4 : ν[4]? = some (.int i)) (v7 : ν[7]? = some (.int R)) (v9 : ν[9]? = some (.int C)) (v11 : ν[11]? = some (.int A))
    (i4 : i.toInt ≤ 4096) (acc : lAcc false hb ub i.toInt R.toInt C.toInt A.toInt F) (rm1 : (ub : Int) + 17920 ≤ zSN) (rm2 : (hb : Int) + 1152 ≤ zCM) (hn : 4104 - i.toInt ≤ (n + 1 : Nat)) (hR : lR ρ ν h) : zE zrx zi 57 243 1029 lv st h u lKK := by
  obtain ⟨dl1, dl2, dl3, dl4⟩ := lD_lo R.toInt C.toInt A.toInt
  obtain ⟨r0, ra, rb, rc⟩ := lYr_e_1029
  have q0 : (h.length : Int) - hb ≤ 0 := hA.2.2.2.2.1
  have q1 : (u : Int) - ub ≤ 0 := hA.2.2.2.2.2
  have hlen : ν.length ≤ 15 := by
    rw [← hA.1.1]
    exact Nat.le_of_eq rfl
  refine seg wT_ok lC_e_ok 3000 lY1_e_1029 (Nat.le_refl _) (nExt.refl ν) hlen (hA.reb r0) rfl rfl hH (by omega) (by omega) ?_
  intro x hx N1 ρ1 ν1 lv1 st1 h1 u1 x1 hA1 hH1 hF1 hP1
  rw [List.mem_singleton.mp hx] at hA1 ⊢
  clear hx x
  dsimp only at hA1 ⊢
  have hR1 := hR.fr hH hF1 hP1 x1 stW_nil rW_nil
  have b1 : (h1.length : Int) - h.length ≤ 0 := Int.le_trans (hA1.cost (by decide +kernel)).1 (by decide +kernel)
  have b2 : (u1 : Int) - u ≤ 0 := Int.le_trans (hA1.cost (by decide +kernel)).2 (by decide +kernel)
  have hT : gSt ν1 [3, 17, 1] st1 := hA1.2.2.1
  obtain ⟨w0, sa0, ea0, o0, ha0⟩ := hT.inv
  subst ea0
  rw [hR1.2.2.2.1] at o0
  cases o0
  obtain ⟨w1, sa1, ea1, o1, ha1⟩ := ha0.inv
  subst ea1
  obtain ⟨p17, rfl, -⟩ := hA1.int o1 rfl
  obtain ⟨w2, sa2, ea2, o2, ha2⟩ := ha1.inv
  subst ea2
  rw [hR1.2.1] at o2
  cases o2
  cases ha2.nil
  obtain ⟨cnt, el, Fk, pf⟩ := pk_at (hR1.2.2.2.2.2.1.2.1) (hR1.2.2.2.2.2.1.2.2.2)
  obtain ⟨cr, rl, pr⟩ : ∃ (cr : Int32) (rl : Nat), pkR h1 cr rl := hR1.2.2.2.2.2.2.1.1
  obtain ⟨cc, lc, pc⟩ : ∃ (cc : Int32) (lc : Nat), pkC h1 cc lc := hR1.2.2.2.2.2.2.1.2.1
  have kc := pk_kC pf pr (hR1.2.2.2.2.1)
  have hcd : ∀ k, k < cc.toNatClampNeg → CI h1 (189 + k) := fun k hk j hj => by
    obtain ⟨q, -, -, -, q4⟩ := pc.2.2.2.2.2.2 k hk
    obtain ⟨x, x1, -⟩ := q4 j (by omega)
    exact ⟨x, x1⟩
  have hwy : ∀ i, i < 4 → ∃ w : Int32, gF h1 25 i = some (.int w) := fun i hi => by
    obtain ⟨w, w1, -⟩ := (hR1.2.2.2.2.2.2.2.1.2.2) i hi
    exact ⟨w, w1⟩
  have hl1 := hR1.2.2.2.2.1.1
  obtain ⟨rv, rv1, rv2⟩ := id (hR1.2.2.2.2.2.2.2.2.2)
  refine call_val con_L_appeal vr_243_1037 lV1_e_1029 rfl rfl (hA1.reb ra) hH1 (by have : k_L_appeal.2.2.2.2.1 = 1 := rfl; omega) (by have : k_L_appeal.2.2.2.2.2.1 = 6 := rfl; omega) rfl (fun n => C_Lappeal n p17 h1 u1 kc pc.1 pc.2.2.2.2.2.1 hcd rv1) ?_
  intro N2 ρ2 ν2 v h2 u2 n2 x2 hA2 hH2 hF2 hP2 V1
  obtain ⟨k, hk, V1⟩ := V1
  cases hk
  have V1 : Q_Lappeal (exK h1) (geK h1 cnt) cnt cr cc rv p17 h1 (.inl (some (.int k))) h2 u2 := ⟨k, rfl, V1⟩
  have b3 : (h2.length : Int) - h1.length ≤ 1 := Int.le_trans (hA2.cost (by decide +kernel)).1 (by decide +kernel)
  have b4 : (u2 : Int) - u1 ≤ 6 := Int.le_trans (hA2.cost (by decide +kernel)).2 (by decide +kernel)
  have hTk : ν2[18]? = some (.int k) := gSt_hd hA2.2.2.1 (by decide +kernel)
  have hlen2 : ν2.length ≤ 19 := by
    rw [← hA2.1.1]
    exact Nat.le_of_eq lYn_e_1029
  have hS2 : Stc h2 := hR1.2.2.2.2.1.fr hR1.1 hF2 stW_L_appeal
  have hRo2 : Ro ρ2 := hR1.1.pre hP2
  show zE zrx zi 57 243 1040 lv1 _ h2 u2 lKK
  refine seg wT_ok lC_e_ok 3000 lY2_e_1029 (Nat.le_refl _) (nExt.refl ν2) hlen2 (hA2.reb rb) rfl rfl hH2 (by omega) (by omega) ?_
  intro x hx N3 ρ3 ν3 lv3 st3 h3 u3 x3 hA3 hH3 hF3 hP3
  rw [List.mem_singleton.mp hx] at hA3 ⊢
  clear hx x
  dsimp only at hA3 ⊢
  have hS3 : Stc h3 := hS2.fr hRo2 hF3 stW_nil
  have b5 : (h3.length : Int) - h2.length ≤ 0 := Int.le_trans (hA3.cost (by decide +kernel)).1 (by decide +kernel)
  have b6 : (u3 : Int) - u2 ≤ 0 := Int.le_trans (hA3.cost (by decide +kernel)).2 (by decide +kernel)
  have hE : ∀ p, p < h2.length → ∀ k, gF h3 p k = gF h2 p k := fun p hp k => gFr_F0 hF3 hH2.1 hp k
  have hT : gSt ν3 [17, 2] st3 := hA3.2.2.1
  obtain ⟨w0, sb0, eb0, c0, hb0⟩ := hT.inv
  subst eb0
  rw [x3 _ _ (x2 _ _ o1)] at c0
  cases c0
  obtain ⟨w1, sb1, eb1, c1, hb1⟩ := hb0.inv
  subst eb1
  rw [x3 _ _ (x2 _ _ hR1.2.2.1)] at c1
  cases c1
  cases hb1.nil
  have hl1 := hR1.2.2.2.2.1.1
  have hl2 := gFr_len hF2
  have hl3 := gFr_len hF3
  have ro3 : Ro ρ3 := hRo2.pre hP3
  have o3 : rfO h1 h3 := fun q j hq z => (hE q (by omega) j).trans (rf_appeal pc.2.2.2.2.2.1 V1 q j hq z)
  have mc := pk_mC pf pr hl1 hS3 o3
  obtain ⟨⟨nel, nrl⟩, nA, nR, ⟨hcs, hcl, nlc⟩, hq, hw, hj⟩ := pk_ref pf pr pc (hR1.2.2.2.2.2.2.1.2.2) (hR1.2.2.2.2.2.2.2.1.2.2) hl1 o3
  have rv3 := (hE 213 (by omega) 2).trans ((gFr_F hF2 (hR1.1 213 40 (by decide +kernel)) (by decide +kernel) (by omega)).trans rv2)
  refine call_val con_X15_appeal vr_243_1049 lV2_e_1029 rfl rfl (hA3.reb rc) hH3 (by have : k_X15_appeal.2.2.2.2.1 = 0 := rfl; omega) (by have : k_X15_appeal.2.2.2.2.2.1 = 0 := rfl; omega) rfl (fun n => C_mappeal n p17 h3 u3 mc nel nrl nA nR hcs hcl pc.2.2.2.2.1 nlc hq rv3 hj) ?_
  intro N4 ρ4 ν4 v h4 u4 n4 x4 hA4 hH4 hF4 hP4 V2
  obtain ⟨nd, rd⟩ := lYd0_e_1029n
  obtain ⟨r, hr⟩ : ∃ r : Int32, v = .int r := by
    first
      | (obtain ⟨r, h0, hr, -⟩ := V2; cases hr; exact ⟨r, rfl⟩)
      | (obtain ⟨r, hr, -⟩ := V2; cases hr; exact ⟨r, rfl⟩)
  subst hr
  have b7 : (h4.length : Int) - h3.length ≤ 0 := Int.le_trans (hA4.cost (by decide +kernel)).1 (by decide +kernel)
  have b8 : (u4 : Int) - u3 ≤ 0 := Int.le_trans (hA4.cost (by decide +kernel)).2 (by decide +kernel)
  have z1 := ((by
    obtain ⟨⟨y1, y5⟩, y2, y3, y4⟩ := sumV_appeal hl1 hH1 hR1.1 (hR1.2.2.2.2.1) pf pr (hR1.2.2.2.2.2.2.2.1.2.1) pc (hR1.2.2.2.2.2.2.1.2.2) rv1 rv2 hl2 V1 hE V2
    exact ⟨⟨⟨qFed.fr3 (hR1.2.2.2.2.2.1.1) hR1.2.2.2.2.1 hR1.1 hH1 hF2 (by decide +kernel) hS2 hRo2 hH2 hF3 hS3 (hRo2.pre hP3) hH3 hF4 (by decide +kernel), qAR.fr3 (hR1.2.2.2.2.2.1.2.1) hR1.2.2.2.2.1 hR1.1 hH1 hF2 (by decide +kernel) hS2 hRo2 hH2 hF3 hS3 (hRo2.pre hP3) hH3 hF4 (by decide +kernel), qHO.fr3 (hR1.2.2.2.2.2.1.2.2.1) hR1.2.2.2.2.1 hR1.1 hH1 hF2 (by decide +kernel) hS2 hRo2 hH2 hF3 hS3 (hRo2.pre hP3) hH3 hF4 (by decide +kernel), qEX.fr3 (hR1.2.2.2.2.2.1.2.2.2) hR1.2.2.2.2.1 hR1.1 hH1 hF2 (by decide +kernel) hS2 hRo2 hH2 hF3 hS3 (hRo2.pre hP3) hH3 hF4 (by decide +kernel)⟩, ⟨qRFu.fr3 (hR1.2.2.2.2.2.2.1.1) hR1.2.2.2.2.1 hR1.1 hH1 hF2 (by decide +kernel) hS2 hRo2 hH2 hF3 hS3 (hRo2.pre hP3) hH3 hF4 (by decide +kernel), qRCs.fr3 (hR1.2.2.2.2.2.2.1.2.1) hR1.2.2.2.2.1 hR1.1 hH1 hF2 (by decide +kernel) hS2 hRo2 hH2 hF3 hS3 (hRo2.pre hP3) hH3 hF4 (by decide +kernel), y1⟩, ⟨Rw.fr3 (hR1.2.2.2.2.2.2.2.1.1) hR1.2.2.2.2.1 hR1.1 hH1 hF2 (by decide +kernel) hS2 hRo2 hH2 hF3 hS3 (hRo2.pre hP3) hH3 hF4 (by decide +kernel), qSm.fr3T (hR1.2.2.2.2.2.2.2.1.2.1) hR1.2.2.2.2.1 hR1.1 hH1 hF2 (by decide +kernel) hS2 hRo2 hH2 hF3 hS3 (hRo2.pre hP3) hH3 hF4 (by decide +kernel), qSm.fr3Y (hR1.2.2.2.2.2.2.2.1.2.2) hR1.2.2.2.2.1 hR1.1 hH1 hF2 (by decide +kernel) hS2 hRo2 hH2 hF3 hS3 (hRo2.pre hP3) hH3 hF4 (by decide +kernel)⟩, qDz.fr3 (hR1.2.2.2.2.2.2.2.2.1) hR1.2.2.2.2.1 hR1.1 hH1 hF2 (by decide +kernel) hS2 hRo2 hH2 hF3 hS3 (hRo2.pre hP3) hH3 hF4 (by decide +kernel), y5⟩, trivial⟩ : qAll h4 ∧ True)).1
  have hR4 : lR ρ4 ν4 h4 := ⟨(hRo2.pre hP3).pre hP4, x4 _ _ (x3 _ _ (x2 _ _ hR1.2.1)), x4 _ _ (x3 _ _ (x2 _ _ hR1.2.2.1)), x4 _ _ (x3 _ _ (x2 _ _ hR1.2.2.2.1)), hS3.fr (hRo2.pre hP3) hF4 stW_X15_appeal, z1⟩
  have x14 : nExt ν ν4 := x1.trans (x2.trans (x3.trans x4))
  have hA4 := hA4.reb rd
  show zE zrx zi 57 243 1052 lv3 _ h4 u4 lKK
  refine seg wT_ok lC_e_ok 3000 lY3_e_1029_0 (Nat.le_refl _) x14 hlen hA4 rfl rfl hH4 (by omega) (by omega) ?_
  intro x hx N5 ρ5 ν5 lv5 st5 h5 u5 x5 hA5 hH5 hF5 hP5
  rw [List.mem_singleton.mp hx] at hA5 ⊢
  clear hx x
  dsimp only at hA5 ⊢
  have b9 : (h5.length : Int) - h4.length ≤ 0 := Int.le_trans (hA5.cost (by decide +kernel)).1 (by decide +kernel)
  have c1 : (u5 : Int) - u4 ≤ 0 := Int.le_trans (hA5.cost (by decide +kernel)).2 (by decide +kernel)
  obtain ⟨j, j1, j2⟩ := l_i hA5 rfl rfl (x5 _ _ v4)
  exact l_next (g := false) ih [0, 1, 2, 3, 15, 5, 6, 7, 8, 9, 10, 11, 12, 13, 14] (by decide +kernel) (by decide +kernel) hA5 rfl hH5 rfl rfl rfl rfl j1 (x5 _ _ v7) (x5 _ _ v9) (x5 _ _ v11) (acc.dear j2 (by omega) (by omega) false (fun z => z)) (by omega) rfl rfl rfl (lR.fr ⟨hR4.1, x5 _ _ (hR.2.1), x5 _ _ (hR.2.2.1), x5 _ _ (hR.2.2.2.1), hR4.2.2.2.2⟩ hH4 hF5 hP5 (nExt.refl ν5) stW_nil rW_nil)
def lYa_e_1057 : sS := ([(3, 0, 0), (3, 8, 0), (3, 40, 0), (3, 36, 0), (0, 0, 4088), (0, 8, 4096), (3, 45, 0), (0, 0, 40), (3, 48, 0), (0, 0, 24), (3, 51, 0), (0, 0, 24), (0, 0, 4088), (0, 0, 4088), (3, 1, 0), (0, 1, 1), (0, 1, 4089), (0, -2147483648, 2147483647)], [(0, 0), (1, 1), (2, 2), (3, 3), (4, 4)], [3, 17, 1], [(4, 0, 16, 17, 0), (0, 16, 4, 0, 1), (0, 4, 16, 0, -1), (0, 4, 5, 0, -8), (3, 0, 5, 0, 0), (2, 2, 7, 6, 0), (2, 6, 2, 7, 0), (2, 2, 8, 8, 0), (2, 8, 2, 9, 0), (2, 2, 9, 10, 0), (2, 10, 2, 11, 0), (2, 1, 1, 12, 0), (2, 2, 3, 13, 0), (0, 12, 13, 0, 0), (0, 13, 12, 0, 0), (2, 2, 10, 14, 0), (0, 12, 4, 0, 0), (0, 13, 4, 0, 0)], 0, 0, [])
def lYb_e_1057 : sS := vZ (cvS zi lYa_e_1057 k_L_pass (cx1 k_L_pass))
def lYc_e_1057 : sS := ([(3, 0, 0), (3, 8, 0), (3, 40, 0), (3, 36, 0), (0, 0, 4088), (0, 8, 4096), (3, 45, 0), (0, 0, 40), (3, 48, 0), (0, 0, 24), (3, 51, 0), (0, 0, 24), (0, 0, 4088), (0, 0, 4088), (3, 1, 0), (0, 1, 1), (0, 1, 4089), (0, -2147483648, 2147483647), (0, 0, 2), (0, 1, 1)], [(5, 18), (0, 0), (1, 1), (2, 2), (3, 3), (4, 4)], [17, 2], [(4, 0, 16, 17, 0), (0, 16, 4, 0, 1), (0, 4, 16, 0, -1), (0, 4, 5, 0, -8), (3, 0, 5, 0, 0), (2, 2, 7, 6, 0), (2, 6, 2, 7, 0), (2, 2, 8, 8, 0), (2, 8, 2, 9, 0), (2, 2, 9, 10, 0), (2, 10, 2, 11, 0), (2, 1, 1, 12, 0), (2, 2, 3, 13, 0), (0, 12, 13, 0, 0), (0, 13, 12, 0, 0), (2, 2, 10, 14, 0), (0, 12, 4, 0, 0), (0, 13, 4, 0, 0)], 0, 0, [])
theorem lY1_e_1057 : chk zrx zi wT (wRo wSites_15) (wRo wTags_15) lC_e [] 0 0 15 3000 false [(1065, lYa_e_1057, [])] none 57 243 1057 (vZ lM_e) (fun _ _ => false) = true := by decide +kernel
theorem lY2_e_1057 : chk zrx zi wT (wRo wSites_15) (wRo wTags_15) lC_e [] 0 0 19 3000 false [(1077, lYc_e_1057, [])] none 57 243 1068 lYb_e_1057 (fun _ _ => false) = true := by decide +kernel
theorem lV1_e_1057 : cvOk zrx zi wT 243 1065 56 lYa_e_1057 k_L_pass = true := by decide +kernel
theorem lV2_e_1057 : cvOk zrx zi wT 243 1077 56 lYc_e_1057 k_X15_pass = true := by decide +kernel
theorem lYn_e_1057 : lYb_e_1057.1.length = 19 := by decide +kernel
theorem lYr_e_1057 : (vZ lM_e).2.2.2.1.all (fun f => !(f.1 == 7)) = true ∧ lYa_e_1057.2.2.2.1.all (fun f => !(f.1 == 7)) = true ∧ (cvS zi lYa_e_1057 k_L_pass (cx1 k_L_pass)).2.2.2.1.all (fun f => !(f.1 == 7)) = true ∧ lYc_e_1057.2.2.2.1.all (fun f => !(f.1 == 7)) = true := by decide +kernel
def lYd0_e_1057 : sS := vZ (cvS zi lYc_e_1057 k_X15_pass (cxi k_X15_pass 0))
theorem lYd0_e_1057n : lYd0_e_1057.1.length = 21 ∧ (cvS zi lYc_e_1057 k_X15_pass (cxi k_X15_pass 0)).2.2.2.1.all (fun f => !(f.1 == 7)) = true := by decide +kernel
theorem lY3_e_1057_0 : chk zrx zi wT (wRo wSites_15) (wRo wTags_15) lC_e [] 0 0 15 3000 false [(27, lT_eza, [])] none 57 243 1080 lYd0_e_1057 (fun _ _ => false) = true := by decide +kernel
set_option maxRecDepth 20000 in
theorem lA_e_1057 {n : Nat} (ih : lIH n) {hb ub : Nat} {N : Int} {ρ : List Nat} {ν : List Value} {lv : List (Nat × Value)} {st : List Value} {h : List zC} {u : Nat} {i R C A : Int32} {F : Int} (hA : gA hb ub ρ ν lM_e lv st h u) (hH : tHeap wT N ρ h) (v4 : ν[4]? = some (.int i)) (v7 : ν[7]? = some (.int R)) (v9 : ν[9]? = some (.int C)) (v11 : ν[11]? = some (.int A))
    (i4 : i.toInt ≤ 4096) (acc : lAcc false hb ub i.toInt R.toInt C.toInt A.toInt F) (rm1 : (ub : Int) + 17920 ≤ zSN) (rm2 : (hb : Int) + 1152 ≤ zCM) (hn : 4104 - i.toInt ≤ (n + 1 : Nat)) (hR : lR ρ ν h) : zE zrx zi 57 243 1057 lv st h u lKK := by
  obtain ⟨dl1, dl2, dl3, dl4⟩ := lD_lo R.toInt C.toInt A.toInt
  obtain ⟨r0, ra, rb, rc⟩ := lYr_e_1057
  have q0 : (h.length : Int) - hb ≤ 0 := hA.2.2.2.2.1
  have q1 : (u : Int) - ub ≤ 0 := hA.2.2.2.2.2
  have hlen : ν.length ≤ 15 := by
    rw [← hA.1.1]
    exact Nat.le_of_eq rfl
  refine seg wT_ok lC_e_ok 3000 lY1_e_1057 (Nat.le_refl _) (nExt.refl ν) hlen (hA.reb r0) rfl rfl hH (by omega) (by omega) ?_
  intro x hx N1 ρ1 ν1 lv1 st1 h1 u1 x1 hA1 hH1 hF1 hP1
  rw [List.mem_singleton.mp hx] at hA1 ⊢
  clear hx x
  dsimp only at hA1 ⊢
  have hR1 := hR.fr hH hF1 hP1 x1 stW_nil rW_nil
  have b1 : (h1.length : Int) - h.length ≤ 0 := Int.le_trans (hA1.cost (by decide +kernel)).1 (by decide +kernel)
  have b2 : (u1 : Int) - u ≤ 0 := Int.le_trans (hA1.cost (by decide +kernel)).2 (by decide +kernel)
  have hT : gSt ν1 [3, 17, 1] st1 := hA1.2.2.1
  obtain ⟨w0, sa0, ea0, o0, ha0⟩ := hT.inv
  subst ea0
  rw [hR1.2.2.2.1] at o0
  cases o0
  obtain ⟨w1, sa1, ea1, o1, ha1⟩ := ha0.inv
  subst ea1
  obtain ⟨p17, rfl, -⟩ := hA1.int o1 rfl
  obtain ⟨w2, sa2, ea2, o2, ha2⟩ := ha1.inv
  subst ea2
  rw [hR1.2.1] at o2
  cases o2
  cases ha2.nil
  obtain ⟨T, L, fs, fa, fbd, t1, t3, fm1⟩ := hR1.2.2.2.2.2.1.1
  obtain ⟨cnt, el, c0, c2, c1, cel, h0c, h24, -⟩ := id (hR1.2.2.2.2.2.1.2.1)
  obtain ⟨dd, d1, d2, d3⟩ := id (hR1.2.2.2.2.2.2.2.2.1)
  have t2 : L ≤ 60 := fm1.l60
  refine call_val con_L_pass vr_243_1065 lV1_e_1057 rfl rfl (hA1.reb ra) hH1 (by have : k_L_pass.2.2.2.2.1 = 1 := rfl; omega) (by have : k_L_pass.2.2.2.2.2.1 = 6 := rfl; omega) rfl (fun n => C_Lpass n p17 h1 u1 d1) ?_
  intro N2 ρ2 ν2 v h2 u2 n2 x2 hA2 hH2 hF2 hP2 V1
  obtain ⟨k, hk, V1⟩ := V1
  cases hk
  have V1 : Q_Lpass dd p17 h1 (.inl (some (.int k))) h2 u2 := ⟨k, rfl, V1⟩
  have b3 : (h2.length : Int) - h1.length ≤ 1 := Int.le_trans (hA2.cost (by decide +kernel)).1 (by decide +kernel)
  have b4 : (u2 : Int) - u1 ≤ 6 := Int.le_trans (hA2.cost (by decide +kernel)).2 (by decide +kernel)
  have hTk : ν2[18]? = some (.int k) := gSt_hd hA2.2.2.1 (by decide +kernel)
  have hlen2 : ν2.length ≤ 19 := by
    rw [← hA2.1.1]
    exact Nat.le_of_eq lYn_e_1057
  have hS2 : Stc h2 := hR1.2.2.2.2.1.fr hR1.1 hF2 stW_L_pass
  have hRo2 : Ro ρ2 := hR1.1.pre hP2
  show zE zrx zi 57 243 1068 lv1 _ h2 u2 lKK
  refine seg wT_ok lC_e_ok 3000 lY2_e_1057 (Nat.le_refl _) (nExt.refl ν2) hlen2 (hA2.reb rb) rfl rfl hH2 (by omega) (by omega) ?_
  intro x hx N3 ρ3 ν3 lv3 st3 h3 u3 x3 hA3 hH3 hF3 hP3
  rw [List.mem_singleton.mp hx] at hA3 ⊢
  clear hx x
  dsimp only at hA3 ⊢
  have hS3 : Stc h3 := hS2.fr hRo2 hF3 stW_nil
  have b5 : (h3.length : Int) - h2.length ≤ 0 := Int.le_trans (hA3.cost (by decide +kernel)).1 (by decide +kernel)
  have b6 : (u3 : Int) - u2 ≤ 0 := Int.le_trans (hA3.cost (by decide +kernel)).2 (by decide +kernel)
  have hE : ∀ p, p < h2.length → ∀ k, gF h3 p k = gF h2 p k := fun p hp k => gFr_F0 hF3 hH2.1 hp k
  have hT : gSt ν3 [17, 2] st3 := hA3.2.2.1
  obtain ⟨w0, sb0, eb0, c0, hb0⟩ := hT.inv
  subst eb0
  rw [x3 _ _ (x2 _ _ o1)] at c0
  cases c0
  obtain ⟨w1, sb1, eb1, c1, hb1⟩ := hb0.inv
  subst eb1
  rw [x3 _ _ (x2 _ _ hR1.2.2.1)] at c1
  cases c1
  cases hb1.nil
  have hl1 := hR1.2.2.2.2.1.1
  have hl2 := gFr_len hF2
  have hl3 := gFr_len hF3
  have ro3 : Ro ρ3 := hRo2.pre hP3
  have d4 := (hE 213 (by omega) 1).trans ((gFr_F hF2 (hR1.1 213 40 (by decide +kernel)) (by decide +kernel) (by omega)).trans d2)
  refine call_val con_X15_pass vr_243_1077 lV2_e_1057 rfl rfl (hA3.reb rc) hH3 (by have : k_X15_pass.2.2.2.2.1 = 0 := rfl; omega) (by have : k_X15_pass.2.2.2.2.2.1 = 0 := rfl; omega) rfl (fun n => C_mpass n p17 h3 u3 d4) ?_
  intro N4 ρ4 ν4 v h4 u4 n4 x4 hA4 hH4 hF4 hP4 V2
  obtain ⟨nd, rd⟩ := lYd0_e_1057n
  obtain ⟨r, hr⟩ : ∃ r : Int32, v = .int r := by
    first
      | (obtain ⟨r, h0, hr, -⟩ := V2; cases hr; exact ⟨r, rfl⟩)
      | (obtain ⟨r, hr, -⟩ := V2; cases hr; exact ⟨r, rfl⟩)
  subst hr
  have b7 : (h4.length : Int) - h3.length ≤ 0 := Int.le_trans (hA4.cost (by decide +kernel)).1 (by decide +kernel)
  have b8 : (u4 : Int) - u3 ≤ 0 := Int.le_trans (hA4.cost (by decide +kernel)).2 (by decide +kernel)
  have z1 := ((⟨⟨⟨qFed.fr3 (hR1.2.2.2.2.2.1.1) hR1.2.2.2.2.1 hR1.1 hH1 hF2 (by decide +kernel) hS2 hRo2 hH2 hF3 hS3 (hRo2.pre hP3) hH3 hF4 (by decide +kernel), qAR.fr3 (hR1.2.2.2.2.2.1.2.1) hR1.2.2.2.2.1 hR1.1 hH1 hF2 (by decide +kernel) hS2 hRo2 hH2 hF3 hS3 (hRo2.pre hP3) hH3 hF4 (by decide +kernel), qHO.fr3 (hR1.2.2.2.2.2.1.2.2.1) hR1.2.2.2.2.1 hR1.1 hH1 hF2 (by decide +kernel) hS2 hRo2 hH2 hF3 hS3 (hRo2.pre hP3) hH3 hF4 (by decide +kernel), qEX.fr3 (hR1.2.2.2.2.2.1.2.2.2) hR1.2.2.2.2.1 hR1.1 hH1 hF2 (by decide +kernel) hS2 hRo2 hH2 hF3 hS3 (hRo2.pre hP3) hH3 hF4 (by decide +kernel)⟩, ⟨qRFu.fr3 (hR1.2.2.2.2.2.2.1.1) hR1.2.2.2.2.1 hR1.1 hH1 hF2 (by decide +kernel) hS2 hRo2 hH2 hF3 hS3 (hRo2.pre hP3) hH3 hF4 (by decide +kernel), qRCs.fr3 (hR1.2.2.2.2.2.2.1.2.1) hR1.2.2.2.2.1 hR1.1 hH1 hF2 (by decide +kernel) hS2 hRo2 hH2 hF3 hS3 (hRo2.pre hP3) hH3 hF4 (by decide +kernel), qVd.fr3 (hR1.2.2.2.2.2.2.1.2.2) hR1.2.2.2.2.1 hR1.1 hH1 hF2 (by decide +kernel) hS2 hRo2 hH2 hF3 hS3 (hRo2.pre hP3) hH3 hF4 (by decide +kernel)⟩, ⟨Rw.fr3 (hR1.2.2.2.2.2.2.2.1.1) hR1.2.2.2.2.1 hR1.1 hH1 hF2 (by decide +kernel) hS2 hRo2 hH2 hF3 hS3 (hRo2.pre hP3) hH3 hF4 (by decide +kernel), qSm.fr3T (hR1.2.2.2.2.2.2.2.1.2.1) hR1.2.2.2.2.1 hR1.1 hH1 hF2 (by decide +kernel) hS2 hRo2 hH2 hF3 hS3 (hRo2.pre hP3) hH3 hF4 (by decide +kernel), qSm.fr3Y (hR1.2.2.2.2.2.2.2.1.2.2) hR1.2.2.2.2.1 hR1.1 hH1 hF2 (by decide +kernel) hS2 hRo2 hH2 hF3 hS3 (hRo2.pre hP3) hH3 hF4 (by decide +kernel)⟩, sumZ_pass d1 d2 d3 hl1 hl2 V1 hE V2, qRv.fr3 (hR1.2.2.2.2.2.2.2.2.2) hR1.2.2.2.2.1 hR1.1 hH1 hF2 (by decide +kernel) hS2 hRo2 hH2 hF3 hS3 (hRo2.pre hP3) hH3 hF4 (by decide +kernel)⟩, trivial⟩ : qAll h4 ∧ True)).1
  have hR4 : lR ρ4 ν4 h4 := ⟨(hRo2.pre hP3).pre hP4, x4 _ _ (x3 _ _ (x2 _ _ hR1.2.1)), x4 _ _ (x3 _ _ (x2 _ _ hR1.2.2.1)), x4 _ _ (x3 _ _ (x2 _ _ hR1.2.2.2.1)), hS3.fr (hRo2.pre hP3) hF4 stW_X15_pass, z1⟩
  have x14 : nExt ν ν4 := x1.trans (x2.trans (x3.trans x4))
  have hA4 := hA4.reb rd
  show zE zrx zi 57 243 1080 lv3 _ h4 u4 lKK
  refine seg wT_ok lC_e_ok 3000 lY3_e_1057_0 (Nat.le_refl _) x14 hlen hA4 rfl rfl hH4 (by omega) (by omega) ?_
  intro x hx N5 ρ5 ν5 lv5 st5 h5 u5 x5 hA5 hH5 hF5 hP5
  rw [List.mem_singleton.mp hx] at hA5 ⊢
  clear hx x
  dsimp only at hA5 ⊢
  have b9 : (h5.length : Int) - h4.length ≤ 0 := Int.le_trans (hA5.cost (by decide +kernel)).1 (by decide +kernel)
  have c1 : (u5 : Int) - u4 ≤ 0 := Int.le_trans (hA5.cost (by decide +kernel)).2 (by decide +kernel)
  obtain ⟨j, j1, j2⟩ := l_i hA5 rfl rfl (x5 _ _ v4)
  exact l_next (g := false) ih [0, 1, 2, 3, 15, 5, 6, 7, 8, 9, 10, 11, 12, 13, 14] (by decide +kernel) (by decide +kernel) hA5 rfl hH5 rfl rfl rfl rfl j1 (x5 _ _ v7) (x5 _ _ v9) (x5 _ _ v11) (acc.dear j2 (by omega) (by omega) false (fun z => z)) (by omega) rfl rfl rfl (lR.fr ⟨hR4.1, x5 _ _ (hR.2.1), x5 _ _ (hR.2.2.1), x5 _ _ (hR.2.2.2.1), hR4.2.2.2.2⟩ hH4 hF5 hP5 (nExt.refl ν5) stW_nil rW_nil)
def lT_fza : sS := ([(3, 0, 0), (3, 8, 0), (3, 40, 0), (3, 36, 0), (0, 0, 4096), (0, 0, 4096), (3, 45, 0), (0, 0, 40), (3, 48, 0), (0, 0, 24), (3, 51, 0), (0, 0, 24), (0, 0, 4096), (0, 0, 4096), (3, 56, 0), (0, 0, 4096)], [(0, 0), (1, 1), (2, 2), (3, 3), (4, 15)], [], [(3, 0, 5, 0, 0), (2, 2, 7, 6, 0), (2, 6, 2, 7, 0), (2, 2, 8, 8, 0), (2, 8, 2, 9, 0), (2, 2, 9, 10, 0), (2, 10, 2, 11, 0), (2, 1, 1, 12, 0), (2, 2, 3, 13, 0), (0, 12, 13, 0, 0), (0, 13, 12, 0, 0), (2, 2, 10, 14, 0), (0, 15, 5, 0, 0), (0, 15, 4, 0, 8), (0, 4, 15, 0, -8), (0, 12, 15, 0, 0), (0, 13, 15, 0, 0)], 0, 0, [])
def lT_fzr : sS := ([(3, 0, 0), (3, 8, 0), (3, 40, 0), (3, 36, 0), (0, 0, 4096), (0, 0, 4096), (3, 45, 0), (0, 0, 40), (3, 48, 0), (0, 0, 24), (3, 51, 0), (0, 0, 24), (0, 0, 4096), (0, 0, 4096), (3, 56, 0), (0, 0, 4096), (0, 0, 40)], [(0, 0), (1, 1), (2, 2), (3, 3), (4, 15)], [], [(3, 0, 5, 0, 0), (2, 2, 7, 6, 0), (2, 6, 2, 16, 0), (2, 2, 8, 8, 0), (2, 8, 2, 9, 0), (2, 2, 9, 10, 0), (2, 10, 2, 11, 0), (2, 1, 1, 12, 0), (2, 2, 3, 13, 0), (0, 12, 13, 0, 0), (0, 13, 12, 0, 0), (2, 2, 10, 14, 0), (0, 15, 5, 0, 0), (0, 15, 4, 0, 8), (0, 4, 15, 0, -8), (0, 12, 15, 0, 0), (0, 16, 7, 0, 1), (0, 7, 16, 0, -1), (0, 13, 15, 0, 0)], 0, 0, [])
def lT_fzc : sS := ([(3, 0, 0), (3, 8, 0), (3, 40, 0), (3, 36, 0), (0, 0, 4096), (0, 0, 4096), (3, 45, 0), (0, 0, 40), (3, 48, 0), (0, 0, 24), (3, 51, 0), (0, 0, 24), (0, 0, 4096), (0, 0, 4096), (3, 56, 0), (0, 0, 4096), (0, 0, 24)], [(0, 0), (1, 1), (2, 2), (3, 3), (4, 15)], [], [(3, 0, 5, 0, 0), (2, 2, 7, 6, 0), (2, 6, 2, 7, 0), (2, 2, 8, 8, 0), (2, 8, 2, 16, 0), (2, 2, 9, 10, 0), (2, 10, 2, 11, 0), (2, 1, 1, 12, 0), (2, 2, 3, 13, 0), (0, 12, 13, 0, 0), (0, 13, 12, 0, 0), (2, 2, 10, 14, 0), (0, 15, 5, 0, 0), (0, 15, 4, 0, 8), (0, 4, 15, 0, -8), (0, 12, 15, 0, 0), (0, 16, 9, 0, 1), (0, 9, 16, 0, -1), (0, 13, 15, 0, 0)], 0, 0, [])
def lT_fzw : sS := ([(3, 0, 0), (3, 8, 0), (3, 40, 0), (3, 36, 0), (0, 0, 4096), (0, 0, 4096), (3, 45, 0), (0, 0, 40), (3, 48, 0), (0, 0, 24), (3, 51, 0), (0, 0, 24), (0, 0, 4096), (0, 0, 4096), (3, 56, 0), (0, 0, 4096), (0, 0, 24), (3, 1, 0)], [(0, 0), (1, 1), (2, 2), (3, 3), (4, 15)], [], [(3, 0, 5, 0, 0), (2, 2, 7, 6, 0), (2, 6, 2, 7, 0), (2, 2, 8, 8, 0), (2, 8, 2, 9, 0), (2, 2, 9, 10, 0), (2, 10, 2, 16, 0), (2, 1, 1, 12, 0), (2, 2, 3, 13, 0), (0, 12, 13, 0, 0), (0, 13, 12, 0, 0), (2, 2, 10, 17, 0), (0, 15, 5, 0, 0), (0, 15, 4, 0, 8), (0, 4, 15, 0, -8), (0, 12, 15, 0, 0), (0, 16, 11, 0, 1), (0, 11, 16, 0, -1), (0, 13, 15, 0, 0)], 0, 0, [])
def lT_fze : sS := ([(3, 0, 0), (3, 8, 0), (3, 40, 0), (3, 36, 0), (0, 0, 4096), (0, 0, 4096), (3, 45, 0), (0, 0, 40), (3, 48, 0), (0, 0, 24), (3, 51, 0), (0, 0, 24), (0, 0, 4096), (0, 0, 4096), (3, 56, 0), (0, 0, 4096), (3, 1, 0)], [(0, 0), (1, 1), (2, 2), (3, 3), (4, 15)], [], [(3, 0, 5, 0, 0), (2, 2, 7, 6, 0), (2, 6, 2, 7, 0), (2, 2, 8, 8, 0), (2, 8, 2, 9, 0), (2, 2, 9, 10, 0), (2, 10, 2, 11, 0), (2, 1, 1, 12, 0), (2, 2, 3, 13, 0), (0, 12, 13, 0, 0), (0, 13, 12, 0, 0), (2, 2, 10, 16, 0), (0, 15, 5, 0, 0), (0, 15, 4, 0, 8), (0, 4, 15, 0, -8), (0, 12, 15, 0, 0), (0, 13, 15, 0, 0)], 0, 0, [])
def lT_fzf : sS := ([(3, 0, 0), (3, 8, 0), (3, 40, 0), (3, 36, 0), (0, 0, 4096), (0, 0, 4096), (3, 45, 0), (0, 0, 40), (3, 48, 0), (0, 0, 24), (3, 51, 0), (0, 0, 24), (0, 0, 4096), (0, 0, 4096), (3, 56, 0), (0, 0, 4096), (3, 56, 0)], [(0, 0), (1, 1), (2, 2), (3, 3), (4, 15)], [], [(3, 0, 5, 0, 0), (2, 2, 7, 6, 0), (2, 6, 2, 7, 0), (2, 2, 8, 8, 0), (2, 8, 2, 9, 0), (2, 2, 9, 10, 0), (2, 10, 2, 11, 0), (2, 1, 1, 12, 0), (2, 2, 3, 13, 0), (0, 12, 13, 0, 0), (0, 13, 12, 0, 0), (2, 2, 10, 16, 0), (0, 15, 5, 0, 0), (0, 15, 4, 0, 8), (0, 4, 15, 0, -8), (0, 12, 15, 0, 0), (0, 13, 15, 0, 0)], 0, 0, [])
def lYa_f_256 : sS := ([(3, 0, 0), (3, 8, 0), (3, 40, 0), (3, 36, 0), (0, 0, 4088), (0, 8, 4096), (3, 45, 0), (0, 0, 40), (3, 48, 0), (0, 0, 24), (3, 51, 0), (0, 0, 24), (0, 0, 4088), (0, 0, 4088), (3, 56, 0), (0, 1, 1), (0, 1, 4089), (0, -2147483648, 2147483647), (0, 2, 2), (0, 2, 4090), (0, -2147483648, 2147483647), (0, 3, 3), (0, 3, 4091), (0, -2147483648, 2147483647)], [(0, 0), (1, 1), (2, 2), (3, 3), (4, 4)], [3, 23, 20, 17, 1], [(4, 0, 22, 23, 0), (0, 22, 4, 0, 3), (0, 4, 22, 0, -3), (4, 0, 19, 20, 0), (0, 19, 4, 0, 2), (0, 4, 19, 0, -2), (4, 0, 16, 17, 0), (0, 16, 4, 0, 1), (0, 4, 16, 0, -1), (0, 4, 5, 0, -8), (3, 0, 5, 0, 0), (2, 2, 7, 6, 0), (2, 6, 2, 7, 0), (2, 2, 8, 8, 0), (2, 8, 2, 9, 0), (2, 2, 9, 10, 0), (2, 10, 2, 11, 0), (2, 1, 1, 12, 0), (2, 2, 3, 13, 0), (0, 12, 13, 0, 0), (0, 13, 12, 0, 0), (2, 2, 10, 14, 0), (0, 12, 4, 0, 0), (0, 13, 4, 0, 0)], 0, 0, [])
def lYb_f_256 : sS := vZ (cvS zi lYa_f_256 k_L_swap (cx1 k_L_swap))
def lYc_f_256 : sS := ([(3, 0, 0), (3, 8, 0), (3, 40, 0), (3, 36, 0), (0, 0, 4088), (0, 8, 4096), (3, 45, 0), (0, 0, 40), (3, 48, 0), (0, 0, 24), (3, 51, 0), (0, 0, 24), (0, 0, 4088), (0, 0, 4088), (3, 56, 0), (0, 1, 1), (0, 1, 4089), (0, -2147483648, 2147483647), (0, 2, 2), (0, 2, 4090), (0, -2147483648, 2147483647), (0, 3, 3), (0, 3, 4091), (0, -2147483648, 2147483647), (0, 0, 2), (0, 1, 1), (0, 2, 2), (0, 3, 3)], [(5, 24), (0, 0), (1, 1), (2, 2), (3, 3), (4, 4)], [23, 20, 17, 2], [(4, 0, 22, 23, 0), (0, 22, 4, 0, 3), (0, 4, 22, 0, -3), (4, 0, 19, 20, 0), (0, 19, 4, 0, 2), (0, 4, 19, 0, -2), (4, 0, 16, 17, 0), (0, 16, 4, 0, 1), (0, 4, 16, 0, -1), (0, 4, 5, 0, -8), (3, 0, 5, 0, 0), (2, 2, 7, 6, 0), (2, 6, 2, 7, 0), (2, 2, 8, 8, 0), (2, 8, 2, 9, 0), (2, 2, 9, 10, 0), (2, 10, 2, 11, 0), (2, 1, 1, 12, 0), (2, 2, 3, 13, 0), (0, 12, 13, 0, 0), (0, 13, 12, 0, 0), (2, 2, 10, 14, 0), (0, 12, 4, 0, 0), (0, 13, 4, 0, 0)], 0, 0, [])
theorem lY1_f_256 : chk zrx zi wT (wRo wSites_15) (wRo wTags_15) lC_f [] 0 0 15 3000 false [(276, lYa_f_256, [])] none 57 243 256 (vZ lM_f) (fun _ _ => false) = true := by decide +kernel
theorem lY2_f_256 : chk zrx zi wT (wRo wSites_15) (wRo wTags_15) lC_f [] 0 0 25 3000 false [(300, lYc_f_256, [])] none 57 243 279 lYb_f_256 (fun _ _ => false) = true := by decide +kernel
theorem lV1_f_256 : cvOk zrx zi wT 243 276 56 lYa_f_256 k_L_swap = true := by decide +kernel
theorem lV2_f_256 : cvOk zrx zi wT 243 300 56 lYc_f_256 k_X15_swap = true := by decide +kernel
theorem lYn_f_256 : lYb_f_256.1.length = 25 := by decide +kernel
theorem lYr_f_256 : (vZ lM_f).2.2.2.1.all (fun f => !(f.1 == 7)) = true ∧ lYa_f_256.2.2.2.1.all (fun f => !(f.1 == 7)) = true ∧ (cvS zi lYa_f_256 k_L_swap (cx1 k_L_swap)).2.2.2.1.all (fun f => !(f.1 == 7)) = true ∧ lYc_f_256.2.2.2.1.all (fun f => !(f.1 == 7)) = true := by decide +kernel
def lYd0_f_256 : sS := vZ (cvS zi lYc_f_256 k_X15_swap (cxi k_X15_swap 0))
theorem lYd0_f_256n : lYd0_f_256.1.length = 29 ∧ (cvS zi lYc_f_256 k_X15_swap (cxi k_X15_swap 0)).2.2.2.1.all (fun f => !(f.1 == 7)) = true := by decide +kernel
theorem lY3_f_256_0 : chk zrx zi wT (wRo wSites_15) (wRo wTags_15) lC_f [] 0 0 15 3000 false [(27, lT_fza, [])] none 57 243 303 lYd0_f_256 (fun _ _ => false) = true := by decide +kernel
set_option maxRecDepth 20000 in
theorem lA_f_256 {n : Nat} (ih : lIH n) {hb ub : Nat} {N : Int} {ρ : List Nat} {ν : List Value} {lv : List (Nat × Value)} {st : List Value} {h : List zC} {u : Nat} {i R C A : Int32} {F : Int} (hA : gA hb ub ρ ν lM_f lv st h u) (hH : tHeap wT N ρ h) (v4 : ν[4]? = some (.int i)) (v7 : ν[7]? = some (.int R)) (v9 : ν[9]? = some (.int C)) (v11 : ν[11]? = some (.int A))
    (i4 : i.toInt ≤ 4096) (acc : lAcc true hb ub i.toInt R.toInt C.toInt A.toInt F) (rm1 : (ub : Int) + 17920 ≤ zSN) (rm2 : (hb : Int) + 1152 ≤ zCM) (hn : 4104 - i.toInt ≤ (n + 1 : Nat)) (hR : lR ρ ν h) : zE zrx zi 57 243 256 lv st h u lKK := by
  obtain ⟨dl1, dl2, dl3, dl4⟩ := lD_lo R.toInt C.toInt A.toInt
  obtain ⟨r0, ra, rb, rc⟩ := lYr_f_256
  have q0 : (h.length : Int) - hb ≤ 0 := hA.2.2.2.2.1
  have q1 : (u : Int) - ub ≤ 0 := hA.2.2.2.2.2
  have hlen : ν.length ≤ 15 := by
    rw [← hA.1.1]
    exact Nat.le_of_eq rfl
  refine seg wT_ok lC_f_ok 3000 lY1_f_256 (Nat.le_refl _) (nExt.refl ν) hlen (hA.reb r0) rfl rfl hH (by omega) (by omega) ?_
  intro x hx N1 ρ1 ν1 lv1 st1 h1 u1 x1 hA1 hH1 hF1 hP1
  rw [List.mem_singleton.mp hx] at hA1 ⊢
  clear hx x
  dsimp only at hA1 ⊢
  have hR1 := hR.fr hH hF1 hP1 x1 stW_nil rW_nil
  have b1 : (h1.length : Int) - h.length ≤ 0 := Int.le_trans (hA1.cost (by decide +kernel)).1 (by decide +kernel)
  have b2 : (u1 : Int) - u ≤ 0 := Int.le_trans (hA1.cost (by decide +kernel)).2 (by decide +kernel)
  have hT : gSt ν1 [3, 23, 20, 17, 1] st1 := hA1.2.2.1
  obtain ⟨w0, sa0, ea0, o0, ha0⟩ := hT.inv
  subst ea0
  rw [hR1.2.2.2.1] at o0
  cases o0
  obtain ⟨w1, sa1, ea1, o1, ha1⟩ := ha0.inv
  subst ea1
  obtain ⟨p23, rfl, -⟩ := hA1.int o1 rfl
  obtain ⟨w2, sa2, ea2, o2, ha2⟩ := ha1.inv
  subst ea2
  obtain ⟨p20, rfl, -⟩ := hA1.int o2 rfl
  obtain ⟨w3, sa3, ea3, o3, ha3⟩ := ha2.inv
  subst ea3
  obtain ⟨p17, rfl, -⟩ := hA1.int o3 rfl
  obtain ⟨w4, sa4, ea4, o4, ha4⟩ := ha3.inv
  subst ea4
  rw [hR1.2.1] at o4
  cases o4
  cases ha4.nil
  refine call_val con_L_swap vr_243_276 lV1_f_256 rfl rfl (hA1.reb ra) hH1 (by have : k_L_swap.2.2.2.2.1 = 1 := rfl; omega) (by have : k_L_swap.2.2.2.2.2.1 = 6 := rfl; omega) rfl (fun n => C_Lswap n p17 p20 p23 h1 u1 hR1.2.2.2.2.1) ?_
  intro N2 ρ2 ν2 v h2 u2 n2 x2 hA2 hH2 hF2 hP2 V1
  obtain ⟨k, hk, V1⟩ := V1
  cases hk
  have V1 : Q_Lswap p17 p20 p23 h1 (.inl (some (.int k))) h2 u2 := ⟨k, rfl, V1⟩
  have b3 : (h2.length : Int) - h1.length ≤ 1 := Int.le_trans (hA2.cost (by decide +kernel)).1 (by decide +kernel)
  have b4 : (u2 : Int) - u1 ≤ 6 := Int.le_trans (hA2.cost (by decide +kernel)).2 (by decide +kernel)
  have hTk : ν2[24]? = some (.int k) := gSt_hd hA2.2.2.1 (by decide +kernel)
  have hlen2 : ν2.length ≤ 25 := by
    rw [← hA2.1.1]
    exact Nat.le_of_eq lYn_f_256
  have hS2 : Stc h2 := hR1.2.2.2.2.1.fr hR1.1 hF2 stW_L_swap
  have hRo2 : Ro ρ2 := hR1.1.pre hP2
  show zE zrx zi 57 243 279 lv1 _ h2 u2 lKK
  refine seg wT_ok lC_f_ok 3000 lY2_f_256 (Nat.le_refl _) (nExt.refl ν2) hlen2 (hA2.reb rb) rfl rfl hH2 (by omega) (by omega) ?_
  intro x hx N3 ρ3 ν3 lv3 st3 h3 u3 x3 hA3 hH3 hF3 hP3
  rw [List.mem_singleton.mp hx] at hA3 ⊢
  clear hx x
  dsimp only at hA3 ⊢
  have hS3 : Stc h3 := hS2.fr hRo2 hF3 stW_nil
  have b5 : (h3.length : Int) - h2.length ≤ 0 := Int.le_trans (hA3.cost (by decide +kernel)).1 (by decide +kernel)
  have b6 : (u3 : Int) - u2 ≤ 0 := Int.le_trans (hA3.cost (by decide +kernel)).2 (by decide +kernel)
  have hE : ∀ p, p < h2.length → ∀ k, gF h3 p k = gF h2 p k := fun p hp k => gFr_F0 hF3 hH2.1 hp k
  have hT : gSt ν3 [23, 20, 17, 2] st3 := hA3.2.2.1
  obtain ⟨w0, sb0, eb0, c0, hb0⟩ := hT.inv
  subst eb0
  rw [x3 _ _ (x2 _ _ o1)] at c0
  cases c0
  obtain ⟨w1, sb1, eb1, c1, hb1⟩ := hb0.inv
  subst eb1
  rw [x3 _ _ (x2 _ _ o2)] at c1
  cases c1
  obtain ⟨w2, sb2, eb2, c2, hb2⟩ := hb1.inv
  subst eb2
  rw [x3 _ _ (x2 _ _ o3)] at c2
  cases c2
  obtain ⟨w3, sb3, eb3, c3, hb3⟩ := hb2.inv
  subst eb3
  rw [x3 _ _ (x2 _ _ hR1.2.2.1)] at c3
  cases c3
  cases hb3.nil
  have hl1 := hR1.2.2.2.2.1.1
  have hl2 := gFr_len hF2
  have hl3 := gFr_len hF3
  have ro3 : Ro ρ3 := hRo2.pre hP3
  refine call_val con_X15_swap vr_243_300 lV2_f_256 rfl rfl (hA3.reb rc) hH3 (by have : k_X15_swap.2.2.2.2.1 = 0 := rfl; omega) (by have : k_X15_swap.2.2.2.2.2.1 = 0 := rfl; omega) rfl (fun n => C_mswap n p17 p20 p23 h3 u3 hS3) ?_
  intro N4 ρ4 ν4 v h4 u4 n4 x4 hA4 hH4 hF4 hP4 V2
  obtain ⟨nd, rd⟩ := lYd0_f_256n
  obtain ⟨r, hr⟩ : ∃ r : Int32, v = .int r := by
    first
      | (obtain ⟨r, h0, hr, -⟩ := V2; cases hr; exact ⟨r, rfl⟩)
      | (obtain ⟨r, hr, -⟩ := V2; cases hr; exact ⟨r, rfl⟩)
  subst hr
  have b7 : (h4.length : Int) - h3.length ≤ 0 := Int.le_trans (hA4.cost (by decide +kernel)).1 (by decide +kernel)
  have b8 : (u4 : Int) - u3 ≤ 0 := Int.le_trans (hA4.cost (by decide +kernel)).2 (by decide +kernel)
  have z1 := ((⟨⟨⟨qFed.fr3 (hR1.2.2.2.2.2.1.1) hR1.2.2.2.2.1 hR1.1 hH1 hF2 (by decide +kernel) hS2 hRo2 hH2 hF3 hS3 (hRo2.pre hP3) hH3 hF4 (by decide +kernel), qAR.fr3 (hR1.2.2.2.2.2.1.2.1) hR1.2.2.2.2.1 hR1.1 hH1 hF2 (by decide +kernel) hS2 hRo2 hH2 hF3 hS3 (hRo2.pre hP3) hH3 hF4 (by decide +kernel), qHO.fr3 (hR1.2.2.2.2.2.1.2.2.1) hR1.2.2.2.2.1 hR1.1 hH1 hF2 (by decide +kernel) hS2 hRo2 hH2 hF3 hS3 (hRo2.pre hP3) hH3 hF4 (by decide +kernel), qEX.fr3 (hR1.2.2.2.2.2.1.2.2.2) hR1.2.2.2.2.1 hR1.1 hH1 hF2 (by decide +kernel) hS2 hRo2 hH2 hF3 hS3 (hRo2.pre hP3) hH3 hF4 (by decide +kernel)⟩, ⟨qRFu.fr3 (hR1.2.2.2.2.2.2.1.1) hR1.2.2.2.2.1 hR1.1 hH1 hF2 (by decide +kernel) hS2 hRo2 hH2 hF3 hS3 (hRo2.pre hP3) hH3 hF4 (by decide +kernel), qRCs.fr3 (hR1.2.2.2.2.2.2.1.2.1) hR1.2.2.2.2.1 hR1.1 hH1 hF2 (by decide +kernel) hS2 hRo2 hH2 hF3 hS3 (hRo2.pre hP3) hH3 hF4 (by decide +kernel), qVd.fr3 (hR1.2.2.2.2.2.2.1.2.2) hR1.2.2.2.2.1 hR1.1 hH1 hF2 (by decide +kernel) hS2 hRo2 hH2 hF3 hS3 (hRo2.pre hP3) hH3 hF4 (by decide +kernel)⟩, ⟨(sum_swap (hR1.2.2.2.2.2.2.2.1.1) hl1 V1 (fun p hp k => hE p (by omega) k) V2).1, qSm.fr3T (hR1.2.2.2.2.2.2.2.1.2.1) hR1.2.2.2.2.1 hR1.1 hH1 hF2 (by decide +kernel) hS2 hRo2 hH2 hF3 hS3 (hRo2.pre hP3) hH3 hF4 (by decide +kernel), qSm.fr3Y (hR1.2.2.2.2.2.2.2.1.2.2) hR1.2.2.2.2.1 hR1.1 hH1 hF2 (by decide +kernel) hS2 hRo2 hH2 hF3 hS3 (hRo2.pre hP3) hH3 hF4 (by decide +kernel)⟩, qDz.fr3 (hR1.2.2.2.2.2.2.2.2.1) hR1.2.2.2.2.1 hR1.1 hH1 hF2 (by decide +kernel) hS2 hRo2 hH2 hF3 hS3 (hRo2.pre hP3) hH3 hF4 (by decide +kernel), qRv.fr3 (hR1.2.2.2.2.2.2.2.2.2) hR1.2.2.2.2.1 hR1.1 hH1 hF2 (by decide +kernel) hS2 hRo2 hH2 hF3 hS3 (hRo2.pre hP3) hH3 hF4 (by decide +kernel)⟩, trivial⟩ : qAll h4 ∧ True)).1
  have hR4 : lR ρ4 ν4 h4 := ⟨(hRo2.pre hP3).pre hP4, x4 _ _ (x3 _ _ (x2 _ _ hR1.2.1)), x4 _ _ (x3 _ _ (x2 _ _ hR1.2.2.1)), x4 _ _ (x3 _ _ (x2 _ _ hR1.2.2.2.1)), hS3.fr (hRo2.pre hP3) hF4 stW_X15_swap, z1⟩
  have x14 : nExt ν ν4 := x1.trans (x2.trans (x3.trans x4))
  have hA4 := hA4.reb rd
  show zE zrx zi 57 243 303 lv3 _ h4 u4 lKK
  refine seg wT_ok lC_f_ok 3000 lY3_f_256_0 (Nat.le_refl _) x14 hlen hA4 rfl rfl hH4 (by omega) (by omega) ?_
  intro x hx N5 ρ5 ν5 lv5 st5 h5 u5 x5 hA5 hH5 hF5 hP5
  rw [List.mem_singleton.mp hx] at hA5 ⊢
  clear hx x
  dsimp only at hA5 ⊢
  have b9 : (h5.length : Int) - h4.length ≤ 0 := Int.le_trans (hA5.cost (by decide +kernel)).1 (by decide +kernel)
  have c1 : (u5 : Int) - u4 ≤ 0 := Int.le_trans (hA5.cost (by decide +kernel)).2 (by decide +kernel)
  obtain ⟨j, j1, j2⟩ := l_i hA5 rfl rfl (x5 _ _ v4)
  exact l_next (g := true) ih [0, 1, 2, 3, 15, 5, 6, 7, 8, 9, 10, 11, 12, 13, 14] (by decide +kernel) (by decide +kernel) hA5 rfl hH5 rfl rfl rfl rfl j1 (x5 _ _ v7) (x5 _ _ v9) (x5 _ _ v11) (acc.dear j2 (by omega) (by omega) true (fun z => z)) (by omega) rfl rfl rfl (lR.fr ⟨hR4.1, x5 _ _ (hR.2.1), x5 _ _ (hR.2.2.1), x5 _ _ (hR.2.2.2.1), hR4.2.2.2.2⟩ hH4 hF5 hP5 (nExt.refl ν5) stW_nil rW_nil)
def lYa_f_308 : sS := ([(3, 0, 0), (3, 8, 0), (3, 40, 0), (3, 36, 0), (0, 0, 4088), (0, 8, 4096), (3, 45, 0), (0, 0, 40), (3, 48, 0), (0, 0, 24), (3, 51, 0), (0, 0, 24), (0, 0, 4088), (0, 0, 4088), (3, 56, 0), (0, 1, 1), (0, 1, 4089), (0, -2147483648, 2147483647), (0, 2, 2), (0, 2, 4090), (0, -2147483648, 2147483647)], [(0, 0), (1, 1), (2, 2), (3, 3), (4, 4)], [3, 20, 17, 1], [(4, 0, 19, 20, 0), (0, 19, 4, 0, 2), (0, 4, 19, 0, -2), (4, 0, 16, 17, 0), (0, 16, 4, 0, 1), (0, 4, 16, 0, -1), (0, 4, 5, 0, -8), (3, 0, 5, 0, 0), (2, 2, 7, 6, 0), (2, 6, 2, 7, 0), (2, 2, 8, 8, 0), (2, 8, 2, 9, 0), (2, 2, 9, 10, 0), (2, 10, 2, 11, 0), (2, 1, 1, 12, 0), (2, 2, 3, 13, 0), (0, 12, 13, 0, 0), (0, 13, 12, 0, 0), (2, 2, 10, 14, 0), (0, 12, 4, 0, 0), (0, 13, 4, 0, 0)], 0, 0, [])
def lYb_f_308 : sS := vZ (cvS zi lYa_f_308 k_L_tie (cx1 k_L_tie))
def lYc_f_308 : sS := ([(3, 0, 0), (3, 8, 0), (3, 40, 0), (3, 36, 0), (0, 0, 4088), (0, 8, 4096), (3, 45, 0), (0, 0, 40), (3, 48, 0), (0, 0, 24), (3, 51, 0), (0, 0, 24), (0, 0, 4088), (0, 0, 4088), (3, 56, 0), (0, 1, 1), (0, 1, 4089), (0, -2147483648, 2147483647), (0, 2, 2), (0, 2, 4090), (0, -2147483648, 2147483647), (0, 0, 2), (0, 1, 1), (0, 2, 2)], [(5, 21), (0, 0), (1, 1), (2, 2), (3, 3), (4, 4)], [20, 17, 2], [(4, 0, 19, 20, 0), (0, 19, 4, 0, 2), (0, 4, 19, 0, -2), (4, 0, 16, 17, 0), (0, 16, 4, 0, 1), (0, 4, 16, 0, -1), (0, 4, 5, 0, -8), (3, 0, 5, 0, 0), (2, 2, 7, 6, 0), (2, 6, 2, 7, 0), (2, 2, 8, 8, 0), (2, 8, 2, 9, 0), (2, 2, 9, 10, 0), (2, 10, 2, 11, 0), (2, 1, 1, 12, 0), (2, 2, 3, 13, 0), (0, 12, 13, 0, 0), (0, 13, 12, 0, 0), (2, 2, 10, 14, 0), (0, 12, 4, 0, 0), (0, 13, 4, 0, 0)], 0, 0, [])
theorem lY1_f_308 : chk zrx zi wT (wRo wSites_15) (wRo wTags_15) lC_f [] 0 0 15 3000 false [(322, lYa_f_308, [])] none 57 243 308 (vZ lM_f) (fun _ _ => false) = true := by decide +kernel
theorem lY2_f_308 : chk zrx zi wT (wRo wSites_15) (wRo wTags_15) lC_f [] 0 0 22 3000 false [(340, lYc_f_308, [])] none 57 243 325 lYb_f_308 (fun _ _ => false) = true := by decide +kernel
theorem lV1_f_308 : cvOk zrx zi wT 243 322 56 lYa_f_308 k_L_tie = true := by decide +kernel
theorem lV2_f_308 : cvOk zrx zi wT 243 340 56 lYc_f_308 k_X15_tie = true := by decide +kernel
theorem lYn_f_308 : lYb_f_308.1.length = 22 := by decide +kernel
theorem lYr_f_308 : (vZ lM_f).2.2.2.1.all (fun f => !(f.1 == 7)) = true ∧ lYa_f_308.2.2.2.1.all (fun f => !(f.1 == 7)) = true ∧ (cvS zi lYa_f_308 k_L_tie (cx1 k_L_tie)).2.2.2.1.all (fun f => !(f.1 == 7)) = true ∧ lYc_f_308.2.2.2.1.all (fun f => !(f.1 == 7)) = true := by decide +kernel
def lYd0_f_308 : sS := vZ (cvS zi lYc_f_308 k_X15_tie (cxi k_X15_tie 0))
theorem lYd0_f_308n : lYd0_f_308.1.length = 25 ∧ (cvS zi lYc_f_308 k_X15_tie (cxi k_X15_tie 0)).2.2.2.1.all (fun f => !(f.1 == 7)) = true := by decide +kernel
theorem lY3_f_308_0 : chk zrx zi wT (wRo wSites_15) (wRo wTags_15) lC_f [] 0 0 15 3000 false [(27, lT_fza, [])] none 57 243 343 lYd0_f_308 (fun _ _ => false) = true := by decide +kernel
set_option maxRecDepth 20000 in
theorem lA_f_308 {n : Nat} (ih : lIH n) {hb ub : Nat} {N : Int} {ρ : List Nat} {ν : List Value} {lv : List (Nat × Value)} {st : List Value} {h : List zC} {u : Nat} {i R C A : Int32} {F : Int} (hA : gA hb ub ρ ν lM_f lv st h u) (hH : tHeap wT N ρ h) (v4 : ν[4]? = some (.int i)) (v7 : ν[7]? = some (.int R)) (v9 : ν[9]? = some (.int C)) (v11 : ν[11]? = some (.int A))
    (i4 : i.toInt ≤ 4096) (acc : lAcc true hb ub i.toInt R.toInt C.toInt A.toInt F) (rm1 : (ub : Int) + 17920 ≤ zSN) (rm2 : (hb : Int) + 1152 ≤ zCM) (hn : 4104 - i.toInt ≤ (n + 1 : Nat)) (hR : lR ρ ν h) : zE zrx zi 57 243 308 lv st h u lKK := by
  obtain ⟨dl1, dl2, dl3, dl4⟩ := lD_lo R.toInt C.toInt A.toInt
  obtain ⟨r0, ra, rb, rc⟩ := lYr_f_308
  have q0 : (h.length : Int) - hb ≤ 0 := hA.2.2.2.2.1
  have q1 : (u : Int) - ub ≤ 0 := hA.2.2.2.2.2
  have hlen : ν.length ≤ 15 := by
    rw [← hA.1.1]
    exact Nat.le_of_eq rfl
  refine seg wT_ok lC_f_ok 3000 lY1_f_308 (Nat.le_refl _) (nExt.refl ν) hlen (hA.reb r0) rfl rfl hH (by omega) (by omega) ?_
  intro x hx N1 ρ1 ν1 lv1 st1 h1 u1 x1 hA1 hH1 hF1 hP1
  rw [List.mem_singleton.mp hx] at hA1 ⊢
  clear hx x
  dsimp only at hA1 ⊢
  have hR1 := hR.fr hH hF1 hP1 x1 stW_nil rW_nil
  have b1 : (h1.length : Int) - h.length ≤ 0 := Int.le_trans (hA1.cost (by decide +kernel)).1 (by decide +kernel)
  have b2 : (u1 : Int) - u ≤ 0 := Int.le_trans (hA1.cost (by decide +kernel)).2 (by decide +kernel)
  have hT : gSt ν1 [3, 20, 17, 1] st1 := hA1.2.2.1
  obtain ⟨w0, sa0, ea0, o0, ha0⟩ := hT.inv
  subst ea0
  rw [hR1.2.2.2.1] at o0
  cases o0
  obtain ⟨w1, sa1, ea1, o1, ha1⟩ := ha0.inv
  subst ea1
  obtain ⟨p20, rfl, -⟩ := hA1.int o1 rfl
  obtain ⟨w2, sa2, ea2, o2, ha2⟩ := ha1.inv
  subst ea2
  obtain ⟨p17, rfl, -⟩ := hA1.int o2 rfl
  obtain ⟨w3, sa3, ea3, o3, ha3⟩ := ha2.inv
  subst ea3
  rw [hR1.2.1] at o3
  cases o3
  cases ha3.nil
  refine call_val con_L_tie vr_243_322 lV1_f_308 rfl rfl (hA1.reb ra) hH1 (by have : k_L_tie.2.2.2.2.1 = 1 := rfl; omega) (by have : k_L_tie.2.2.2.2.2.1 = 6 := rfl; omega) rfl (fun n => C_Ltie n p17 p20 h1 u1 hR1.2.2.2.2.1) ?_
  intro N2 ρ2 ν2 v h2 u2 n2 x2 hA2 hH2 hF2 hP2 V1
  obtain ⟨k, hk, V1⟩ := V1
  cases hk
  have V1 : Q_Ltie p17 p20 h1 (.inl (some (.int k))) h2 u2 := ⟨k, rfl, V1⟩
  have b3 : (h2.length : Int) - h1.length ≤ 1 := Int.le_trans (hA2.cost (by decide +kernel)).1 (by decide +kernel)
  have b4 : (u2 : Int) - u1 ≤ 6 := Int.le_trans (hA2.cost (by decide +kernel)).2 (by decide +kernel)
  have hTk : ν2[21]? = some (.int k) := gSt_hd hA2.2.2.1 (by decide +kernel)
  have hlen2 : ν2.length ≤ 22 := by
    rw [← hA2.1.1]
    exact Nat.le_of_eq lYn_f_308
  have hS2 : Stc h2 := hR1.2.2.2.2.1.fr hR1.1 hF2 stW_L_tie
  have hRo2 : Ro ρ2 := hR1.1.pre hP2
  show zE zrx zi 57 243 325 lv1 _ h2 u2 lKK
  refine seg wT_ok lC_f_ok 3000 lY2_f_308 (Nat.le_refl _) (nExt.refl ν2) hlen2 (hA2.reb rb) rfl rfl hH2 (by omega) (by omega) ?_
  intro x hx N3 ρ3 ν3 lv3 st3 h3 u3 x3 hA3 hH3 hF3 hP3
  rw [List.mem_singleton.mp hx] at hA3 ⊢
  clear hx x
  dsimp only at hA3 ⊢
  have hS3 : Stc h3 := hS2.fr hRo2 hF3 stW_nil
  have b5 : (h3.length : Int) - h2.length ≤ 0 := Int.le_trans (hA3.cost (by decide +kernel)).1 (by decide +kernel)
  have b6 : (u3 : Int) - u2 ≤ 0 := Int.le_trans (hA3.cost (by decide +kernel)).2 (by decide +kernel)
  have hE : ∀ p, p < h2.length → ∀ k, gF h3 p k = gF h2 p k := fun p hp k => gFr_F0 hF3 hH2.1 hp k
  have hT : gSt ν3 [20, 17, 2] st3 := hA3.2.2.1
  obtain ⟨w0, sb0, eb0, c0, hb0⟩ := hT.inv
  subst eb0
  rw [x3 _ _ (x2 _ _ o1)] at c0
  cases c0
  obtain ⟨w1, sb1, eb1, c1, hb1⟩ := hb0.inv
  subst eb1
  rw [x3 _ _ (x2 _ _ o2)] at c1
  cases c1
  obtain ⟨w2, sb2, eb2, c2, hb2⟩ := hb1.inv
  subst eb2
  rw [x3 _ _ (x2 _ _ hR1.2.2.1)] at c2
  cases c2
  cases hb2.nil
  have hl1 := hR1.2.2.2.2.1.1
  have hl2 := gFr_len hF2
  have hl3 := gFr_len hF3
  have ro3 : Ro ρ3 := hRo2.pre hP3
  refine call_val con_X15_tie vr_243_340 lV2_f_308 rfl rfl (hA3.reb rc) hH3 (by have : k_X15_tie.2.2.2.2.1 = 0 := rfl; omega) (by have : k_X15_tie.2.2.2.2.2.1 = 0 := rfl; omega) rfl (fun n => C_mtie n p17 p20 h3 u3 hS3) ?_
  intro N4 ρ4 ν4 v h4 u4 n4 x4 hA4 hH4 hF4 hP4 V2
  obtain ⟨nd, rd⟩ := lYd0_f_308n
  obtain ⟨r, hr⟩ : ∃ r : Int32, v = .int r := by
    first
      | (obtain ⟨r, h0, hr, -⟩ := V2; cases hr; exact ⟨r, rfl⟩)
      | (obtain ⟨r, hr, -⟩ := V2; cases hr; exact ⟨r, rfl⟩)
  subst hr
  have b7 : (h4.length : Int) - h3.length ≤ 0 := Int.le_trans (hA4.cost (by decide +kernel)).1 (by decide +kernel)
  have b8 : (u4 : Int) - u3 ≤ 0 := Int.le_trans (hA4.cost (by decide +kernel)).2 (by decide +kernel)
  have z1 := ((by
    obtain ⟨y1, y2, y3, y4⟩ := sum_tie (hR1.2.2.2.2.2.2.2.1.2.1) hl1 hl2 V1 hE V2
    exact ⟨⟨⟨qFed.fr3 (hR1.2.2.2.2.2.1.1) hR1.2.2.2.2.1 hR1.1 hH1 hF2 (by decide +kernel) hS2 hRo2 hH2 hF3 hS3 (hRo2.pre hP3) hH3 hF4 (by decide +kernel), qAR.fr3 (hR1.2.2.2.2.2.1.2.1) hR1.2.2.2.2.1 hR1.1 hH1 hF2 (by decide +kernel) hS2 hRo2 hH2 hF3 hS3 (hRo2.pre hP3) hH3 hF4 (by decide +kernel), qHO.fr3 (hR1.2.2.2.2.2.1.2.2.1) hR1.2.2.2.2.1 hR1.1 hH1 hF2 (by decide +kernel) hS2 hRo2 hH2 hF3 hS3 (hRo2.pre hP3) hH3 hF4 (by decide +kernel), qEX.fr3 (hR1.2.2.2.2.2.1.2.2.2) hR1.2.2.2.2.1 hR1.1 hH1 hF2 (by decide +kernel) hS2 hRo2 hH2 hF3 hS3 (hRo2.pre hP3) hH3 hF4 (by decide +kernel)⟩, ⟨qRFu.fr3 (hR1.2.2.2.2.2.2.1.1) hR1.2.2.2.2.1 hR1.1 hH1 hF2 (by decide +kernel) hS2 hRo2 hH2 hF3 hS3 (hRo2.pre hP3) hH3 hF4 (by decide +kernel), qRCs.fr3 (hR1.2.2.2.2.2.2.1.2.1) hR1.2.2.2.2.1 hR1.1 hH1 hF2 (by decide +kernel) hS2 hRo2 hH2 hF3 hS3 (hRo2.pre hP3) hH3 hF4 (by decide +kernel), qVd.fr3 (hR1.2.2.2.2.2.2.1.2.2) hR1.2.2.2.2.1 hR1.1 hH1 hF2 (by decide +kernel) hS2 hRo2 hH2 hF3 hS3 (hRo2.pre hP3) hH3 hF4 (by decide +kernel)⟩, ⟨Rw.fr3 (hR1.2.2.2.2.2.2.2.1.1) hR1.2.2.2.2.1 hR1.1 hH1 hF2 (by decide +kernel) hS2 hRo2 hH2 hF3 hS3 (hRo2.pre hP3) hH3 hF4 (by decide +kernel), y1, qSm.fr3Y (hR1.2.2.2.2.2.2.2.1.2.2) hR1.2.2.2.2.1 hR1.1 hH1 hF2 (by decide +kernel) hS2 hRo2 hH2 hF3 hS3 (hRo2.pre hP3) hH3 hF4 (by decide +kernel)⟩, qDz.fr3 (hR1.2.2.2.2.2.2.2.2.1) hR1.2.2.2.2.1 hR1.1 hH1 hF2 (by decide +kernel) hS2 hRo2 hH2 hF3 hS3 (hRo2.pre hP3) hH3 hF4 (by decide +kernel), qRv.fr3 (hR1.2.2.2.2.2.2.2.2.2) hR1.2.2.2.2.1 hR1.1 hH1 hF2 (by decide +kernel) hS2 hRo2 hH2 hF3 hS3 (hRo2.pre hP3) hH3 hF4 (by decide +kernel)⟩, trivial⟩ : qAll h4 ∧ True)).1
  have hR4 : lR ρ4 ν4 h4 := ⟨(hRo2.pre hP3).pre hP4, x4 _ _ (x3 _ _ (x2 _ _ hR1.2.1)), x4 _ _ (x3 _ _ (x2 _ _ hR1.2.2.1)), x4 _ _ (x3 _ _ (x2 _ _ hR1.2.2.2.1)), hS3.fr (hRo2.pre hP3) hF4 stW_X15_tie, z1⟩
  have x14 : nExt ν ν4 := x1.trans (x2.trans (x3.trans x4))
  have hA4 := hA4.reb rd
  show zE zrx zi 57 243 343 lv3 _ h4 u4 lKK
  refine seg wT_ok lC_f_ok 3000 lY3_f_308_0 (Nat.le_refl _) x14 hlen hA4 rfl rfl hH4 (by omega) (by omega) ?_
  intro x hx N5 ρ5 ν5 lv5 st5 h5 u5 x5 hA5 hH5 hF5 hP5
  rw [List.mem_singleton.mp hx] at hA5 ⊢
  clear hx x
  dsimp only at hA5 ⊢
  have b9 : (h5.length : Int) - h4.length ≤ 0 := Int.le_trans (hA5.cost (by decide +kernel)).1 (by decide +kernel)
  have c1 : (u5 : Int) - u4 ≤ 0 := Int.le_trans (hA5.cost (by decide +kernel)).2 (by decide +kernel)
  obtain ⟨j, j1, j2⟩ := l_i hA5 rfl rfl (x5 _ _ v4)
  exact l_next (g := true) ih [0, 1, 2, 3, 15, 5, 6, 7, 8, 9, 10, 11, 12, 13, 14] (by decide +kernel) (by decide +kernel) hA5 rfl hH5 rfl rfl rfl rfl j1 (x5 _ _ v7) (x5 _ _ v9) (x5 _ _ v11) (acc.dear j2 (by omega) (by omega) true (fun z => z)) (by omega) rfl rfl rfl (lR.fr ⟨hR4.1, x5 _ _ (hR.2.1), x5 _ _ (hR.2.2.1), x5 _ _ (hR.2.2.2.1), hR4.2.2.2.2⟩ hH4 hF5 hP5 (nExt.refl ν5) stW_nil rW_nil)
def lYa_f_348 : sS := ([(3, 0, 0), (3, 8, 0), (3, 40, 0), (3, 36, 0), (0, 0, 4088), (0, 8, 4096), (3, 45, 0), (0, 0, 40), (3, 48, 0), (0, 0, 24), (3, 51, 0), (0, 0, 24), (0, 0, 4088), (0, 0, 4088), (3, 56, 0), (0, 1, 1), (0, 1, 4089), (0, -2147483648, 2147483647), (0, 2, 2), (0, 2, 4090), (0, -2147483648, 2147483647), (0, 3, 3), (0, 3, 4091), (0, -2147483648, 2147483647), (0, 4, 4), (0, 4, 4092), (0, -2147483648, 2147483647), (0, 5, 5), (0, 5, 4093), (0, -2147483648, 2147483647), (0, 6, 6), (0, 6, 4094), (0, -2147483648, 2147483647), (0, 7, 7), (0, 7, 4095), (0, -2147483648, 2147483647)], [(0, 0), (1, 1), (2, 2), (3, 3), (4, 4)], [3, 35, 32, 29, 26, 23, 20, 17, 1], [(4, 0, 34, 35, 0), (0, 34, 4, 0, 7), (0, 4, 34, 0, -7), (4, 0, 31, 32, 0), (0, 31, 4, 0, 6), (0, 4, 31, 0, -6), (4, 0, 28, 29, 0), (0, 28, 4, 0, 5), (0, 4, 28, 0, -5), (4, 0, 25, 26, 0), (0, 25, 4, 0, 4), (0, 4, 25, 0, -4), (4, 0, 22, 23, 0), (0, 22, 4, 0, 3), (0, 4, 22, 0, -3), (4, 0, 19, 20, 0), (0, 19, 4, 0, 2), (0, 4, 19, 0, -2), (4, 0, 16, 17, 0), (0, 16, 4, 0, 1), (0, 4, 16, 0, -1), (0, 4, 5, 0, -8), (3, 0, 5, 0, 0), (2, 2, 7, 6, 0), (2, 6, 2, 7, 0), (2, 2, 8, 8, 0), (2, 8, 2, 9, 0), (2, 2, 9, 10, 0), (2, 10, 2, 11, 0), (2, 1, 1, 12, 0), (2, 2, 3, 13, 0), (0, 12, 13, 0, 0), (0, 13, 12, 0, 0), (2, 2, 10, 14, 0), (0, 12, 4, 0, 0), (0, 13, 4, 0, 0)], 0, 0, [])
def lYb_f_348 : sS := vZ (cvS zi lYa_f_348 k_L_rule (cx1 k_L_rule))
def lYc_f_348 : sS := ([(3, 0, 0), (3, 8, 0), (3, 40, 0), (3, 36, 0), (0, 0, 4088), (0, 8, 4096), (3, 45, 0), (0, 0, 40), (3, 48, 0), (0, 0, 24), (3, 51, 0), (0, 0, 24), (0, 0, 4088), (0, 0, 4088), (3, 56, 0), (0, 1, 1), (0, 1, 4089), (0, -2147483648, 2147483647), (0, 2, 2), (0, 2, 4090), (0, -2147483648, 2147483647), (0, 3, 3), (0, 3, 4091), (0, -2147483648, 2147483647), (0, 4, 4), (0, 4, 4092), (0, -2147483648, 2147483647), (0, 5, 5), (0, 5, 4093), (0, -2147483648, 2147483647), (0, 6, 6), (0, 6, 4094), (0, -2147483648, 2147483647), (0, 7, 7), (0, 7, 4095), (0, -2147483648, 2147483647), (0, 0, 3), (0, 1, 1), (0, 2, 2), (0, 3, 3), (0, 4, 4), (0, 5, 5), (0, 6, 6), (0, 7, 7)], [(5, 36), (0, 0), (1, 1), (2, 2), (3, 3), (4, 4)], [35, 32, 29, 26, 23, 20, 17, 2], [(4, 0, 34, 35, 0), (0, 34, 4, 0, 7), (0, 4, 34, 0, -7), (4, 0, 31, 32, 0), (0, 31, 4, 0, 6), (0, 4, 31, 0, -6), (4, 0, 28, 29, 0), (0, 28, 4, 0, 5), (0, 4, 28, 0, -5), (4, 0, 25, 26, 0), (0, 25, 4, 0, 4), (0, 4, 25, 0, -4), (4, 0, 22, 23, 0), (0, 22, 4, 0, 3), (0, 4, 22, 0, -3), (4, 0, 19, 20, 0), (0, 19, 4, 0, 2), (0, 4, 19, 0, -2), (4, 0, 16, 17, 0), (0, 16, 4, 0, 1), (0, 4, 16, 0, -1), (0, 4, 5, 0, -8), (3, 0, 5, 0, 0), (2, 2, 7, 6, 0), (2, 6, 2, 7, 0), (2, 2, 8, 8, 0), (2, 8, 2, 9, 0), (2, 2, 9, 10, 0), (2, 10, 2, 11, 0), (2, 1, 1, 12, 0), (2, 2, 3, 13, 0), (0, 12, 13, 0, 0), (0, 13, 12, 0, 0), (2, 2, 10, 14, 0), (0, 12, 4, 0, 0), (0, 13, 4, 0, 0)], 0, 0, [])
theorem lY1_f_348 : chk zrx zi wT (wRo wSites_15) (wRo wTags_15) lC_f [] 0 0 15 3000 false [(394, lYa_f_348, [])] none 57 243 348 (vZ lM_f) (fun _ _ => false) = true := by decide +kernel
theorem lY2_f_348 : chk zrx zi wT (wRo wSites_15) (wRo wTags_15) lC_f [] 0 0 37 3000 false [(444, lYc_f_348, [])] none 57 243 397 lYb_f_348 (fun _ _ => false) = true := by decide +kernel
theorem lV1_f_348 : cvOk zrx zi wT 243 394 56 lYa_f_348 k_L_rule = true := by decide +kernel
theorem lV2_f_348 : cvOk zrx zi wT 243 444 56 lYc_f_348 k_X15_rule_L = true := by decide +kernel
theorem lYn_f_348 : lYb_f_348.1.length = 37 := by decide +kernel
theorem lYr_f_348 : (vZ lM_f).2.2.2.1.all (fun f => !(f.1 == 7)) = true ∧ lYa_f_348.2.2.2.1.all (fun f => !(f.1 == 7)) = true ∧ (cvS zi lYa_f_348 k_L_rule (cx1 k_L_rule)).2.2.2.1.all (fun f => !(f.1 == 7)) = true ∧ lYc_f_348.2.2.2.1.all (fun f => !(f.1 == 7)) = true := by decide +kernel
def lYd0_f_348 : sS := vZ (cvS zi lYc_f_348 k_X15_rule_L (cxi k_X15_rule_L 0))
theorem lYd0_f_348n : lYd0_f_348.1.length = 47 ∧ (cvS zi lYc_f_348 k_X15_rule_L (cxi k_X15_rule_L 0)).2.2.2.1.all (fun f => !(f.1 == 7)) = true := by decide +kernel
theorem lY3_f_348_0 : chk zrx zi wT (wRo wSites_15) (wRo wTags_15) lC_f [] 0 0 15 3000 false [(27, lT_fzr, [])] none 57 243 447 lYd0_f_348 (fun _ _ => false) = true := by decide +kernel
def lYd1_f_348 : sS := vZ (cvS zi lYc_f_348 k_X15_rule_L (cxi k_X15_rule_L 1))
theorem lYd1_f_348n : lYd1_f_348.1.length = 46 ∧ (cvS zi lYc_f_348 k_X15_rule_L (cxi k_X15_rule_L 1)).2.2.2.1.all (fun f => !(f.1 == 7)) = true := by decide +kernel
theorem lY3_f_348_1 : chk zrx zi wT (wRo wSites_15) (wRo wTags_15) lC_f [] 0 0 15 3000 false [(27, lT_fza, [])] none 57 243 447 lYd1_f_348 (fun _ _ => false) = true := by decide +kernel
set_option maxRecDepth 20000 in
theorem lA_f_348 {n : Nat} (ih : lIH n) {hb ub : Nat} {N : Int} {ρ : List Nat} {ν : List Value} {lv : List (Nat × Value)} {st : List Value} {h : List zC} {u : Nat} {i R C A : Int32} {F : Int} (hA : gA hb ub ρ ν lM_f lv st h u) (hH : tHeap wT N ρ h) (v4 : ν[4]? = some (.int i)) (v7 : ν[7]? = some (.int R)) (v9 : ν[9]? = some (.int C)) (v11 : ν[11]? = some (.int A))
    (i4 : i.toInt ≤ 4096) (acc : lAcc true hb ub i.toInt R.toInt C.toInt A.toInt F) (rm1 : (ub : Int) + 17920 ≤ zSN) (rm2 : (hb : Int) + 1152 ≤ zCM) (hn : 4104 - i.toInt ≤ (n + 1 : Nat)) (hR : lR ρ ν h) : zE zrx zi 57 243 348 lv st h u lKK := by
  obtain ⟨dl1, dl2, dl3, dl4⟩ := lD_lo R.toInt C.toInt A.toInt
  obtain ⟨r0, ra, rb, rc⟩ := lYr_f_348
  have q0 : (h.length : Int) - hb ≤ 0 := hA.2.2.2.2.1
  have q1 : (u : Int) - ub ≤ 0 := hA.2.2.2.2.2
  have hlen : ν.length ≤ 15 := by
    rw [← hA.1.1]
    exact Nat.le_of_eq rfl
  refine seg wT_ok lC_f_ok 3000 lY1_f_348 (Nat.le_refl _) (nExt.refl ν) hlen (hA.reb r0) rfl rfl hH (by omega) (by omega) ?_
  intro x hx N1 ρ1 ν1 lv1 st1 h1 u1 x1 hA1 hH1 hF1 hP1
  rw [List.mem_singleton.mp hx] at hA1 ⊢
  clear hx x
  dsimp only at hA1 ⊢
  have hR1 := hR.fr hH hF1 hP1 x1 stW_nil rW_nil
  have b1 : (h1.length : Int) - h.length ≤ 0 := Int.le_trans (hA1.cost (by decide +kernel)).1 (by decide +kernel)
  have b2 : (u1 : Int) - u ≤ 0 := Int.le_trans (hA1.cost (by decide +kernel)).2 (by decide +kernel)
  have hT : gSt ν1 [3, 35, 32, 29, 26, 23, 20, 17, 1] st1 := hA1.2.2.1
  obtain ⟨w0, sa0, ea0, o0, ha0⟩ := hT.inv
  subst ea0
  rw [hR1.2.2.2.1] at o0
  cases o0
  obtain ⟨w1, sa1, ea1, o1, ha1⟩ := ha0.inv
  subst ea1
  obtain ⟨p35, rfl, -⟩ := hA1.int o1 rfl
  obtain ⟨w2, sa2, ea2, o2, ha2⟩ := ha1.inv
  subst ea2
  obtain ⟨p32, rfl, -⟩ := hA1.int o2 rfl
  obtain ⟨w3, sa3, ea3, o3, ha3⟩ := ha2.inv
  subst ea3
  obtain ⟨p29, rfl, -⟩ := hA1.int o3 rfl
  obtain ⟨w4, sa4, ea4, o4, ha4⟩ := ha3.inv
  subst ea4
  obtain ⟨p26, rfl, -⟩ := hA1.int o4 rfl
  obtain ⟨w5, sa5, ea5, o5, ha5⟩ := ha4.inv
  subst ea5
  obtain ⟨p23, rfl, -⟩ := hA1.int o5 rfl
  obtain ⟨w6, sa6, ea6, o6, ha6⟩ := ha5.inv
  subst ea6
  obtain ⟨p20, rfl, -⟩ := hA1.int o6 rfl
  obtain ⟨w7, sa7, ea7, o7, ha7⟩ := ha6.inv
  subst ea7
  obtain ⟨p17, rfl, -⟩ := hA1.int o7 rfl
  obtain ⟨w8, sa8, ea8, o8, ha8⟩ := ha7.inv
  subst ea8
  rw [hR1.2.1] at o8
  cases o8
  cases ha8.nil
  obtain ⟨cr, rl, rc1, rc2, rc3, rc4, rc5, rc6, rc7⟩ := id (hR1.2.2.2.2.2.2.1.1)
  obtain ⟨dd, d1, d2, d3⟩ := id (hR1.2.2.2.2.2.2.2.2.1)
  refine call_val con_L_rule vr_243_394 lV1_f_348 rfl rfl (hA1.reb ra) hH1 (by have : k_L_rule.2.2.2.2.1 = 1 := rfl; omega) (by have : k_L_rule.2.2.2.2.2.1 = 6 := rfl; omega) rfl (fun n => C_Lrule n p17 p20 p23 p26 p29 p32 p35 h1 u1 hR1.2.2.2.2.1 rc1) ?_
  intro N2 ρ2 ν2 v h2 u2 n2 x2 hA2 hH2 hF2 hP2 V1
  obtain ⟨k, hk, V1⟩ := V1
  cases hk
  have V1 : Q_Lrule cr p17 p20 p23 p26 p29 p32 p35 h1 (.inl (some (.int k))) h2 u2 := ⟨k, rfl, V1⟩
  have b3 : (h2.length : Int) - h1.length ≤ 1 := Int.le_trans (hA2.cost (by decide +kernel)).1 (by decide +kernel)
  have b4 : (u2 : Int) - u1 ≤ 6 := Int.le_trans (hA2.cost (by decide +kernel)).2 (by decide +kernel)
  have hTk : ν2[36]? = some (.int k) := gSt_hd hA2.2.2.1 (by decide +kernel)
  have hlen2 : ν2.length ≤ 37 := by
    rw [← hA2.1.1]
    exact Nat.le_of_eq lYn_f_348
  have hS2 : Stc h2 := hR1.2.2.2.2.1.fr hR1.1 hF2 stW_L_rule
  have hRo2 : Ro ρ2 := hR1.1.pre hP2
  show zE zrx zi 57 243 397 lv1 _ h2 u2 lKK
  refine seg wT_ok lC_f_ok 3000 lY2_f_348 (Nat.le_refl _) (nExt.refl ν2) hlen2 (hA2.reb rb) rfl rfl hH2 (by omega) (by omega) ?_
  intro x hx N3 ρ3 ν3 lv3 st3 h3 u3 x3 hA3 hH3 hF3 hP3
  rw [List.mem_singleton.mp hx] at hA3 ⊢
  clear hx x
  dsimp only at hA3 ⊢
  have hS3 : Stc h3 := hS2.fr hRo2 hF3 stW_nil
  have b5 : (h3.length : Int) - h2.length ≤ 0 := Int.le_trans (hA3.cost (by decide +kernel)).1 (by decide +kernel)
  have b6 : (u3 : Int) - u2 ≤ 0 := Int.le_trans (hA3.cost (by decide +kernel)).2 (by decide +kernel)
  have hE : ∀ p, p < h2.length → ∀ k, gF h3 p k = gF h2 p k := fun p hp k => gFr_F0 hF3 hH2.1 hp k
  have hT : gSt ν3 [35, 32, 29, 26, 23, 20, 17, 2] st3 := hA3.2.2.1
  obtain ⟨w0, sb0, eb0, c0, hb0⟩ := hT.inv
  subst eb0
  rw [x3 _ _ (x2 _ _ o1)] at c0
  cases c0
  obtain ⟨w1, sb1, eb1, c1, hb1⟩ := hb0.inv
  subst eb1
  rw [x3 _ _ (x2 _ _ o2)] at c1
  cases c1
  obtain ⟨w2, sb2, eb2, c2, hb2⟩ := hb1.inv
  subst eb2
  rw [x3 _ _ (x2 _ _ o3)] at c2
  cases c2
  obtain ⟨w3, sb3, eb3, c3, hb3⟩ := hb2.inv
  subst eb3
  rw [x3 _ _ (x2 _ _ o4)] at c3
  cases c3
  obtain ⟨w4, sb4, eb4, c4, hb4⟩ := hb3.inv
  subst eb4
  rw [x3 _ _ (x2 _ _ o5)] at c4
  cases c4
  obtain ⟨w5, sb5, eb5, c5, hb5⟩ := hb4.inv
  subst eb5
  rw [x3 _ _ (x2 _ _ o6)] at c5
  cases c5
  obtain ⟨w6, sb6, eb6, c6, hb6⟩ := hb5.inv
  subst eb6
  rw [x3 _ _ (x2 _ _ o7)] at c6
  cases c6
  obtain ⟨w7, sb7, eb7, c7, hb7⟩ := hb6.inv
  subst eb7
  rw [x3 _ _ (x2 _ _ hR1.2.2.1)] at c7
  cases c7
  cases hb7.nil
  have hl1 := hR1.2.2.2.2.1.1
  have hl2 := gFr_len hF2
  have hl3 := gFr_len hF3
  have ro3 : Ro ρ3 := hRo2.pre hP3
  have m2 := (hE 223 (by omega) 2).trans ((gFr_F hF2 (hR1.1 223 45 (by decide +kernel)) (by decide +kernel) (by omega)).trans rc2)
  have m1 := (hE 223 (by omega) 1).trans ((gFr_F hF2 (hR1.1 223 45 (by decide +kernel)) (by decide +kernel) (by omega)).trans rc3)
  obtain ⟨⟨l, l1, l2⟩, l3, l4, l5, l6, l7, l8⟩ := rl_at hH3 ro3 m1 m2
  have l213 : ¬ rl = 213 := by omega
  have d4 := (hE 213 (by omega) 1).trans ((gFr_F hF2 (hR1.1 213 40 (by decide +kernel)) (by decide +kernel) (by omega)).trans d2)
  refine call_valn con_X15_rule_L vr_243_444 lV2_f_348 (by decide +kernel) (hA3.reb rc) hH3 (by have : k_X15_rule_L.2.2.2.2.1 = 2 := rfl; omega) (by have : k_X15_rule_L.2.2.2.2.2.1 = 68 := rfl; omega) rfl (fun n => C_mrule n p17 p20 p23 p26 p29 p32 p35 h3 u3 hS3 m2 m1 l1 l2 l3 rc6 l213 d4) ?_
  refine ends2 rfl ?_ ?_
  · intro N4 ρ4 ν4 v h4 u4 n4 x4 hA4 hH4 hF4 hP4 V2
    obtain ⟨nd, rd⟩ := lYd0_f_348n
    obtain ⟨r, hr⟩ : ∃ r : Int32, v = .int r := by
      first
        | (obtain ⟨r, h0, hr, -⟩ := V2; cases hr; exact ⟨r, rfl⟩)
        | (obtain ⟨r, hr, -⟩ := V2; cases hr; exact ⟨r, rfl⟩)
    subst hr
    have b7 : (h4.length : Int) - h3.length ≤ 2 := Int.le_trans (hA4.cost (by decide +kernel)).1 (by decide +kernel)
    have b8 : (u4 : Int) - u3 ≤ 68 := Int.le_trans (hA4.cost (by decide +kernel)).2 (by decide +kernel)
    have z1 := ((⟨⟨⟨qFed.fr3 (hR1.2.2.2.2.2.1.1) hR1.2.2.2.2.1 hR1.1 hH1 hF2 (by decide +kernel) hS2 hRo2 hH2 hF3 hS3 (hRo2.pre hP3) hH3 hF4 (by decide +kernel), qAR.fr3 (hR1.2.2.2.2.2.1.2.1) hR1.2.2.2.2.1 hR1.1 hH1 hF2 (by decide +kernel) hS2 hRo2 hH2 hF3 hS3 (hRo2.pre hP3) hH3 hF4 (by decide +kernel), qHO.fr3 (hR1.2.2.2.2.2.1.2.2.1) hR1.2.2.2.2.1 hR1.1 hH1 hF2 (by decide +kernel) hS2 hRo2 hH2 hF3 hS3 (hRo2.pre hP3) hH3 hF4 (by decide +kernel), qEX.fr3 (hR1.2.2.2.2.2.1.2.2.2) hR1.2.2.2.2.1 hR1.1 hH1 hF2 (by decide +kernel) hS2 hRo2 hH2 hF3 hS3 (hRo2.pre hP3) hH3 hF4 (by decide +kernel)⟩, ⟨sumF_rule rc1 rc2 rc3 rc4 rc5 rc6 rc7 (by obtain ⟨⟨l0, l01, -⟩, -⟩ := rl_at hH1 hR1.1 rc3 rc2; exact gN_lt l01) d1 hl1 hl2 hl3 V1 hE V2, qRCs.fr3 (hR1.2.2.2.2.2.2.1.2.1) hR1.2.2.2.2.1 hR1.1 hH1 hF2 (by decide +kernel) hS2 hRo2 hH2 hF3 hS3 (hRo2.pre hP3) hH3 hF4 (by decide +kernel), qVd.fr3 (hR1.2.2.2.2.2.2.1.2.2) hR1.2.2.2.2.1 hR1.1 hH1 hF2 (by decide +kernel) hS2 hRo2 hH2 hF3 hS3 (hRo2.pre hP3) hH3 hF4 (by decide +kernel)⟩, ⟨Rw.fr3 (hR1.2.2.2.2.2.2.2.1.1) hR1.2.2.2.2.1 hR1.1 hH1 hF2 (by decide +kernel) hS2 hRo2 hH2 hF3 hS3 (hRo2.pre hP3) hH3 hF4 (by decide +kernel), qSm.fr3T (hR1.2.2.2.2.2.2.2.1.2.1) hR1.2.2.2.2.1 hR1.1 hH1 hF2 (by decide +kernel) hS2 hRo2 hH2 hF3 hS3 (hRo2.pre hP3) hH3 hF4 (by decide +kernel), qSm.fr3Y (hR1.2.2.2.2.2.2.2.1.2.2) hR1.2.2.2.2.1 hR1.1 hH1 hF2 (by decide +kernel) hS2 hRo2 hH2 hF3 hS3 (hRo2.pre hP3) hH3 hF4 (by decide +kernel)⟩, qDz.fr3 (hR1.2.2.2.2.2.2.2.2.1) hR1.2.2.2.2.1 hR1.1 hH1 hF2 (by decide +kernel) hS2 hRo2 hH2 hF3 hS3 (hRo2.pre hP3) hH3 hF4 (by decide +kernel), qRv.fr3 (hR1.2.2.2.2.2.2.2.2.2) hR1.2.2.2.2.1 hR1.1 hH1 hF2 (by decide +kernel) hS2 hRo2 hH2 hF3 hS3 (hRo2.pre hP3) hH3 hF4 (by decide +kernel)⟩, trivial⟩ : qAll h4 ∧ True)).1
    have hR4 : lR ρ4 ν4 h4 := ⟨(hRo2.pre hP3).pre hP4, x4 _ _ (x3 _ _ (x2 _ _ hR1.2.1)), x4 _ _ (x3 _ _ (x2 _ _ hR1.2.2.1)), x4 _ _ (x3 _ _ (x2 _ _ hR1.2.2.2.1)), hS3.fr (hRo2.pre hP3) hF4 stW_X15_rule_L, z1⟩
    have x14 : nExt ν ν4 := x1.trans (x2.trans (x3.trans x4))
    have hA4 := hA4.reb rd
    show zE zrx zi 57 243 447 lv3 _ h4 u4 lKK
    refine seg wT_ok lC_f_ok 3000 lY3_f_348_0 (Nat.le_refl _) x14 hlen hA4 rfl rfl hH4 (by omega) (by omega) ?_
    intro x hx N5 ρ5 ν5 lv5 st5 h5 u5 x5 hA5 hH5 hF5 hP5
    rw [List.mem_singleton.mp hx] at hA5 ⊢
    clear hx x
    dsimp only at hA5 ⊢
    have b9 : (h5.length : Int) - h4.length ≤ 0 := Int.le_trans (hA5.cost (by decide +kernel)).1 (by decide +kernel)
    have c1 : (u5 : Int) - u4 ≤ 0 := Int.le_trans (hA5.cost (by decide +kernel)).2 (by decide +kernel)
    obtain ⟨j, j1, j2⟩ := l_i hA5 rfl rfl (x5 _ _ v4)
    obtain ⟨y, y1, y2⟩ := l_one hA5 rfl rfl (x5 _ _ v7)
    exact l_next (g := true) ih [0, 1, 2, 3, 15, 5, 6, 16, 8, 9, 10, 11, 12, 13, 14] (by decide +kernel) (by decide +kernel) hA5 rfl hH5 rfl rfl rfl rfl j1 y1 (x5 _ _ v9) (x5 _ _ v11) (acc.grow (g := true) j2 (by omega) (by omega) (by omega) (by omega) (by omega) (by omega) (by omega)) (by omega) rfl rfl rfl (lR.fr ⟨hR4.1, x5 _ _ (hR.2.1), x5 _ _ (hR.2.2.1), x5 _ _ (hR.2.2.2.1), hR4.2.2.2.2⟩ hH4 hF5 hP5 (nExt.refl ν5) stW_nil rW_nil)
  · intro N4 ρ4 ν4 v h4 u4 n4 x4 hA4 hH4 hF4 hP4 V2
    obtain ⟨nd, rd⟩ := lYd1_f_348n
    obtain ⟨r, hr⟩ : ∃ r : Int32, v = .int r := by
      first
        | (obtain ⟨r, h0, hr, -⟩ := V2; cases hr; exact ⟨r, rfl⟩)
        | (obtain ⟨r, hr, -⟩ := V2; cases hr; exact ⟨r, rfl⟩)
    subst hr
    have b7 : (h4.length : Int) - h3.length ≤ 0 := Int.le_trans (hA4.cost (by decide +kernel)).1 (by decide +kernel)
    have b8 : (u4 : Int) - u3 ≤ 0 := Int.le_trans (hA4.cost (by decide +kernel)).2 (by decide +kernel)
    have z1 := ((⟨⟨⟨qFed.fr3 (hR1.2.2.2.2.2.1.1) hR1.2.2.2.2.1 hR1.1 hH1 hF2 (by decide +kernel) hS2 hRo2 hH2 hF3 hS3 (hRo2.pre hP3) hH3 hF4 (by decide +kernel), qAR.fr3 (hR1.2.2.2.2.2.1.2.1) hR1.2.2.2.2.1 hR1.1 hH1 hF2 (by decide +kernel) hS2 hRo2 hH2 hF3 hS3 (hRo2.pre hP3) hH3 hF4 (by decide +kernel), qHO.fr3 (hR1.2.2.2.2.2.1.2.2.1) hR1.2.2.2.2.1 hR1.1 hH1 hF2 (by decide +kernel) hS2 hRo2 hH2 hF3 hS3 (hRo2.pre hP3) hH3 hF4 (by decide +kernel), qEX.fr3 (hR1.2.2.2.2.2.1.2.2.2) hR1.2.2.2.2.1 hR1.1 hH1 hF2 (by decide +kernel) hS2 hRo2 hH2 hF3 hS3 (hRo2.pre hP3) hH3 hF4 (by decide +kernel)⟩, ⟨sumF_rule rc1 rc2 rc3 rc4 rc5 rc6 rc7 (by obtain ⟨⟨l0, l01, -⟩, -⟩ := rl_at hH1 hR1.1 rc3 rc2; exact gN_lt l01) d1 hl1 hl2 hl3 V1 hE V2, qRCs.fr3 (hR1.2.2.2.2.2.2.1.2.1) hR1.2.2.2.2.1 hR1.1 hH1 hF2 (by decide +kernel) hS2 hRo2 hH2 hF3 hS3 (hRo2.pre hP3) hH3 hF4 (by decide +kernel), qVd.fr3 (hR1.2.2.2.2.2.2.1.2.2) hR1.2.2.2.2.1 hR1.1 hH1 hF2 (by decide +kernel) hS2 hRo2 hH2 hF3 hS3 (hRo2.pre hP3) hH3 hF4 (by decide +kernel)⟩, ⟨Rw.fr3 (hR1.2.2.2.2.2.2.2.1.1) hR1.2.2.2.2.1 hR1.1 hH1 hF2 (by decide +kernel) hS2 hRo2 hH2 hF3 hS3 (hRo2.pre hP3) hH3 hF4 (by decide +kernel), qSm.fr3T (hR1.2.2.2.2.2.2.2.1.2.1) hR1.2.2.2.2.1 hR1.1 hH1 hF2 (by decide +kernel) hS2 hRo2 hH2 hF3 hS3 (hRo2.pre hP3) hH3 hF4 (by decide +kernel), qSm.fr3Y (hR1.2.2.2.2.2.2.2.1.2.2) hR1.2.2.2.2.1 hR1.1 hH1 hF2 (by decide +kernel) hS2 hRo2 hH2 hF3 hS3 (hRo2.pre hP3) hH3 hF4 (by decide +kernel)⟩, qDz.fr3 (hR1.2.2.2.2.2.2.2.2.1) hR1.2.2.2.2.1 hR1.1 hH1 hF2 (by decide +kernel) hS2 hRo2 hH2 hF3 hS3 (hRo2.pre hP3) hH3 hF4 (by decide +kernel), qRv.fr3 (hR1.2.2.2.2.2.2.2.2.2) hR1.2.2.2.2.1 hR1.1 hH1 hF2 (by decide +kernel) hS2 hRo2 hH2 hF3 hS3 (hRo2.pre hP3) hH3 hF4 (by decide +kernel)⟩, trivial⟩ : qAll h4 ∧ True)).1
    have hR4 : lR ρ4 ν4 h4 := ⟨(hRo2.pre hP3).pre hP4, x4 _ _ (x3 _ _ (x2 _ _ hR1.2.1)), x4 _ _ (x3 _ _ (x2 _ _ hR1.2.2.1)), x4 _ _ (x3 _ _ (x2 _ _ hR1.2.2.2.1)), hS3.fr (hRo2.pre hP3) hF4 stW_X15_rule_L, z1⟩
    have x14 : nExt ν ν4 := x1.trans (x2.trans (x3.trans x4))
    have hA4 := hA4.reb rd
    show zE zrx zi 57 243 447 lv3 _ h4 u4 lKK
    refine seg wT_ok lC_f_ok 3000 lY3_f_348_1 (Nat.le_refl _) x14 hlen hA4 rfl rfl hH4 (by omega) (by omega) ?_
    intro x hx N5 ρ5 ν5 lv5 st5 h5 u5 x5 hA5 hH5 hF5 hP5
    rw [List.mem_singleton.mp hx] at hA5 ⊢
    clear hx x
    dsimp only at hA5 ⊢
    have b9 : (h5.length : Int) - h4.length ≤ 0 := Int.le_trans (hA5.cost (by decide +kernel)).1 (by decide +kernel)
    have c1 : (u5 : Int) - u4 ≤ 0 := Int.le_trans (hA5.cost (by decide +kernel)).2 (by decide +kernel)
    obtain ⟨j, j1, j2⟩ := l_i hA5 rfl rfl (x5 _ _ v4)
    exact l_next (g := true) ih [0, 1, 2, 3, 15, 5, 6, 7, 8, 9, 10, 11, 12, 13, 14] (by decide +kernel) (by decide +kernel) hA5 rfl hH5 rfl rfl rfl rfl j1 (x5 _ _ v7) (x5 _ _ v9) (x5 _ _ v11) (acc.dear j2 (by omega) (by omega) true (fun z => z)) (by omega) rfl rfl rfl (lR.fr ⟨hR4.1, x5 _ _ (hR.2.1), x5 _ _ (hR.2.2.1), x5 _ _ (hR.2.2.2.1), hR4.2.2.2.2⟩ hH4 hF5 hP5 (nExt.refl ν5) stW_nil rW_nil)
def lYa_f_452 : sS := ([(3, 0, 0), (3, 8, 0), (3, 40, 0), (3, 36, 0), (0, 0, 4088), (0, 8, 4096), (3, 45, 0), (0, 0, 40), (3, 48, 0), (0, 0, 24), (3, 51, 0), (0, 0, 24), (0, 0, 4088), (0, 0, 4088), (3, 56, 0), (0, 1, 1), (0, 1, 4089), (0, -2147483648, 2147483647), (0, 2, 2), (0, 2, 4090), (0, -2147483648, 2147483647), (0, 3, 3), (0, 3, 4091), (0, -2147483648, 2147483647)], [(0, 0), (1, 1), (2, 2), (3, 3), (4, 4)], [3, 23, 20, 17, 1], [(4, 0, 22, 23, 0), (0, 22, 4, 0, 3), (0, 4, 22, 0, -3), (4, 0, 19, 20, 0), (0, 19, 4, 0, 2), (0, 4, 19, 0, -2), (4, 0, 16, 17, 0), (0, 16, 4, 0, 1), (0, 4, 16, 0, -1), (0, 4, 5, 0, -8), (3, 0, 5, 0, 0), (2, 2, 7, 6, 0), (2, 6, 2, 7, 0), (2, 2, 8, 8, 0), (2, 8, 2, 9, 0), (2, 2, 9, 10, 0), (2, 10, 2, 11, 0), (2, 1, 1, 12, 0), (2, 2, 3, 13, 0), (0, 12, 13, 0, 0), (0, 13, 12, 0, 0), (2, 2, 10, 14, 0), (0, 12, 4, 0, 0), (0, 13, 4, 0, 0)], 0, 0, [])
def lYb_f_452 : sS := vZ (cvS zi lYa_f_452 k_L_limit (cx1 k_L_limit))
def lYc_f_452 : sS := ([(3, 0, 0), (3, 8, 0), (3, 40, 0), (3, 36, 0), (0, 0, 4088), (0, 8, 4096), (3, 45, 0), (0, 0, 40), (3, 48, 0), (0, 0, 24), (3, 51, 0), (0, 0, 24), (0, 0, 4088), (0, 0, 4088), (3, 56, 0), (0, 1, 1), (0, 1, 4089), (0, -2147483648, 2147483647), (0, 2, 2), (0, 2, 4090), (0, -2147483648, 2147483647), (0, 3, 3), (0, 3, 4091), (0, -2147483648, 2147483647), (0, 0, 2), (0, 1, 1), (0, 2, 2), (0, 3, 3)], [(5, 24), (0, 0), (1, 1), (2, 2), (3, 3), (4, 4)], [23, 20, 17, 2], [(4, 0, 22, 23, 0), (0, 22, 4, 0, 3), (0, 4, 22, 0, -3), (4, 0, 19, 20, 0), (0, 19, 4, 0, 2), (0, 4, 19, 0, -2), (4, 0, 16, 17, 0), (0, 16, 4, 0, 1), (0, 4, 16, 0, -1), (0, 4, 5, 0, -8), (3, 0, 5, 0, 0), (2, 2, 7, 6, 0), (2, 6, 2, 7, 0), (2, 2, 8, 8, 0), (2, 8, 2, 9, 0), (2, 2, 9, 10, 0), (2, 10, 2, 11, 0), (2, 1, 1, 12, 0), (2, 2, 3, 13, 0), (0, 12, 13, 0, 0), (0, 13, 12, 0, 0), (2, 2, 10, 14, 0), (0, 12, 4, 0, 0), (0, 13, 4, 0, 0)], 0, 0, [])
theorem lY1_f_452 : chk zrx zi wT (wRo wSites_15) (wRo wTags_15) lC_f [] 0 0 15 3000 false [(472, lYa_f_452, [])] none 57 243 452 (vZ lM_f) (fun _ _ => false) = true := by decide +kernel
theorem lY2_f_452 : chk zrx zi wT (wRo wSites_15) (wRo wTags_15) lC_f [] 0 0 25 3000 false [(496, lYc_f_452, [])] none 57 243 475 lYb_f_452 (fun _ _ => false) = true := by decide +kernel
theorem lV1_f_452 : cvOk zrx zi wT 243 472 56 lYa_f_452 k_L_limit = true := by decide +kernel
theorem lV2_f_452 : cvOk zrx zi wT 243 496 56 lYc_f_452 k_X15_limit = true := by decide +kernel
theorem lYn_f_452 : lYb_f_452.1.length = 25 := by decide +kernel
theorem lYr_f_452 : (vZ lM_f).2.2.2.1.all (fun f => !(f.1 == 7)) = true ∧ lYa_f_452.2.2.2.1.all (fun f => !(f.1 == 7)) = true ∧ (cvS zi lYa_f_452 k_L_limit (cx1 k_L_limit)).2.2.2.1.all (fun f => !(f.1 == 7)) = true ∧ lYc_f_452.2.2.2.1.all (fun f => !(f.1 == 7)) = true := by decide +kernel
def lYd0_f_452 : sS := vZ (cvS zi lYc_f_452 k_X15_limit (cxi k_X15_limit 0))
theorem lYd0_f_452n : lYd0_f_452.1.length = 29 ∧ (cvS zi lYc_f_452 k_X15_limit (cxi k_X15_limit 0)).2.2.2.1.all (fun f => !(f.1 == 7)) = true := by decide +kernel
theorem lY3_f_452_0 : chk zrx zi wT (wRo wSites_15) (wRo wTags_15) lC_f [] 0 0 15 3000 false [(27, lT_fza, [])] none 57 243 499 lYd0_f_452 (fun _ _ => false) = true := by decide +kernel
set_option maxRecDepth 20000 in
theorem lA_f_452 {n : Nat} (ih : lIH n) {hb ub : Nat} {N : Int} {ρ : List Nat} {ν : List Value} {lv : List (Nat × Value)} {st : List Value} {h : List zC} {u : Nat} {i R C A : Int32} {F : Int} (hA : gA hb ub ρ ν lM_f lv st h u) (hH : tHeap wT N ρ h) (v4 : ν[4]? = some (.int i)) (v7 : ν[7]? = some (.int R)) (v9 : ν[9]? = some (.int C)) (v11 : ν[11]? = some (.int A))
    (i4 : i.toInt ≤ 4096) (acc : lAcc true hb ub i.toInt R.toInt C.toInt A.toInt F) (rm1 : (ub : Int) + 17920 ≤ zSN) (rm2 : (hb : Int) + 1152 ≤ zCM) (hn : 4104 - i.toInt ≤ (n + 1 : Nat)) (hR : lR ρ ν h) : zE zrx zi 57 243 452 lv st h u lKK := by
  obtain ⟨dl1, dl2, dl3, dl4⟩ := lD_lo R.toInt C.toInt A.toInt
  obtain ⟨r0, ra, rb, rc⟩ := lYr_f_452
  have q0 : (h.length : Int) - hb ≤ 0 := hA.2.2.2.2.1
  have q1 : (u : Int) - ub ≤ 0 := hA.2.2.2.2.2
  have hlen : ν.length ≤ 15 := by
    rw [← hA.1.1]
    exact Nat.le_of_eq rfl
  refine seg wT_ok lC_f_ok 3000 lY1_f_452 (Nat.le_refl _) (nExt.refl ν) hlen (hA.reb r0) rfl rfl hH (by omega) (by omega) ?_
  intro x hx N1 ρ1 ν1 lv1 st1 h1 u1 x1 hA1 hH1 hF1 hP1
  rw [List.mem_singleton.mp hx] at hA1 ⊢
  clear hx x
  dsimp only at hA1 ⊢
  have hR1 := hR.fr hH hF1 hP1 x1 stW_nil rW_nil
  have b1 : (h1.length : Int) - h.length ≤ 0 := Int.le_trans (hA1.cost (by decide +kernel)).1 (by decide +kernel)
  have b2 : (u1 : Int) - u ≤ 0 := Int.le_trans (hA1.cost (by decide +kernel)).2 (by decide +kernel)
  have hT : gSt ν1 [3, 23, 20, 17, 1] st1 := hA1.2.2.1
  obtain ⟨w0, sa0, ea0, o0, ha0⟩ := hT.inv
  subst ea0
  rw [hR1.2.2.2.1] at o0
  cases o0
  obtain ⟨w1, sa1, ea1, o1, ha1⟩ := ha0.inv
  subst ea1
  obtain ⟨p23, rfl, -⟩ := hA1.int o1 rfl
  obtain ⟨w2, sa2, ea2, o2, ha2⟩ := ha1.inv
  subst ea2
  obtain ⟨p20, rfl, -⟩ := hA1.int o2 rfl
  obtain ⟨w3, sa3, ea3, o3, ha3⟩ := ha2.inv
  subst ea3
  obtain ⟨p17, rfl, -⟩ := hA1.int o3 rfl
  obtain ⟨w4, sa4, ea4, o4, ha4⟩ := ha3.inv
  subst ea4
  rw [hR1.2.1] at o4
  cases o4
  cases ha4.nil
  obtain ⟨cr, rl, rc1, rc2, rc3, rc4, rc5, rc6, rc7⟩ := id (hR1.2.2.2.2.2.2.1.1)
  refine call_val con_L_limit vr_243_472 lV1_f_452 rfl rfl (hA1.reb ra) hH1 (by have : k_L_limit.2.2.2.2.1 = 1 := rfl; omega) (by have : k_L_limit.2.2.2.2.2.1 = 6 := rfl; omega) rfl (fun n => C_Llimit n p17 p20 p23 h1 u1 hR1.2.2.2.2.1 rc1 rc6) ?_
  intro N2 ρ2 ν2 v h2 u2 n2 x2 hA2 hH2 hF2 hP2 V1
  obtain ⟨k, hk, V1⟩ := V1
  cases hk
  have V1 : Q_Llimit cr p17 p20 p23 h1 (.inl (some (.int k))) h2 u2 := ⟨k, rfl, V1⟩
  have b3 : (h2.length : Int) - h1.length ≤ 1 := Int.le_trans (hA2.cost (by decide +kernel)).1 (by decide +kernel)
  have b4 : (u2 : Int) - u1 ≤ 6 := Int.le_trans (hA2.cost (by decide +kernel)).2 (by decide +kernel)
  have hTk : ν2[24]? = some (.int k) := gSt_hd hA2.2.2.1 (by decide +kernel)
  have hlen2 : ν2.length ≤ 25 := by
    rw [← hA2.1.1]
    exact Nat.le_of_eq lYn_f_452
  have hS2 : Stc h2 := hR1.2.2.2.2.1.fr hR1.1 hF2 stW_L_limit
  have hRo2 : Ro ρ2 := hR1.1.pre hP2
  show zE zrx zi 57 243 475 lv1 _ h2 u2 lKK
  refine seg wT_ok lC_f_ok 3000 lY2_f_452 (Nat.le_refl _) (nExt.refl ν2) hlen2 (hA2.reb rb) rfl rfl hH2 (by omega) (by omega) ?_
  intro x hx N3 ρ3 ν3 lv3 st3 h3 u3 x3 hA3 hH3 hF3 hP3
  rw [List.mem_singleton.mp hx] at hA3 ⊢
  clear hx x
  dsimp only at hA3 ⊢
  have hS3 : Stc h3 := hS2.fr hRo2 hF3 stW_nil
  have b5 : (h3.length : Int) - h2.length ≤ 0 := Int.le_trans (hA3.cost (by decide +kernel)).1 (by decide +kernel)
  have b6 : (u3 : Int) - u2 ≤ 0 := Int.le_trans (hA3.cost (by decide +kernel)).2 (by decide +kernel)
  have hE : ∀ p, p < h2.length → ∀ k, gF h3 p k = gF h2 p k := fun p hp k => gFr_F0 hF3 hH2.1 hp k
  have hT : gSt ν3 [23, 20, 17, 2] st3 := hA3.2.2.1
  obtain ⟨w0, sb0, eb0, c0, hb0⟩ := hT.inv
  subst eb0
  rw [x3 _ _ (x2 _ _ o1)] at c0
  cases c0
  obtain ⟨w1, sb1, eb1, c1, hb1⟩ := hb0.inv
  subst eb1
  rw [x3 _ _ (x2 _ _ o2)] at c1
  cases c1
  obtain ⟨w2, sb2, eb2, c2, hb2⟩ := hb1.inv
  subst eb2
  rw [x3 _ _ (x2 _ _ o3)] at c2
  cases c2
  obtain ⟨w3, sb3, eb3, c3, hb3⟩ := hb2.inv
  subst eb3
  rw [x3 _ _ (x2 _ _ hR1.2.2.1)] at c3
  cases c3
  cases hb3.nil
  have hl1 := hR1.2.2.2.2.1.1
  have hl2 := gFr_len hF2
  have hl3 := gFr_len hF3
  have ro3 : Ro ρ3 := hRo2.pre hP3
  have m2 := (hE 223 (by omega) 2).trans ((gFr_F hF2 (hR1.1 223 45 (by decide +kernel)) (by decide +kernel) (by omega)).trans rc2)
  have m1 := (hE 223 (by omega) 1).trans ((gFr_F hF2 (hR1.1 223 45 (by decide +kernel)) (by decide +kernel) (by omega)).trans rc3)
  obtain ⟨⟨l, l1, l2⟩, l3, l4, l5, l6, l7, l8⟩ := rl_at hH3 ro3 m1 m2
  have l213 : ¬ rl = 213 := by omega
  obtain ⟨-, -, k213, -⟩ := kind_at hH3 (ro3 213 40 (by decide +kernel)) rfl
  obtain ⟨-, -, k223, -⟩ := kind_at hH3 (ro3 223 45 (by decide +kernel)) rfl
  refine call_val con_X15_limit vr_243_496 lV2_f_452 rfl rfl (hA3.reb rc) hH3 (by have : k_X15_limit.2.2.2.2.1 = 0 := rfl; omega) (by have : k_X15_limit.2.2.2.2.2.1 = 0 := rfl; omega) rfl (fun n => C_mlimit n p17 p20 p23 h3 u3 hS3 m2 m1 l3 l213 k213 k223 rc5 (fun hx q hq => by
    obtain ⟨f, f1, f2⟩ := l8 _ (iN_cl rc5 hx)
    rw [hq] at f1
    cases f1
    obtain ⟨fa, ga⟩ := rl_int hH3 f2 (k := 3) (by omega)
    obtain ⟨fb, gb⟩ := rl_int hH3 f2 (k := 4) (by omega)
    obtain ⟨fc, gc⟩ := rl_int hH3 f2 (k := 6) (by omega)
    exact ⟨fa, fb, fc, ga, gb, gc⟩)) ?_
  intro N4 ρ4 ν4 v h4 u4 n4 x4 hA4 hH4 hF4 hP4 V2
  obtain ⟨nd, rd⟩ := lYd0_f_452n
  obtain ⟨r, hr⟩ : ∃ r : Int32, v = .int r := by
    first
      | (obtain ⟨r, h0, hr, -⟩ := V2; cases hr; exact ⟨r, rfl⟩)
      | (obtain ⟨r, hr, -⟩ := V2; cases hr; exact ⟨r, rfl⟩)
  subst hr
  have b7 : (h4.length : Int) - h3.length ≤ 0 := Int.le_trans (hA4.cost (by decide +kernel)).1 (by decide +kernel)
  have b8 : (u4 : Int) - u3 ≤ 0 := Int.le_trans (hA4.cost (by decide +kernel)).2 (by decide +kernel)
  have z1 := ((⟨⟨⟨qFed.fr3 (hR1.2.2.2.2.2.1.1) hR1.2.2.2.2.1 hR1.1 hH1 hF2 (by decide +kernel) hS2 hRo2 hH2 hF3 hS3 (hRo2.pre hP3) hH3 hF4 (by decide +kernel), qAR.fr3 (hR1.2.2.2.2.2.1.2.1) hR1.2.2.2.2.1 hR1.1 hH1 hF2 (by decide +kernel) hS2 hRo2 hH2 hF3 hS3 (hRo2.pre hP3) hH3 hF4 (by decide +kernel), qHO.fr3 (hR1.2.2.2.2.2.1.2.2.1) hR1.2.2.2.2.1 hR1.1 hH1 hF2 (by decide +kernel) hS2 hRo2 hH2 hF3 hS3 (hRo2.pre hP3) hH3 hF4 (by decide +kernel), qEX.fr3 (hR1.2.2.2.2.2.1.2.2.2) hR1.2.2.2.2.1 hR1.1 hH1 hF2 (by decide +kernel) hS2 hRo2 hH2 hF3 hS3 (hRo2.pre hP3) hH3 hF4 (by decide +kernel)⟩, ⟨sumF_limit rc1 rc2 rc3 rc4 rc5 rc6 rc7 (by obtain ⟨⟨l0, l01, -⟩, -⟩ := rl_at hH1 hR1.1 rc3 rc2; exact gN_lt l01) hl1 hl2 hl3 V1 hE V2, qRCs.fr3 (hR1.2.2.2.2.2.2.1.2.1) hR1.2.2.2.2.1 hR1.1 hH1 hF2 (by decide +kernel) hS2 hRo2 hH2 hF3 hS3 (hRo2.pre hP3) hH3 hF4 (by decide +kernel), qVd.fr3 (hR1.2.2.2.2.2.2.1.2.2) hR1.2.2.2.2.1 hR1.1 hH1 hF2 (by decide +kernel) hS2 hRo2 hH2 hF3 hS3 (hRo2.pre hP3) hH3 hF4 (by decide +kernel)⟩, ⟨Rw.fr3 (hR1.2.2.2.2.2.2.2.1.1) hR1.2.2.2.2.1 hR1.1 hH1 hF2 (by decide +kernel) hS2 hRo2 hH2 hF3 hS3 (hRo2.pre hP3) hH3 hF4 (by decide +kernel), qSm.fr3T (hR1.2.2.2.2.2.2.2.1.2.1) hR1.2.2.2.2.1 hR1.1 hH1 hF2 (by decide +kernel) hS2 hRo2 hH2 hF3 hS3 (hRo2.pre hP3) hH3 hF4 (by decide +kernel), qSm.fr3Y (hR1.2.2.2.2.2.2.2.1.2.2) hR1.2.2.2.2.1 hR1.1 hH1 hF2 (by decide +kernel) hS2 hRo2 hH2 hF3 hS3 (hRo2.pre hP3) hH3 hF4 (by decide +kernel)⟩, qDz.fr3 (hR1.2.2.2.2.2.2.2.2.1) hR1.2.2.2.2.1 hR1.1 hH1 hF2 (by decide +kernel) hS2 hRo2 hH2 hF3 hS3 (hRo2.pre hP3) hH3 hF4 (by decide +kernel), qRv.fr3 (hR1.2.2.2.2.2.2.2.2.2) hR1.2.2.2.2.1 hR1.1 hH1 hF2 (by decide +kernel) hS2 hRo2 hH2 hF3 hS3 (hRo2.pre hP3) hH3 hF4 (by decide +kernel)⟩, trivial⟩ : qAll h4 ∧ True)).1
  have hR4 : lR ρ4 ν4 h4 := ⟨(hRo2.pre hP3).pre hP4, x4 _ _ (x3 _ _ (x2 _ _ hR1.2.1)), x4 _ _ (x3 _ _ (x2 _ _ hR1.2.2.1)), x4 _ _ (x3 _ _ (x2 _ _ hR1.2.2.2.1)), hS3.fr (hRo2.pre hP3) hF4 stW_X15_limit, z1⟩
  have x14 : nExt ν ν4 := x1.trans (x2.trans (x3.trans x4))
  have hA4 := hA4.reb rd
  show zE zrx zi 57 243 499 lv3 _ h4 u4 lKK
  refine seg wT_ok lC_f_ok 3000 lY3_f_452_0 (Nat.le_refl _) x14 hlen hA4 rfl rfl hH4 (by omega) (by omega) ?_
  intro x hx N5 ρ5 ν5 lv5 st5 h5 u5 x5 hA5 hH5 hF5 hP5
  rw [List.mem_singleton.mp hx] at hA5 ⊢
  clear hx x
  dsimp only at hA5 ⊢
  have b9 : (h5.length : Int) - h4.length ≤ 0 := Int.le_trans (hA5.cost (by decide +kernel)).1 (by decide +kernel)
  have c1 : (u5 : Int) - u4 ≤ 0 := Int.le_trans (hA5.cost (by decide +kernel)).2 (by decide +kernel)
  obtain ⟨j, j1, j2⟩ := l_i hA5 rfl rfl (x5 _ _ v4)
  exact l_next (g := true) ih [0, 1, 2, 3, 15, 5, 6, 7, 8, 9, 10, 11, 12, 13, 14] (by decide +kernel) (by decide +kernel) hA5 rfl hH5 rfl rfl rfl rfl j1 (x5 _ _ v7) (x5 _ _ v9) (x5 _ _ v11) (acc.dear j2 (by omega) (by omega) true (fun z => z)) (by omega) rfl rfl rfl (lR.fr ⟨hR4.1, x5 _ _ (hR.2.1), x5 _ _ (hR.2.2.1), x5 _ _ (hR.2.2.2.1), hR4.2.2.2.2⟩ hH4 hF5 hP5 (nExt.refl ν5) stW_nil rW_nil)
def lYa_f_504 : sS := ([(3, 0, 0), (3, 8, 0), (3, 40, 0), (3, 36, 0), (0, 0, 4088), (0, 8, 4096), (3, 45, 0), (0, 0, 40), (3, 48, 0), (0, 0, 24), (3, 51, 0), (0, 0, 24), (0, 0, 4088), (0, 0, 4088), (3, 56, 0), (0, 1, 1), (0, 1, 4089), (0, -2147483648, 2147483647), (0, 2, 2), (0, 2, 4090), (0, -2147483648, 2147483647), (0, 3, 3), (0, 3, 4091), (0, -2147483648, 2147483647), (0, 4, 4), (0, 4, 4092), (0, -2147483648, 2147483647), (0, 5, 5), (0, 5, 4093), (0, -2147483648, 2147483647), (0, 6, 6), (0, 6, 4094), (0, -2147483648, 2147483647), (0, 7, 7), (0, 7, 4095), (0, -2147483648, 2147483647)], [(0, 0), (1, 1), (2, 2), (3, 3), (4, 4)], [3, 35, 32, 29, 26, 23, 20, 17, 1], [(4, 0, 34, 35, 0), (0, 34, 4, 0, 7), (0, 4, 34, 0, -7), (4, 0, 31, 32, 0), (0, 31, 4, 0, 6), (0, 4, 31, 0, -6), (4, 0, 28, 29, 0), (0, 28, 4, 0, 5), (0, 4, 28, 0, -5), (4, 0, 25, 26, 0), (0, 25, 4, 0, 4), (0, 4, 25, 0, -4), (4, 0, 22, 23, 0), (0, 22, 4, 0, 3), (0, 4, 22, 0, -3), (4, 0, 19, 20, 0), (0, 19, 4, 0, 2), (0, 4, 19, 0, -2), (4, 0, 16, 17, 0), (0, 16, 4, 0, 1), (0, 4, 16, 0, -1), (0, 4, 5, 0, -8), (3, 0, 5, 0, 0), (2, 2, 7, 6, 0), (2, 6, 2, 7, 0), (2, 2, 8, 8, 0), (2, 8, 2, 9, 0), (2, 2, 9, 10, 0), (2, 10, 2, 11, 0), (2, 1, 1, 12, 0), (2, 2, 3, 13, 0), (0, 12, 13, 0, 0), (0, 13, 12, 0, 0), (2, 2, 10, 14, 0), (0, 12, 4, 0, 0), (0, 13, 4, 0, 0)], 0, 0, [])
def lYb_f_504 : sS := vZ (cvS zi lYa_f_504 k_L_dispute (cx1 k_L_dispute))
def lYc_f_504 : sS := ([(3, 0, 0), (3, 8, 0), (3, 40, 0), (3, 36, 0), (0, 0, 4088), (0, 8, 4096), (3, 45, 0), (0, 0, 40), (3, 48, 0), (0, 0, 24), (3, 51, 0), (0, 0, 24), (0, 0, 4088), (0, 0, 4088), (3, 56, 0), (0, 1, 1), (0, 1, 4089), (0, -2147483648, 2147483647), (0, 2, 2), (0, 2, 4090), (0, -2147483648, 2147483647), (0, 3, 3), (0, 3, 4091), (0, -2147483648, 2147483647), (0, 4, 4), (0, 4, 4092), (0, -2147483648, 2147483647), (0, 5, 5), (0, 5, 4093), (0, -2147483648, 2147483647), (0, 6, 6), (0, 6, 4094), (0, -2147483648, 2147483647), (0, 7, 7), (0, 7, 4095), (0, -2147483648, 2147483647), (0, 0, 3), (0, 1, 1), (0, 2, 2), (0, 3, 3), (0, 4, 4), (0, 5, 5), (0, 6, 6), (0, 7, 7)], [(5, 36), (0, 0), (1, 1), (2, 2), (3, 3), (4, 4)], [35, 32, 29, 26, 23, 20, 17, 2], [(4, 0, 34, 35, 0), (0, 34, 4, 0, 7), (0, 4, 34, 0, -7), (4, 0, 31, 32, 0), (0, 31, 4, 0, 6), (0, 4, 31, 0, -6), (4, 0, 28, 29, 0), (0, 28, 4, 0, 5), (0, 4, 28, 0, -5), (4, 0, 25, 26, 0), (0, 25, 4, 0, 4), (0, 4, 25, 0, -4), (4, 0, 22, 23, 0), (0, 22, 4, 0, 3), (0, 4, 22, 0, -3), (4, 0, 19, 20, 0), (0, 19, 4, 0, 2), (0, 4, 19, 0, -2), (4, 0, 16, 17, 0), (0, 16, 4, 0, 1), (0, 4, 16, 0, -1), (0, 4, 5, 0, -8), (3, 0, 5, 0, 0), (2, 2, 7, 6, 0), (2, 6, 2, 7, 0), (2, 2, 8, 8, 0), (2, 8, 2, 9, 0), (2, 2, 9, 10, 0), (2, 10, 2, 11, 0), (2, 1, 1, 12, 0), (2, 2, 3, 13, 0), (0, 12, 13, 0, 0), (0, 13, 12, 0, 0), (2, 2, 10, 14, 0), (0, 12, 4, 0, 0), (0, 13, 4, 0, 0)], 0, 0, [])
theorem lY1_f_504 : chk zrx zi wT (wRo wSites_15) (wRo wTags_15) lC_f [] 0 0 15 3000 false [(550, lYa_f_504, [])] none 57 243 504 (vZ lM_f) (fun _ _ => false) = true := by decide +kernel
theorem lY2_f_504 : chk zrx zi wT (wRo wSites_15) (wRo wTags_15) lC_f [] 0 0 37 3000 false [(600, lYc_f_504, [])] none 57 243 553 lYb_f_504 (fun _ _ => false) = true := by decide +kernel
theorem lV1_f_504 : cvOk zrx zi wT 243 550 56 lYa_f_504 k_L_dispute = true := by decide +kernel
theorem lV2_f_504 : cvOk zrx zi wT 243 600 56 lYc_f_504 k_X15_dispute_L = true := by decide +kernel
theorem lYn_f_504 : lYb_f_504.1.length = 37 := by decide +kernel
theorem lYr_f_504 : (vZ lM_f).2.2.2.1.all (fun f => !(f.1 == 7)) = true ∧ lYa_f_504.2.2.2.1.all (fun f => !(f.1 == 7)) = true ∧ (cvS zi lYa_f_504 k_L_dispute (cx1 k_L_dispute)).2.2.2.1.all (fun f => !(f.1 == 7)) = true ∧ lYc_f_504.2.2.2.1.all (fun f => !(f.1 == 7)) = true := by decide +kernel
def lYd0_f_504 : sS := vZ (cvS zi lYc_f_504 k_X15_dispute_L (cxi k_X15_dispute_L 0))
theorem lYd0_f_504n : lYd0_f_504.1.length = 47 ∧ (cvS zi lYc_f_504 k_X15_dispute_L (cxi k_X15_dispute_L 0)).2.2.2.1.all (fun f => !(f.1 == 7)) = true := by decide +kernel
theorem lY3_f_504_0 : chk zrx zi wT (wRo wSites_15) (wRo wTags_15) lC_f [] 0 0 15 3000 false [(27, lT_fzc, [])] none 57 243 603 lYd0_f_504 (fun _ _ => false) = true := by decide +kernel
def lYd1_f_504 : sS := vZ (cvS zi lYc_f_504 k_X15_dispute_L (cxi k_X15_dispute_L 1))
theorem lYd1_f_504n : lYd1_f_504.1.length = 46 ∧ (cvS zi lYc_f_504 k_X15_dispute_L (cxi k_X15_dispute_L 1)).2.2.2.1.all (fun f => !(f.1 == 7)) = true := by decide +kernel
theorem lY3_f_504_1 : chk zrx zi wT (wRo wSites_15) (wRo wTags_15) lC_f [] 0 0 15 3000 false [(27, lT_fza, [])] none 57 243 603 lYd1_f_504 (fun _ _ => false) = true := by decide +kernel
set_option maxRecDepth 20000 in
theorem lA_f_504 {n : Nat} (ih : lIH n) {hb ub : Nat} {N : Int} {ρ : List Nat} {ν : List Value} {lv : List (Nat × Value)} {st : List Value} {h : List zC} {u : Nat} {i R C A : Int32} {F : Int} (hA : gA hb ub ρ ν lM_f lv st h u) (hH : tHeap wT N ρ h) (v4 : ν[4]? = some (.int i)) (v7 : ν[7]? = some (.int R)) (v9 : ν[9]? = some (.int C)) (v11 : ν[11]? = some (.int A))
    (i4 : i.toInt ≤ 4096) (acc : lAcc true hb ub i.toInt R.toInt C.toInt A.toInt F) (rm1 : (ub : Int) + 17920 ≤ zSN) (rm2 : (hb : Int) + 1152 ≤ zCM) (hn : 4104 - i.toInt ≤ (n + 1 : Nat)) (hR : lR ρ ν h) : zE zrx zi 57 243 504 lv st h u lKK := by
  obtain ⟨dl1, dl2, dl3, dl4⟩ := lD_lo R.toInt C.toInt A.toInt
  obtain ⟨r0, ra, rb, rc⟩ := lYr_f_504
  have q0 : (h.length : Int) - hb ≤ 0 := hA.2.2.2.2.1
  have q1 : (u : Int) - ub ≤ 0 := hA.2.2.2.2.2
  have hlen : ν.length ≤ 15 := by
    rw [← hA.1.1]
    exact Nat.le_of_eq rfl
  refine seg wT_ok lC_f_ok 3000 lY1_f_504 (Nat.le_refl _) (nExt.refl ν) hlen (hA.reb r0) rfl rfl hH (by omega) (by omega) ?_
  intro x hx N1 ρ1 ν1 lv1 st1 h1 u1 x1 hA1 hH1 hF1 hP1
  rw [List.mem_singleton.mp hx] at hA1 ⊢
  clear hx x
  dsimp only at hA1 ⊢
  have hR1 := hR.fr hH hF1 hP1 x1 stW_nil rW_nil
  have b1 : (h1.length : Int) - h.length ≤ 0 := Int.le_trans (hA1.cost (by decide +kernel)).1 (by decide +kernel)
  have b2 : (u1 : Int) - u ≤ 0 := Int.le_trans (hA1.cost (by decide +kernel)).2 (by decide +kernel)
  have hT : gSt ν1 [3, 35, 32, 29, 26, 23, 20, 17, 1] st1 := hA1.2.2.1
  obtain ⟨w0, sa0, ea0, o0, ha0⟩ := hT.inv
  subst ea0
  rw [hR1.2.2.2.1] at o0
  cases o0
  obtain ⟨w1, sa1, ea1, o1, ha1⟩ := ha0.inv
  subst ea1
  obtain ⟨p35, rfl, -⟩ := hA1.int o1 rfl
  obtain ⟨w2, sa2, ea2, o2, ha2⟩ := ha1.inv
  subst ea2
  obtain ⟨p32, rfl, -⟩ := hA1.int o2 rfl
  obtain ⟨w3, sa3, ea3, o3, ha3⟩ := ha2.inv
  subst ea3
  obtain ⟨p29, rfl, -⟩ := hA1.int o3 rfl
  obtain ⟨w4, sa4, ea4, o4, ha4⟩ := ha3.inv
  subst ea4
  obtain ⟨p26, rfl, -⟩ := hA1.int o4 rfl
  obtain ⟨w5, sa5, ea5, o5, ha5⟩ := ha4.inv
  subst ea5
  obtain ⟨p23, rfl, -⟩ := hA1.int o5 rfl
  obtain ⟨w6, sa6, ea6, o6, ha6⟩ := ha5.inv
  subst ea6
  obtain ⟨p20, rfl, -⟩ := hA1.int o6 rfl
  obtain ⟨w7, sa7, ea7, o7, ha7⟩ := ha6.inv
  subst ea7
  obtain ⟨p17, rfl, -⟩ := hA1.int o7 rfl
  obtain ⟨w8, sa8, ea8, o8, ha8⟩ := ha7.inv
  subst ea8
  rw [hR1.2.1] at o8
  cases o8
  cases ha8.nil
  obtain ⟨cc, lc, cc1, cc2, cc3, cc4, cc5, cc6, cc7⟩ := id (hR1.2.2.2.2.2.2.1.2.1)
  obtain ⟨dd, d1, d2, d3⟩ := id (hR1.2.2.2.2.2.2.2.2.1)
  refine call_val con_L_dispute vr_243_550 lV1_f_504 rfl rfl (hA1.reb ra) hH1 (by have : k_L_dispute.2.2.2.2.1 = 1 := rfl; omega) (by have : k_L_dispute.2.2.2.2.2.1 = 6 := rfl; omega) rfl (fun n => C_Ldispute n p17 p20 p23 p26 p29 p32 p35 h1 u1 hR1.2.2.2.2.1 cc1 d1) ?_
  intro N2 ρ2 ν2 v h2 u2 n2 x2 hA2 hH2 hF2 hP2 V1
  obtain ⟨k, hk, V1⟩ := V1
  cases hk
  have V1 : Q_Ldispute cc dd p17 p20 p23 p26 p29 p32 p35 h1 (.inl (some (.int k))) h2 u2 := ⟨k, rfl, V1⟩
  have b3 : (h2.length : Int) - h1.length ≤ 1 := Int.le_trans (hA2.cost (by decide +kernel)).1 (by decide +kernel)
  have b4 : (u2 : Int) - u1 ≤ 6 := Int.le_trans (hA2.cost (by decide +kernel)).2 (by decide +kernel)
  have hTk : ν2[36]? = some (.int k) := gSt_hd hA2.2.2.1 (by decide +kernel)
  have hlen2 : ν2.length ≤ 37 := by
    rw [← hA2.1.1]
    exact Nat.le_of_eq lYn_f_504
  have hS2 : Stc h2 := hR1.2.2.2.2.1.fr hR1.1 hF2 stW_L_dispute
  have hRo2 : Ro ρ2 := hR1.1.pre hP2
  show zE zrx zi 57 243 553 lv1 _ h2 u2 lKK
  refine seg wT_ok lC_f_ok 3000 lY2_f_504 (Nat.le_refl _) (nExt.refl ν2) hlen2 (hA2.reb rb) rfl rfl hH2 (by omega) (by omega) ?_
  intro x hx N3 ρ3 ν3 lv3 st3 h3 u3 x3 hA3 hH3 hF3 hP3
  rw [List.mem_singleton.mp hx] at hA3 ⊢
  clear hx x
  dsimp only at hA3 ⊢
  have hS3 : Stc h3 := hS2.fr hRo2 hF3 stW_nil
  have b5 : (h3.length : Int) - h2.length ≤ 0 := Int.le_trans (hA3.cost (by decide +kernel)).1 (by decide +kernel)
  have b6 : (u3 : Int) - u2 ≤ 0 := Int.le_trans (hA3.cost (by decide +kernel)).2 (by decide +kernel)
  have hE : ∀ p, p < h2.length → ∀ k, gF h3 p k = gF h2 p k := fun p hp k => gFr_F0 hF3 hH2.1 hp k
  have hT : gSt ν3 [35, 32, 29, 26, 23, 20, 17, 2] st3 := hA3.2.2.1
  obtain ⟨w0, sb0, eb0, c0, hb0⟩ := hT.inv
  subst eb0
  rw [x3 _ _ (x2 _ _ o1)] at c0
  cases c0
  obtain ⟨w1, sb1, eb1, c1, hb1⟩ := hb0.inv
  subst eb1
  rw [x3 _ _ (x2 _ _ o2)] at c1
  cases c1
  obtain ⟨w2, sb2, eb2, c2, hb2⟩ := hb1.inv
  subst eb2
  rw [x3 _ _ (x2 _ _ o3)] at c2
  cases c2
  obtain ⟨w3, sb3, eb3, c3, hb3⟩ := hb2.inv
  subst eb3
  rw [x3 _ _ (x2 _ _ o4)] at c3
  cases c3
  obtain ⟨w4, sb4, eb4, c4, hb4⟩ := hb3.inv
  subst eb4
  rw [x3 _ _ (x2 _ _ o5)] at c4
  cases c4
  obtain ⟨w5, sb5, eb5, c5, hb5⟩ := hb4.inv
  subst eb5
  rw [x3 _ _ (x2 _ _ o6)] at c5
  cases c5
  obtain ⟨w6, sb6, eb6, c6, hb6⟩ := hb5.inv
  subst eb6
  rw [x3 _ _ (x2 _ _ o7)] at c6
  cases c6
  obtain ⟨w7, sb7, eb7, c7, hb7⟩ := hb6.inv
  subst eb7
  rw [x3 _ _ (x2 _ _ hR1.2.2.1)] at c7
  cases c7
  cases hb7.nil
  have hl1 := hR1.2.2.2.2.1.1
  have hl2 := gFr_len hF2
  have hl3 := gFr_len hF3
  have ro3 : Ro ρ3 := hRo2.pre hP3
  have n2 := (hE 224 (by omega) 2).trans ((gFr_F hF2 (hR1.1 224 48 (by decide +kernel)) (by decide +kernel) (by omega)).trans cc2)
  have n1 := (hE 224 (by omega) 1).trans ((gFr_F hF2 (hR1.1 224 48 (by decide +kernel)) (by decide +kernel) (by omega)).trans cc3)
  obtain ⟨⟨e, e1, e2⟩, e3, e4, e5, e6, e7, e8⟩ := cl_at hH3 ro3 n1 n2
  have e213 : ¬ lc = 213 := by omega
  have d4 := (hE 213 (by omega) 1).trans ((gFr_F hF2 (hR1.1 213 40 (by decide +kernel)) (by decide +kernel) (by omega)).trans d2)
  refine call_valn con_X15_dispute_L vr_243_600 lV2_f_504 (by decide +kernel) (hA3.reb rc) hH3 (by have : k_X15_dispute_L.2.2.2.2.1 = 2 := rfl; omega) (by have : k_X15_dispute_L.2.2.2.2.2.1 = 43 := rfl; omega) rfl (fun n => C_mdispute n p17 p20 p23 p26 p29 p32 p35 h3 u3 hS3 n2 n1 e1 e2 e3 cc6 e213 d4) ?_
  refine ends2 rfl ?_ ?_
  · intro N4 ρ4 ν4 v h4 u4 n4 x4 hA4 hH4 hF4 hP4 V2
    obtain ⟨nd, rd⟩ := lYd0_f_504n
    obtain ⟨r, hr⟩ : ∃ r : Int32, v = .int r := by
      first
        | (obtain ⟨r, h0, hr, -⟩ := V2; cases hr; exact ⟨r, rfl⟩)
        | (obtain ⟨r, hr, -⟩ := V2; cases hr; exact ⟨r, rfl⟩)
    subst hr
    have b7 : (h4.length : Int) - h3.length ≤ 2 := Int.le_trans (hA4.cost (by decide +kernel)).1 (by decide +kernel)
    have b8 : (u4 : Int) - u3 ≤ 43 := Int.le_trans (hA4.cost (by decide +kernel)).2 (by decide +kernel)
    have z1 := ((⟨⟨⟨qFed.fr3 (hR1.2.2.2.2.2.1.1) hR1.2.2.2.2.1 hR1.1 hH1 hF2 (by decide +kernel) hS2 hRo2 hH2 hF3 hS3 (hRo2.pre hP3) hH3 hF4 (by decide +kernel), qAR.fr3 (hR1.2.2.2.2.2.1.2.1) hR1.2.2.2.2.1 hR1.1 hH1 hF2 (by decide +kernel) hS2 hRo2 hH2 hF3 hS3 (hRo2.pre hP3) hH3 hF4 (by decide +kernel), qHO.fr3 (hR1.2.2.2.2.2.1.2.2.1) hR1.2.2.2.2.1 hR1.1 hH1 hF2 (by decide +kernel) hS2 hRo2 hH2 hF3 hS3 (hRo2.pre hP3) hH3 hF4 (by decide +kernel), qEX.fr3 (hR1.2.2.2.2.2.1.2.2.2) hR1.2.2.2.2.1 hR1.1 hH1 hF2 (by decide +kernel) hS2 hRo2 hH2 hF3 hS3 (hRo2.pre hP3) hH3 hF4 (by decide +kernel)⟩, ⟨qRFu.fr3 (hR1.2.2.2.2.2.2.1.1) hR1.2.2.2.2.1 hR1.1 hH1 hF2 (by decide +kernel) hS2 hRo2 hH2 hF3 hS3 (hRo2.pre hP3) hH3 hF4 (by decide +kernel), sum_dispute cc1 cc2 cc3 cc4 cc5 cc6 cc7 (hR1.2.2.2.2.2.2.2.1.1) hl1 hl2 hl3 V1 hE V2, sumV_dispute cc1 cc3 (hR1.2.2.2.2.2.2.1.2.2) hl1 hl2 hl3 V1 hE V2⟩, ⟨Rw.fr3 (hR1.2.2.2.2.2.2.2.1.1) hR1.2.2.2.2.1 hR1.1 hH1 hF2 (by decide +kernel) hS2 hRo2 hH2 hF3 hS3 (hRo2.pre hP3) hH3 hF4 (by decide +kernel), qSm.fr3T (hR1.2.2.2.2.2.2.2.1.2.1) hR1.2.2.2.2.1 hR1.1 hH1 hF2 (by decide +kernel) hS2 hRo2 hH2 hF3 hS3 (hRo2.pre hP3) hH3 hF4 (by decide +kernel), qSm.fr3Y (hR1.2.2.2.2.2.2.2.1.2.2) hR1.2.2.2.2.1 hR1.1 hH1 hF2 (by decide +kernel) hS2 hRo2 hH2 hF3 hS3 (hRo2.pre hP3) hH3 hF4 (by decide +kernel)⟩, qDz.fr3 (hR1.2.2.2.2.2.2.2.2.1) hR1.2.2.2.2.1 hR1.1 hH1 hF2 (by decide +kernel) hS2 hRo2 hH2 hF3 hS3 (hRo2.pre hP3) hH3 hF4 (by decide +kernel), qRv.fr3 (hR1.2.2.2.2.2.2.2.2.2) hR1.2.2.2.2.1 hR1.1 hH1 hF2 (by decide +kernel) hS2 hRo2 hH2 hF3 hS3 (hRo2.pre hP3) hH3 hF4 (by decide +kernel)⟩, trivial⟩ : qAll h4 ∧ True)).1
    have hR4 : lR ρ4 ν4 h4 := ⟨(hRo2.pre hP3).pre hP4, x4 _ _ (x3 _ _ (x2 _ _ hR1.2.1)), x4 _ _ (x3 _ _ (x2 _ _ hR1.2.2.1)), x4 _ _ (x3 _ _ (x2 _ _ hR1.2.2.2.1)), hS3.fr (hRo2.pre hP3) hF4 stW_X15_dispute_L, z1⟩
    have x14 : nExt ν ν4 := x1.trans (x2.trans (x3.trans x4))
    have hA4 := hA4.reb rd
    show zE zrx zi 57 243 603 lv3 _ h4 u4 lKK
    refine seg wT_ok lC_f_ok 3000 lY3_f_504_0 (Nat.le_refl _) x14 hlen hA4 rfl rfl hH4 (by omega) (by omega) ?_
    intro x hx N5 ρ5 ν5 lv5 st5 h5 u5 x5 hA5 hH5 hF5 hP5
    rw [List.mem_singleton.mp hx] at hA5 ⊢
    clear hx x
    dsimp only at hA5 ⊢
    have b9 : (h5.length : Int) - h4.length ≤ 0 := Int.le_trans (hA5.cost (by decide +kernel)).1 (by decide +kernel)
    have c1 : (u5 : Int) - u4 ≤ 0 := Int.le_trans (hA5.cost (by decide +kernel)).2 (by decide +kernel)
    obtain ⟨j, j1, j2⟩ := l_i hA5 rfl rfl (x5 _ _ v4)
    obtain ⟨y, y1, y2⟩ := l_one hA5 rfl rfl (x5 _ _ v9)
    exact l_next (g := true) ih [0, 1, 2, 3, 15, 5, 6, 7, 8, 16, 10, 11, 12, 13, 14] (by decide +kernel) (by decide +kernel) hA5 rfl hH5 rfl rfl rfl rfl j1 (x5 _ _ v7) y1 (x5 _ _ v11) (acc.grow (g := true) j2 (by omega) (by omega) (by omega) (by omega) (by omega) (by omega) (by omega)) (by omega) rfl rfl rfl (lR.fr ⟨hR4.1, x5 _ _ (hR.2.1), x5 _ _ (hR.2.2.1), x5 _ _ (hR.2.2.2.1), hR4.2.2.2.2⟩ hH4 hF5 hP5 (nExt.refl ν5) stW_nil rW_nil)
  · intro N4 ρ4 ν4 v h4 u4 n4 x4 hA4 hH4 hF4 hP4 V2
    obtain ⟨nd, rd⟩ := lYd1_f_504n
    obtain ⟨r, hr⟩ : ∃ r : Int32, v = .int r := by
      first
        | (obtain ⟨r, h0, hr, -⟩ := V2; cases hr; exact ⟨r, rfl⟩)
        | (obtain ⟨r, hr, -⟩ := V2; cases hr; exact ⟨r, rfl⟩)
    subst hr
    have b7 : (h4.length : Int) - h3.length ≤ 0 := Int.le_trans (hA4.cost (by decide +kernel)).1 (by decide +kernel)
    have b8 : (u4 : Int) - u3 ≤ 0 := Int.le_trans (hA4.cost (by decide +kernel)).2 (by decide +kernel)
    have z1 := ((⟨⟨⟨qFed.fr3 (hR1.2.2.2.2.2.1.1) hR1.2.2.2.2.1 hR1.1 hH1 hF2 (by decide +kernel) hS2 hRo2 hH2 hF3 hS3 (hRo2.pre hP3) hH3 hF4 (by decide +kernel), qAR.fr3 (hR1.2.2.2.2.2.1.2.1) hR1.2.2.2.2.1 hR1.1 hH1 hF2 (by decide +kernel) hS2 hRo2 hH2 hF3 hS3 (hRo2.pre hP3) hH3 hF4 (by decide +kernel), qHO.fr3 (hR1.2.2.2.2.2.1.2.2.1) hR1.2.2.2.2.1 hR1.1 hH1 hF2 (by decide +kernel) hS2 hRo2 hH2 hF3 hS3 (hRo2.pre hP3) hH3 hF4 (by decide +kernel), qEX.fr3 (hR1.2.2.2.2.2.1.2.2.2) hR1.2.2.2.2.1 hR1.1 hH1 hF2 (by decide +kernel) hS2 hRo2 hH2 hF3 hS3 (hRo2.pre hP3) hH3 hF4 (by decide +kernel)⟩, ⟨qRFu.fr3 (hR1.2.2.2.2.2.2.1.1) hR1.2.2.2.2.1 hR1.1 hH1 hF2 (by decide +kernel) hS2 hRo2 hH2 hF3 hS3 (hRo2.pre hP3) hH3 hF4 (by decide +kernel), sum_dispute cc1 cc2 cc3 cc4 cc5 cc6 cc7 (hR1.2.2.2.2.2.2.2.1.1) hl1 hl2 hl3 V1 hE V2, sumV_dispute cc1 cc3 (hR1.2.2.2.2.2.2.1.2.2) hl1 hl2 hl3 V1 hE V2⟩, ⟨Rw.fr3 (hR1.2.2.2.2.2.2.2.1.1) hR1.2.2.2.2.1 hR1.1 hH1 hF2 (by decide +kernel) hS2 hRo2 hH2 hF3 hS3 (hRo2.pre hP3) hH3 hF4 (by decide +kernel), qSm.fr3T (hR1.2.2.2.2.2.2.2.1.2.1) hR1.2.2.2.2.1 hR1.1 hH1 hF2 (by decide +kernel) hS2 hRo2 hH2 hF3 hS3 (hRo2.pre hP3) hH3 hF4 (by decide +kernel), qSm.fr3Y (hR1.2.2.2.2.2.2.2.1.2.2) hR1.2.2.2.2.1 hR1.1 hH1 hF2 (by decide +kernel) hS2 hRo2 hH2 hF3 hS3 (hRo2.pre hP3) hH3 hF4 (by decide +kernel)⟩, qDz.fr3 (hR1.2.2.2.2.2.2.2.2.1) hR1.2.2.2.2.1 hR1.1 hH1 hF2 (by decide +kernel) hS2 hRo2 hH2 hF3 hS3 (hRo2.pre hP3) hH3 hF4 (by decide +kernel), qRv.fr3 (hR1.2.2.2.2.2.2.2.2.2) hR1.2.2.2.2.1 hR1.1 hH1 hF2 (by decide +kernel) hS2 hRo2 hH2 hF3 hS3 (hRo2.pre hP3) hH3 hF4 (by decide +kernel)⟩, trivial⟩ : qAll h4 ∧ True)).1
    have hR4 : lR ρ4 ν4 h4 := ⟨(hRo2.pre hP3).pre hP4, x4 _ _ (x3 _ _ (x2 _ _ hR1.2.1)), x4 _ _ (x3 _ _ (x2 _ _ hR1.2.2.1)), x4 _ _ (x3 _ _ (x2 _ _ hR1.2.2.2.1)), hS3.fr (hRo2.pre hP3) hF4 stW_X15_dispute_L, z1⟩
    have x14 : nExt ν ν4 := x1.trans (x2.trans (x3.trans x4))
    have hA4 := hA4.reb rd
    show zE zrx zi 57 243 603 lv3 _ h4 u4 lKK
    refine seg wT_ok lC_f_ok 3000 lY3_f_504_1 (Nat.le_refl _) x14 hlen hA4 rfl rfl hH4 (by omega) (by omega) ?_
    intro x hx N5 ρ5 ν5 lv5 st5 h5 u5 x5 hA5 hH5 hF5 hP5
    rw [List.mem_singleton.mp hx] at hA5 ⊢
    clear hx x
    dsimp only at hA5 ⊢
    have b9 : (h5.length : Int) - h4.length ≤ 0 := Int.le_trans (hA5.cost (by decide +kernel)).1 (by decide +kernel)
    have c1 : (u5 : Int) - u4 ≤ 0 := Int.le_trans (hA5.cost (by decide +kernel)).2 (by decide +kernel)
    obtain ⟨j, j1, j2⟩ := l_i hA5 rfl rfl (x5 _ _ v4)
    exact l_next (g := true) ih [0, 1, 2, 3, 15, 5, 6, 7, 8, 9, 10, 11, 12, 13, 14] (by decide +kernel) (by decide +kernel) hA5 rfl hH5 rfl rfl rfl rfl j1 (x5 _ _ v7) (x5 _ _ v9) (x5 _ _ v11) (acc.dear j2 (by omega) (by omega) true (fun z => z)) (by omega) rfl rfl rfl (lR.fr ⟨hR4.1, x5 _ _ (hR.2.1), x5 _ _ (hR.2.2.1), x5 _ _ (hR.2.2.2.1), hR4.2.2.2.2⟩ hH4 hF5 hP5 (nExt.refl ν5) stW_nil rW_nil)
def lYa_f_608 : sS := ([(3, 0, 0), (3, 8, 0), (3, 40, 0), (3, 36, 0), (0, 0, 4088), (0, 8, 4096), (3, 45, 0), (0, 0, 40), (3, 48, 0), (0, 0, 24), (3, 51, 0), (0, 0, 24), (0, 0, 4088), (0, 0, 4088), (3, 56, 0), (0, 1, 1), (0, 1, 4089), (0, -2147483648, 2147483647)], [(0, 0), (1, 1), (2, 2), (3, 3), (4, 4)], [3, 17, 1], [(4, 0, 16, 17, 0), (0, 16, 4, 0, 1), (0, 4, 16, 0, -1), (0, 4, 5, 0, -8), (3, 0, 5, 0, 0), (2, 2, 7, 6, 0), (2, 6, 2, 7, 0), (2, 2, 8, 8, 0), (2, 8, 2, 9, 0), (2, 2, 9, 10, 0), (2, 10, 2, 11, 0), (2, 1, 1, 12, 0), (2, 2, 3, 13, 0), (0, 12, 13, 0, 0), (0, 13, 12, 0, 0), (2, 2, 10, 14, 0), (0, 12, 4, 0, 0), (0, 13, 4, 0, 0)], 0, 0, [])
def lYb_f_608 : sS := vZ (cvS zi lYa_f_608 k_L_feed (cx1 k_L_feed))
def lYc_f_608 : sS := ([(3, 0, 0), (3, 8, 0), (3, 40, 0), (3, 36, 0), (0, 0, 4088), (0, 8, 4096), (3, 45, 0), (0, 0, 40), (3, 48, 0), (0, 0, 24), (3, 51, 0), (0, 0, 24), (0, 0, 4088), (0, 0, 4088), (3, 56, 0), (0, 1, 1), (0, 1, 4089), (0, -2147483648, 2147483647), (0, 0, 2), (0, 1, 1)], [(5, 18), (0, 0), (1, 1), (2, 2), (3, 3), (4, 4)], [17, 2], [(4, 0, 16, 17, 0), (0, 16, 4, 0, 1), (0, 4, 16, 0, -1), (0, 4, 5, 0, -8), (3, 0, 5, 0, 0), (2, 2, 7, 6, 0), (2, 6, 2, 7, 0), (2, 2, 8, 8, 0), (2, 8, 2, 9, 0), (2, 2, 9, 10, 0), (2, 10, 2, 11, 0), (2, 1, 1, 12, 0), (2, 2, 3, 13, 0), (0, 12, 13, 0, 0), (0, 13, 12, 0, 0), (2, 2, 10, 14, 0), (0, 12, 4, 0, 0), (0, 13, 4, 0, 0)], 0, 0, [])
theorem lY1_f_608 : chk zrx zi wT (wRo wSites_15) (wRo wTags_15) lC_f [] 0 0 15 3000 false [(616, lYa_f_608, [])] none 57 243 608 (vZ lM_f) (fun _ _ => false) = true := by decide +kernel
theorem lY2_f_608 : chk zrx zi wT (wRo wSites_15) (wRo wTags_15) lC_f [] 0 0 19 3000 false [(628, lYc_f_608, [])] none 57 243 619 lYb_f_608 (fun _ _ => false) = true := by decide +kernel
theorem lV1_f_608 : cvOk zrx zi wT 243 616 56 lYa_f_608 k_L_feed = true := by decide +kernel
theorem lV2_f_608 : cvOk zrx zi wT 243 628 56 lYc_f_608 k_X15_feed_Lf = true := by decide +kernel
theorem lYn_f_608 : lYb_f_608.1.length = 19 := by decide +kernel
theorem lYr_f_608 : (vZ lM_f).2.2.2.1.all (fun f => !(f.1 == 7)) = true ∧ lYa_f_608.2.2.2.1.all (fun f => !(f.1 == 7)) = true ∧ (cvS zi lYa_f_608 k_L_feed (cx1 k_L_feed)).2.2.2.1.all (fun f => !(f.1 == 7)) = true ∧ lYc_f_608.2.2.2.1.all (fun f => !(f.1 == 7)) = true := by decide +kernel
def lYd0_f_608 : sS := vZ (cvS zi lYc_f_608 k_X15_feed_Lf (cxi k_X15_feed_Lf 0))
theorem lYd0_f_608n : lYd0_f_608.1.length = 23 ∧ (cvS zi lYc_f_608 k_X15_feed_Lf (cxi k_X15_feed_Lf 0)).2.2.2.1.all (fun f => !(f.1 == 7)) = true := by decide +kernel
theorem lY3_f_608_0 : chk zrx zi wT (wRo wSites_15) (wRo wTags_15) lC_f [] 0 0 15 3000 false [(27, lT_fzf, [])] none 57 243 631 lYd0_f_608 (fun _ _ => false) = true := by decide +kernel
def lYd1_f_608 : sS := vZ (cvS zi lYc_f_608 k_X15_feed_Lf (cxi k_X15_feed_Lf 1))
theorem lYd1_f_608n : lYd1_f_608.1.length = 22 ∧ (cvS zi lYc_f_608 k_X15_feed_Lf (cxi k_X15_feed_Lf 1)).2.2.2.1.all (fun f => !(f.1 == 7)) = true := by decide +kernel
theorem lY3_f_608_1 : chk zrx zi wT (wRo wSites_15) (wRo wTags_15) lC_f [] 0 0 15 3000 false [(27, lT_fza, [])] none 57 243 631 lYd1_f_608 (fun _ _ => false) = true := by decide +kernel
set_option maxRecDepth 20000 in
theorem lA_f_608 {n : Nat} (ih : lIH n) {hb ub : Nat} {N : Int} {ρ : List Nat} {ν : List Value} {lv : List (Nat × Value)} {st : List Value} {h : List zC} {u : Nat} {i R C A : Int32} {F : Int} (hA : gA hb ub ρ ν lM_f lv st h u) (hH : tHeap wT N ρ h) (v4 : ν[4]? = some (.int i)) (v7 : ν[7]? = some (.int R)) (v9 : ν[9]? = some (.int C)) (v11 : ν[11]? = some (.int A))
    (i4 : i.toInt ≤ 4096) (acc : lAcc true hb ub i.toInt R.toInt C.toInt A.toInt F) (rm1 : (ub : Int) + 17920 ≤ zSN) (rm2 : (hb : Int) + 1152 ≤ zCM) (hn : 4104 - i.toInt ≤ (n + 1 : Nat)) (hR : lR ρ ν h) : zE zrx zi 57 243 608 lv st h u lKK := by
  obtain ⟨dl1, dl2, dl3, dl4⟩ := lD_lo R.toInt C.toInt A.toInt
  obtain ⟨r0, ra, rb, rc⟩ := lYr_f_608
  have q0 : (h.length : Int) - hb ≤ 0 := hA.2.2.2.2.1
  have q1 : (u : Int) - ub ≤ 0 := hA.2.2.2.2.2
  have hlen : ν.length ≤ 15 := by
    rw [← hA.1.1]
    exact Nat.le_of_eq rfl
  refine seg wT_ok lC_f_ok 3000 lY1_f_608 (Nat.le_refl _) (nExt.refl ν) hlen (hA.reb r0) rfl rfl hH (by omega) (by omega) ?_
  intro x hx N1 ρ1 ν1 lv1 st1 h1 u1 x1 hA1 hH1 hF1 hP1
  rw [List.mem_singleton.mp hx] at hA1 ⊢
  clear hx x
  dsimp only at hA1 ⊢
  have hR1 := hR.fr hH hF1 hP1 x1 stW_nil rW_nil
  have b1 : (h1.length : Int) - h.length ≤ 0 := Int.le_trans (hA1.cost (by decide +kernel)).1 (by decide +kernel)
  have b2 : (u1 : Int) - u ≤ 0 := Int.le_trans (hA1.cost (by decide +kernel)).2 (by decide +kernel)
  have hT : gSt ν1 [3, 17, 1] st1 := hA1.2.2.1
  obtain ⟨w0, sa0, ea0, o0, ha0⟩ := hT.inv
  subst ea0
  rw [hR1.2.2.2.1] at o0
  cases o0
  obtain ⟨w1, sa1, ea1, o1, ha1⟩ := ha0.inv
  subst ea1
  obtain ⟨p17, rfl, -⟩ := hA1.int o1 rfl
  obtain ⟨w2, sa2, ea2, o2, ha2⟩ := ha1.inv
  subst ea2
  rw [hR1.2.1] at o2
  cases o2
  cases ha2.nil
  obtain ⟨T, L, fs, fa, fbd, t1, t3, fm1⟩ := hR1.2.2.2.2.2.1.1
  obtain ⟨cnt, el, c0, c2, c1, cel, h0c, h24, -⟩ := id (hR1.2.2.2.2.2.1.2.1)
  obtain ⟨dd, d1, d2, d3⟩ := id (hR1.2.2.2.2.2.2.2.2.1)
  have t2 : L ≤ 60 := fm1.l60
  refine call_val con_L_feed vr_243_616 lV1_f_608 rfl rfl (hA1.reb ra) hH1 (by have : k_L_feed.2.2.2.2.1 = 1 := rfl; omega) (by have : k_L_feed.2.2.2.2.2.1 = 6 := rfl; omega) rfl (fun n => C_Lfeed n p17 h1 u1 hR1.2.2.2.2.1 t1 t2) ?_
  intro N2 ρ2 ν2 v h2 u2 n2 x2 hA2 hH2 hF2 hP2 V1
  obtain ⟨k, hk, V1⟩ := V1
  cases hk
  have V1 : Q_Lfeed L p17 h1 (.inl (some (.int k))) h2 u2 := ⟨k, rfl, V1⟩
  have b3 : (h2.length : Int) - h1.length ≤ 1 := Int.le_trans (hA2.cost (by decide +kernel)).1 (by decide +kernel)
  have b4 : (u2 : Int) - u1 ≤ 6 := Int.le_trans (hA2.cost (by decide +kernel)).2 (by decide +kernel)
  have hTk : ν2[18]? = some (.int k) := gSt_hd hA2.2.2.1 (by decide +kernel)
  have hlen2 : ν2.length ≤ 19 := by
    rw [← hA2.1.1]
    exact Nat.le_of_eq lYn_f_608
  have hS2 : Stc h2 := hR1.2.2.2.2.1.fr hR1.1 hF2 stW_L_feed
  have hRo2 : Ro ρ2 := hR1.1.pre hP2
  show zE zrx zi 57 243 619 lv1 _ h2 u2 lKK
  refine seg wT_ok lC_f_ok 3000 lY2_f_608 (Nat.le_refl _) (nExt.refl ν2) hlen2 (hA2.reb rb) rfl rfl hH2 (by omega) (by omega) ?_
  intro x hx N3 ρ3 ν3 lv3 st3 h3 u3 x3 hA3 hH3 hF3 hP3
  rw [List.mem_singleton.mp hx] at hA3 ⊢
  clear hx x
  dsimp only at hA3 ⊢
  have hS3 : Stc h3 := hS2.fr hRo2 hF3 stW_nil
  have b5 : (h3.length : Int) - h2.length ≤ 0 := Int.le_trans (hA3.cost (by decide +kernel)).1 (by decide +kernel)
  have b6 : (u3 : Int) - u2 ≤ 0 := Int.le_trans (hA3.cost (by decide +kernel)).2 (by decide +kernel)
  have hE : ∀ p, p < h2.length → ∀ k, gF h3 p k = gF h2 p k := fun p hp k => gFr_F0 hF3 hH2.1 hp k
  have hT : gSt ν3 [17, 2] st3 := hA3.2.2.1
  obtain ⟨w0, sb0, eb0, c0, hb0⟩ := hT.inv
  subst eb0
  rw [x3 _ _ (x2 _ _ o1)] at c0
  cases c0
  obtain ⟨w1, sb1, eb1, c1, hb1⟩ := hb0.inv
  subst eb1
  rw [x3 _ _ (x2 _ _ hR1.2.2.1)] at c1
  cases c1
  cases hb1.nil
  have hl1 := hR1.2.2.2.2.1.1
  have hl2 := gFr_len hF2
  have hl3 := gFr_len hF3
  have ro3 : Ro ρ3 := hRo2.pre hP3
  have fm2 := fm1.fr hR1.2.2.2.2.1.1 hR1.1 hH1 hF2 (by decide +kernel)
  have fm3 := fm2.fr hS2.1 hRo2 hH2 hF3 (by decide)
  obtain ⟨fb, sb3⟩ := fm3.sb hH3 ro3
  refine call_valn con_X15_feed_Lf vr_243_628 lV2_f_608 (by decide +kernel) (hA3.reb rc) hH3 (by have : k_X15_feed_Lf.2.2.2.2.1 = 6 := rfl; omega) (by have : k_X15_feed_Lf.2.2.2.2.2.1 = 263 := rfl; omega) rfl (fun n => C_mfeed n p17 h3 u3 hS3.1 sb3 fm3.2.1) ?_
  refine ends2 rfl ?_ ?_
  · intro N4 ρ4 ν4 v h4 u4 n4 x4 hA4 hH4 hF4 hP4 V2
    obtain ⟨nd, rd⟩ := lYd0_f_608n
    obtain ⟨r, hr⟩ : ∃ r : Int32, v = .int r := by
      first
        | (obtain ⟨r, h0, hr, -⟩ := V2; cases hr; exact ⟨r, rfl⟩)
        | (obtain ⟨r, hr, -⟩ := V2; cases hr; exact ⟨r, rfl⟩)
    subst hr
    have b7 : (h4.length : Int) - h3.length ≤ 6 := Int.le_trans (hA4.cost (by decide +kernel)).1 (by decide +kernel)
    have b8 : (u4 : Int) - u3 ≤ 263 := Int.le_trans (hA4.cost (by decide +kernel)).2 (by decide +kernel)
    have z1 := ((by
    obtain ⟨y1, y2, y3, y4⟩ := sum_feed t1 t3 fm3 hl1 hl2 hl3 V1 hE V2
    exact ⟨⟨⟨y1, qAR.fr3 (hR1.2.2.2.2.2.1.2.1) hR1.2.2.2.2.1 hR1.1 hH1 hF2 (by decide +kernel) hS2 hRo2 hH2 hF3 hS3 (hRo2.pre hP3) hH3 hF4 (by decide +kernel), qHO.fr3 (hR1.2.2.2.2.2.1.2.2.1) hR1.2.2.2.2.1 hR1.1 hH1 hF2 (by decide +kernel) hS2 hRo2 hH2 hF3 hS3 (hRo2.pre hP3) hH3 hF4 (by decide +kernel), qEX.fr3 (hR1.2.2.2.2.2.1.2.2.2) hR1.2.2.2.2.1 hR1.1 hH1 hF2 (by decide +kernel) hS2 hRo2 hH2 hF3 hS3 (hRo2.pre hP3) hH3 hF4 (by decide +kernel)⟩, ⟨qRFu.fr3 (hR1.2.2.2.2.2.2.1.1) hR1.2.2.2.2.1 hR1.1 hH1 hF2 (by decide +kernel) hS2 hRo2 hH2 hF3 hS3 (hRo2.pre hP3) hH3 hF4 (by decide +kernel), qRCs.fr3 (hR1.2.2.2.2.2.2.1.2.1) hR1.2.2.2.2.1 hR1.1 hH1 hF2 (by decide +kernel) hS2 hRo2 hH2 hF3 hS3 (hRo2.pre hP3) hH3 hF4 (by decide +kernel), qVd.fr3 (hR1.2.2.2.2.2.2.1.2.2) hR1.2.2.2.2.1 hR1.1 hH1 hF2 (by decide +kernel) hS2 hRo2 hH2 hF3 hS3 (hRo2.pre hP3) hH3 hF4 (by decide +kernel)⟩, ⟨Rw.fr3 (hR1.2.2.2.2.2.2.2.1.1) hR1.2.2.2.2.1 hR1.1 hH1 hF2 (by decide +kernel) hS2 hRo2 hH2 hF3 hS3 (hRo2.pre hP3) hH3 hF4 (by decide +kernel), qSm.fr3T (hR1.2.2.2.2.2.2.2.1.2.1) hR1.2.2.2.2.1 hR1.1 hH1 hF2 (by decide +kernel) hS2 hRo2 hH2 hF3 hS3 (hRo2.pre hP3) hH3 hF4 (by decide +kernel), qSm.fr3Y (hR1.2.2.2.2.2.2.2.1.2.2) hR1.2.2.2.2.1 hR1.1 hH1 hF2 (by decide +kernel) hS2 hRo2 hH2 hF3 hS3 (hRo2.pre hP3) hH3 hF4 (by decide +kernel)⟩, qDz.fr3 (hR1.2.2.2.2.2.2.2.2.1) hR1.2.2.2.2.1 hR1.1 hH1 hF2 (by decide +kernel) hS2 hRo2 hH2 hF3 hS3 (hRo2.pre hP3) hH3 hF4 (by decide +kernel), qRv.fr3 (hR1.2.2.2.2.2.2.2.2.2) hR1.2.2.2.2.1 hR1.1 hH1 hF2 (by decide +kernel) hS2 hRo2 hH2 hF3 hS3 (hRo2.pre hP3) hH3 hF4 (by decide +kernel)⟩, trivial⟩ : qAll h4 ∧ True)).1
    have hR4 : lR ρ4 ν4 h4 := ⟨(hRo2.pre hP3).pre hP4, x4 _ _ (x3 _ _ (x2 _ _ hR1.2.1)), x4 _ _ (x3 _ _ (x2 _ _ hR1.2.2.1)), x4 _ _ (x3 _ _ (x2 _ _ hR1.2.2.2.1)), hS3.fr (hRo2.pre hP3) hF4 stW_X15_feed_Lf, z1⟩
    have x14 : nExt ν ν4 := x1.trans (x2.trans (x3.trans x4))
    have hA4 := hA4.reb rd
    show zE zrx zi 57 243 631 lv3 _ h4 u4 lKK
    refine seg wT_ok lC_f_ok 3000 lY3_f_608_0 (Nat.le_refl _) x14 hlen hA4 rfl rfl hH4 (by omega) (by omega) ?_
    intro x hx N5 ρ5 ν5 lv5 st5 h5 u5 x5 hA5 hH5 hF5 hP5
    rw [List.mem_singleton.mp hx] at hA5 ⊢
    clear hx x
    dsimp only at hA5 ⊢
    have b9 : (h5.length : Int) - h4.length ≤ 0 := Int.le_trans (hA5.cost (by decide +kernel)).1 (by decide +kernel)
    have c1 : (u5 : Int) - u4 ≤ 0 := Int.le_trans (hA5.cost (by decide +kernel)).2 (by decide +kernel)
    obtain ⟨j, j1, j2⟩ := l_i hA5 rfl rfl (x5 _ _ v4)
    exact l_next (g := true) ih [0, 1, 2, 3, 15, 5, 6, 7, 8, 9, 10, 11, 12, 13, 16] (by decide +kernel) (by decide +kernel) hA5 rfl hH5 rfl rfl rfl rfl j1 (x5 _ _ v7) (x5 _ _ v9) (x5 _ _ v11) (acc.feed j2 (by omega) (by omega)) (by omega) rfl rfl rfl (lR.fr ⟨hR4.1, x5 _ _ (hR.2.1), x5 _ _ (hR.2.2.1), x5 _ _ (hR.2.2.2.1), hR4.2.2.2.2⟩ hH4 hF5 hP5 (nExt.refl ν5) stW_nil rW_nil)
  · intro N4 ρ4 ν4 v h4 u4 n4 x4 hA4 hH4 hF4 hP4 V2
    obtain ⟨nd, rd⟩ := lYd1_f_608n
    obtain ⟨r, hr⟩ : ∃ r : Int32, v = .int r := by
      first
        | (obtain ⟨r, h0, hr, -⟩ := V2; cases hr; exact ⟨r, rfl⟩)
        | (obtain ⟨r, hr, -⟩ := V2; cases hr; exact ⟨r, rfl⟩)
    subst hr
    have b7 : (h4.length : Int) - h3.length ≤ 0 := Int.le_trans (hA4.cost (by decide +kernel)).1 (by decide +kernel)
    have b8 : (u4 : Int) - u3 ≤ 0 := Int.le_trans (hA4.cost (by decide +kernel)).2 (by decide +kernel)
    have z1 := ((by
    obtain ⟨y1, y2, y3, y4⟩ := sum_feed t1 t3 fm3 hl1 hl2 hl3 V1 hE V2
    exact ⟨⟨⟨y1, qAR.fr3 (hR1.2.2.2.2.2.1.2.1) hR1.2.2.2.2.1 hR1.1 hH1 hF2 (by decide +kernel) hS2 hRo2 hH2 hF3 hS3 (hRo2.pre hP3) hH3 hF4 (by decide +kernel), qHO.fr3 (hR1.2.2.2.2.2.1.2.2.1) hR1.2.2.2.2.1 hR1.1 hH1 hF2 (by decide +kernel) hS2 hRo2 hH2 hF3 hS3 (hRo2.pre hP3) hH3 hF4 (by decide +kernel), qEX.fr3 (hR1.2.2.2.2.2.1.2.2.2) hR1.2.2.2.2.1 hR1.1 hH1 hF2 (by decide +kernel) hS2 hRo2 hH2 hF3 hS3 (hRo2.pre hP3) hH3 hF4 (by decide +kernel)⟩, ⟨qRFu.fr3 (hR1.2.2.2.2.2.2.1.1) hR1.2.2.2.2.1 hR1.1 hH1 hF2 (by decide +kernel) hS2 hRo2 hH2 hF3 hS3 (hRo2.pre hP3) hH3 hF4 (by decide +kernel), qRCs.fr3 (hR1.2.2.2.2.2.2.1.2.1) hR1.2.2.2.2.1 hR1.1 hH1 hF2 (by decide +kernel) hS2 hRo2 hH2 hF3 hS3 (hRo2.pre hP3) hH3 hF4 (by decide +kernel), qVd.fr3 (hR1.2.2.2.2.2.2.1.2.2) hR1.2.2.2.2.1 hR1.1 hH1 hF2 (by decide +kernel) hS2 hRo2 hH2 hF3 hS3 (hRo2.pre hP3) hH3 hF4 (by decide +kernel)⟩, ⟨Rw.fr3 (hR1.2.2.2.2.2.2.2.1.1) hR1.2.2.2.2.1 hR1.1 hH1 hF2 (by decide +kernel) hS2 hRo2 hH2 hF3 hS3 (hRo2.pre hP3) hH3 hF4 (by decide +kernel), qSm.fr3T (hR1.2.2.2.2.2.2.2.1.2.1) hR1.2.2.2.2.1 hR1.1 hH1 hF2 (by decide +kernel) hS2 hRo2 hH2 hF3 hS3 (hRo2.pre hP3) hH3 hF4 (by decide +kernel), qSm.fr3Y (hR1.2.2.2.2.2.2.2.1.2.2) hR1.2.2.2.2.1 hR1.1 hH1 hF2 (by decide +kernel) hS2 hRo2 hH2 hF3 hS3 (hRo2.pre hP3) hH3 hF4 (by decide +kernel)⟩, qDz.fr3 (hR1.2.2.2.2.2.2.2.2.1) hR1.2.2.2.2.1 hR1.1 hH1 hF2 (by decide +kernel) hS2 hRo2 hH2 hF3 hS3 (hRo2.pre hP3) hH3 hF4 (by decide +kernel), qRv.fr3 (hR1.2.2.2.2.2.2.2.2.2) hR1.2.2.2.2.1 hR1.1 hH1 hF2 (by decide +kernel) hS2 hRo2 hH2 hF3 hS3 (hRo2.pre hP3) hH3 hF4 (by decide +kernel)⟩, trivial⟩ : qAll h4 ∧ True)).1
    have hR4 : lR ρ4 ν4 h4 := ⟨(hRo2.pre hP3).pre hP4, x4 _ _ (x3 _ _ (x2 _ _ hR1.2.1)), x4 _ _ (x3 _ _ (x2 _ _ hR1.2.2.1)), x4 _ _ (x3 _ _ (x2 _ _ hR1.2.2.2.1)), hS3.fr (hRo2.pre hP3) hF4 stW_X15_feed_Lf, z1⟩
    have x14 : nExt ν ν4 := x1.trans (x2.trans (x3.trans x4))
    have hA4 := hA4.reb rd
    show zE zrx zi 57 243 631 lv3 _ h4 u4 lKK
    refine seg wT_ok lC_f_ok 3000 lY3_f_608_1 (Nat.le_refl _) x14 hlen hA4 rfl rfl hH4 (by omega) (by omega) ?_
    intro x hx N5 ρ5 ν5 lv5 st5 h5 u5 x5 hA5 hH5 hF5 hP5
    rw [List.mem_singleton.mp hx] at hA5 ⊢
    clear hx x
    dsimp only at hA5 ⊢
    have b9 : (h5.length : Int) - h4.length ≤ 0 := Int.le_trans (hA5.cost (by decide +kernel)).1 (by decide +kernel)
    have c1 : (u5 : Int) - u4 ≤ 0 := Int.le_trans (hA5.cost (by decide +kernel)).2 (by decide +kernel)
    obtain ⟨j, j1, j2⟩ := l_i hA5 rfl rfl (x5 _ _ v4)
    exact l_next (g := true) ih [0, 1, 2, 3, 15, 5, 6, 7, 8, 9, 10, 11, 12, 13, 14] (by decide +kernel) (by decide +kernel) hA5 rfl hH5 rfl rfl rfl rfl j1 (x5 _ _ v7) (x5 _ _ v9) (x5 _ _ v11) (acc.dear j2 (by omega) (by omega) true (fun z => z)) (by omega) rfl rfl rfl (lR.fr ⟨hR4.1, x5 _ _ (hR.2.1), x5 _ _ (hR.2.2.1), x5 _ _ (hR.2.2.2.1), hR4.2.2.2.2⟩ hH4 hF5 hP5 (nExt.refl ν5) stW_nil rW_nil)
def lYa_f_636 : sS := ([(3, 0, 0), (3, 8, 0), (3, 40, 0), (3, 36, 0), (0, 0, 4088), (0, 8, 4096), (3, 45, 0), (0, 0, 40), (3, 48, 0), (0, 0, 24), (3, 51, 0), (0, 0, 24), (0, 0, 4088), (0, 0, 4088), (3, 56, 0)], [(0, 0), (1, 1), (2, 2), (3, 3), (4, 4)], [3, 1], [(0, 4, 5, 0, -8), (3, 0, 5, 0, 0), (2, 2, 7, 6, 0), (2, 6, 2, 7, 0), (2, 2, 8, 8, 0), (2, 8, 2, 9, 0), (2, 2, 9, 10, 0), (2, 10, 2, 11, 0), (2, 1, 1, 12, 0), (2, 2, 3, 13, 0), (0, 12, 13, 0, 0), (0, 13, 12, 0, 0), (2, 2, 10, 14, 0), (0, 12, 4, 0, 0), (0, 13, 4, 0, 0)], 0, 0, [])
def lYb_f_636 : sS := vZ (cvS zi lYa_f_636 k_L_write (cx1 k_L_write))
def lYc_f_636 : sS := ([(3, 0, 0), (3, 8, 0), (3, 40, 0), (3, 36, 0), (0, 0, 4088), (0, 8, 4096), (3, 45, 0), (0, 0, 40), (3, 48, 0), (0, 0, 24), (3, 51, 0), (0, 0, 24), (0, 0, 4088), (0, 0, 4088), (3, 56, 0), (0, 0, 1)], [(5, 15), (0, 0), (1, 1), (2, 2), (3, 3), (4, 4)], [2], [(0, 4, 5, 0, -8), (3, 0, 5, 0, 0), (2, 2, 7, 6, 0), (2, 6, 2, 7, 0), (2, 2, 8, 8, 0), (2, 8, 2, 9, 0), (2, 2, 9, 10, 0), (2, 10, 2, 11, 0), (2, 1, 1, 12, 0), (2, 2, 3, 13, 0), (0, 12, 13, 0, 0), (0, 13, 12, 0, 0), (2, 2, 10, 14, 0), (0, 12, 4, 0, 0), (0, 13, 4, 0, 0)], 0, 0, [])
theorem lY1_f_636 : chk zrx zi wT (wRo wSites_15) (wRo wTags_15) lC_f [] 0 0 15 3000 false [(638, lYa_f_636, [])] none 57 243 636 (vZ lM_f) (fun _ _ => false) = true := by decide +kernel
theorem lY2_f_636 : chk zrx zi wT (wRo wSites_15) (wRo wTags_15) lC_f [] 0 0 16 3000 false [(644, lYc_f_636, [])] none 57 243 641 lYb_f_636 (fun _ _ => false) = true := by decide +kernel
theorem lV1_f_636 : cvOk zrx zi wT 243 638 56 lYa_f_636 k_L_write = true := by decide +kernel
theorem lV2_f_636 : cvOk zrx zi wT 243 644 56 lYc_f_636 k_X15_write_Lf = true := by decide +kernel
theorem lYn_f_636 : lYb_f_636.1.length = 16 := by decide +kernel
theorem lYr_f_636 : (vZ lM_f).2.2.2.1.all (fun f => !(f.1 == 7)) = true ∧ lYa_f_636.2.2.2.1.all (fun f => !(f.1 == 7)) = true ∧ (cvS zi lYa_f_636 k_L_write (cx1 k_L_write)).2.2.2.1.all (fun f => !(f.1 == 7)) = true ∧ lYc_f_636.2.2.2.1.all (fun f => !(f.1 == 7)) = true := by decide +kernel
def lYd0_f_636 : sS := vZ (cvS zi lYc_f_636 k_X15_write_Lf (cxi k_X15_write_Lf 0))
theorem lYd0_f_636n : lYd0_f_636.1.length = 22 ∧ (cvS zi lYc_f_636 k_X15_write_Lf (cxi k_X15_write_Lf 0)).2.2.2.1.all (fun f => !(f.1 == 7)) = true := by decide +kernel
theorem lY3_f_636_0 : chk zrx zi wT (wRo wSites_15) (wRo wTags_15) lC_f [] 0 0 15 3000 false [(27, lT_fzw, [])] none 57 243 647 lYd0_f_636 (fun _ _ => false) = true := by decide +kernel
def lYd1_f_636 : sS := vZ (cvS zi lYc_f_636 k_X15_write_Lf (cxi k_X15_write_Lf 1))
theorem lYd1_f_636n : lYd1_f_636.1.length = 21 ∧ (cvS zi lYc_f_636 k_X15_write_Lf (cxi k_X15_write_Lf 1)).2.2.2.1.all (fun f => !(f.1 == 7)) = true := by decide +kernel
theorem lY3_f_636_1 : chk zrx zi wT (wRo wSites_15) (wRo wTags_15) lC_f [] 0 0 15 3000 false [(27, lT_fze, [])] none 57 243 647 lYd1_f_636 (fun _ _ => false) = true := by decide +kernel
def lYd2_f_636 : sS := vZ (cvS zi lYc_f_636 k_X15_write_Lf (cxi k_X15_write_Lf 2))
theorem lYd2_f_636n : lYd2_f_636.1.length = 18 ∧ (cvS zi lYc_f_636 k_X15_write_Lf (cxi k_X15_write_Lf 2)).2.2.2.1.all (fun f => !(f.1 == 7)) = true := by decide +kernel
theorem lY3_f_636_2 : chk zrx zi wT (wRo wSites_15) (wRo wTags_15) lC_f [] 0 0 15 3000 false [(27, lT_fza, [])] none 57 243 647 lYd2_f_636 (fun _ _ => false) = true := by decide +kernel
set_option maxRecDepth 20000 in
theorem lA_f_636 {n : Nat} (ih : lIH n) {hb ub : Nat} {N : Int} {ρ : List Nat} {ν : List Value} {lv : List (Nat × Value)} {st : List Value} {h : List zC} {u : Nat} {i R C A : Int32} {F : Int} (hA : gA hb ub ρ ν lM_f lv st h u) (hH : tHeap wT N ρ h) (v4 : ν[4]? = some (.int i)) (v7 : ν[7]? = some (.int R)) (v9 : ν[9]? = some (.int C)) (v11 : ν[11]? = some (.int A))
    (i4 : i.toInt ≤ 4096) (acc : lAcc true hb ub i.toInt R.toInt C.toInt A.toInt F) (rm1 : (ub : Int) + 17920 ≤ zSN) (rm2 : (hb : Int) + 1152 ≤ zCM) (hn : 4104 - i.toInt ≤ (n + 1 : Nat)) (hR : lR ρ ν h) : zE zrx zi 57 243 636 lv st h u lKK := by
  obtain ⟨dl1, dl2, dl3, dl4⟩ := lD_lo R.toInt C.toInt A.toInt
  obtain ⟨r0, ra, rb, rc⟩ := lYr_f_636
  have q0 : (h.length : Int) - hb ≤ 0 := hA.2.2.2.2.1
  have q1 : (u : Int) - ub ≤ 0 := hA.2.2.2.2.2
  have hlen : ν.length ≤ 15 := by
    rw [← hA.1.1]
    exact Nat.le_of_eq rfl
  refine seg wT_ok lC_f_ok 3000 lY1_f_636 (Nat.le_refl _) (nExt.refl ν) hlen (hA.reb r0) rfl rfl hH (by omega) (by omega) ?_
  intro x hx N1 ρ1 ν1 lv1 st1 h1 u1 x1 hA1 hH1 hF1 hP1
  rw [List.mem_singleton.mp hx] at hA1 ⊢
  clear hx x
  dsimp only at hA1 ⊢
  have hR1 := hR.fr hH hF1 hP1 x1 stW_nil rW_nil
  have b1 : (h1.length : Int) - h.length ≤ 0 := Int.le_trans (hA1.cost (by decide +kernel)).1 (by decide +kernel)
  have b2 : (u1 : Int) - u ≤ 0 := Int.le_trans (hA1.cost (by decide +kernel)).2 (by decide +kernel)
  have hT : gSt ν1 [3, 1] st1 := hA1.2.2.1
  obtain ⟨w0, sa0, ea0, o0, ha0⟩ := hT.inv
  subst ea0
  rw [hR1.2.2.2.1] at o0
  cases o0
  obtain ⟨w1, sa1, ea1, o1, ha1⟩ := ha0.inv
  subst ea1
  rw [hR1.2.1] at o1
  cases o1
  cases ha1.nil
  obtain ⟨T, L, fs, fa, fbd, t1, t3, fm1⟩ := hR1.2.2.2.2.2.1.1
  obtain ⟨cnt, el, c0, c2, c1, cel, h0c, h24, -⟩ := id (hR1.2.2.2.2.2.1.2.1)
  obtain ⟨dd, d1, d2, d3⟩ := id (hR1.2.2.2.2.2.2.2.2.1)
  have t2 : L ≤ 60 := fm1.l60
  refine call_val con_L_write vr_243_638 lV1_f_636 rfl rfl (hA1.reb ra) hH1 (by have : k_L_write.2.2.2.2.1 = 3 := rfl; omega) (by have : k_L_write.2.2.2.2.2.1 = 15 := rfl; omega) rfl (fun n => C_Lwrite n  h1 u1 hR1.2.2.2.2.1 h0c h24 t1 t2 t3 c0 (clause_at (hR1.2.2.2.2.2.1.2.1) c0)) ?_
  intro N2 ρ2 ν2 v h2 u2 n2 x2 hA2 hH2 hF2 hP2 V1
  obtain ⟨k, hk, V1⟩ := V1
  cases hk
  have V1 : Q_Lwrite T L cnt  h1 (.inl (some (.int k))) h2 u2 := ⟨k, rfl, V1⟩
  have b3 : (h2.length : Int) - h1.length ≤ 3 := Int.le_trans (hA2.cost (by decide +kernel)).1 (by decide +kernel)
  have b4 : (u2 : Int) - u1 ≤ 15 := Int.le_trans (hA2.cost (by decide +kernel)).2 (by decide +kernel)
  have hTk : ν2[15]? = some (.int k) := gSt_hd hA2.2.2.1 (by decide +kernel)
  have hlen2 : ν2.length ≤ 16 := by
    rw [← hA2.1.1]
    exact Nat.le_of_eq lYn_f_636
  have hS2 : Stc h2 := hR1.2.2.2.2.1.fr hR1.1 hF2 stW_L_write
  have hRo2 : Ro ρ2 := hR1.1.pre hP2
  show zE zrx zi 57 243 641 lv1 _ h2 u2 lKK
  refine seg wT_ok lC_f_ok 3000 lY2_f_636 (Nat.le_refl _) (nExt.refl ν2) hlen2 (hA2.reb rb) rfl rfl hH2 (by omega) (by omega) ?_
  intro x hx N3 ρ3 ν3 lv3 st3 h3 u3 x3 hA3 hH3 hF3 hP3
  rw [List.mem_singleton.mp hx] at hA3 ⊢
  clear hx x
  dsimp only at hA3 ⊢
  have hS3 : Stc h3 := hS2.fr hRo2 hF3 stW_nil
  have b5 : (h3.length : Int) - h2.length ≤ 0 := Int.le_trans (hA3.cost (by decide +kernel)).1 (by decide +kernel)
  have b6 : (u3 : Int) - u2 ≤ 0 := Int.le_trans (hA3.cost (by decide +kernel)).2 (by decide +kernel)
  have hE : ∀ p, p < h2.length → ∀ k, gF h3 p k = gF h2 p k := fun p hp k => gFr_F0 hF3 hH2.1 hp k
  have hT : gSt ν3 [2] st3 := hA3.2.2.1
  obtain ⟨w0, sb0, eb0, c0, hb0⟩ := hT.inv
  subst eb0
  rw [x3 _ _ (x2 _ _ hR1.2.2.1)] at c0
  cases c0
  cases hb0.nil
  have hl1 := hR1.2.2.2.2.1.1
  have hl2 := gFr_len hF2
  have hl3 := gFr_len hF3
  have ro3 : Ro ρ3 := hRo2.pre hP3
  have m2 := (hE 225 (by omega) 2).trans ((gFr_F hF2 (hR1.1 225 51 (by decide +kernel)) (by decide +kernel) (by omega)).trans c2)
  have m1 := (hE 225 (by omega) 1).trans ((gFr_F hF2 (hR1.1 225 51 (by decide +kernel)) (by decide +kernel) (by omega)).trans c1)
  obtain ⟨⟨l, l1, l2⟩, l3, l4, l5, l6, l7, l8⟩ := al_at hH3 ro3 m1 m2
  have l213 : ¬ el = 213 := by omega
  have hA7 : ∀ k, k < cnt.toNatClampNeg → ∃ A : Nat, gF h3 el k = some (.ref A) ∧ 239 ≤ A := fun k hk => by
    obtain ⟨e, e1, e2⟩ := l8 k hk
    exact ⟨e, e1, A_new ro3 e2⟩
  have fm2 := fm1.fr hR1.2.2.2.2.1.1 hR1.1 hH1 hF2 (by decide +kernel)
  have fm3 := fm2.fr hS2.1 hRo2 hH2 hF3 (by decide)
  obtain ⟨fb, sb3⟩ := fm3.sb hH3 ro3
  refine call_valn con_X15_write_Lf vr_243_644 lV2_f_636 (by decide +kernel) (hA3.reb rc) hH3 (by have : k_X15_write_Lf.2.2.2.2.1 = 5 := rfl; omega) (by have : k_X15_write_Lf.2.2.2.2.2.1 = 64 := rfl; omega) rfl (fun n => C_mwrite n  h3 u3 hS3 sb3 fm3.2.1 fm3.2.2.2.1 fm3.2.2.2.2 m1 m2 l1 l2 l3 h0c l213) ?_
  refine ends3 rfl ?_ ?_ ?_
  · intro N4 ρ4 ν4 v h4 u4 n4 x4 hA4 hH4 hF4 hP4 V2
    obtain ⟨nd, rd⟩ := lYd0_f_636n
    obtain ⟨r, hr⟩ : ∃ r : Int32, v = .int r := by
      first
        | (obtain ⟨r, h0, hr, -⟩ := V2; cases hr; exact ⟨r, rfl⟩)
        | (obtain ⟨r, hr, -⟩ := V2; cases hr; exact ⟨r, rfl⟩)
    subst hr
    have b7 : (h4.length : Int) - h3.length ≤ 5 := Int.le_trans (hA4.cost (by decide +kernel)).1 (by decide +kernel)
    have b8 : (u4 : Int) - u3 ≤ 64 := Int.le_trans (hA4.cost (by decide +kernel)).2 (by decide +kernel)
    have z1 := ((by
    obtain ⟨⟨y1, y5⟩, y2, y3, y4⟩ := sum_write (i := 0) hl1 hH1 hR1.1 (hR1.2.2.2.2.2.1.2.1) c0 c1 h0c h24 t2 hl2 hl3 t1 t3 fm3 V1 hE V2
    exact ⟨⟨⟨y1, y5, qHO.fr3 (hR1.2.2.2.2.2.1.2.2.1) hR1.2.2.2.2.1 hR1.1 hH1 hF2 (by decide +kernel) hS2 hRo2 hH2 hF3 hS3 (hRo2.pre hP3) hH3 hF4 (by decide +kernel), (exX_write (hR1.2.2.2.2.2.1.2.2.2) (hR1.2.2.2.2.2.1.2.1) hl1 c0 h0c V1).fr2 hS2 hRo2 hH2 hF3 hS3 (hRo2.pre hP3) hH3 hF4 (by decide +kernel)⟩, ⟨qRFu.fr3 (hR1.2.2.2.2.2.2.1.1) hR1.2.2.2.2.1 hR1.1 hH1 hF2 (by decide +kernel) hS2 hRo2 hH2 hF3 hS3 (hRo2.pre hP3) hH3 hF4 (by decide +kernel), qRCs.fr3 (hR1.2.2.2.2.2.2.1.2.1) hR1.2.2.2.2.1 hR1.1 hH1 hF2 (by decide +kernel) hS2 hRo2 hH2 hF3 hS3 (hRo2.pre hP3) hH3 hF4 (by decide +kernel), qVd.fr3 (hR1.2.2.2.2.2.2.1.2.2) hR1.2.2.2.2.1 hR1.1 hH1 hF2 (by decide +kernel) hS2 hRo2 hH2 hF3 hS3 (hRo2.pre hP3) hH3 hF4 (by decide +kernel)⟩, ⟨Rw.fr3 (hR1.2.2.2.2.2.2.2.1.1) hR1.2.2.2.2.1 hR1.1 hH1 hF2 (by decide +kernel) hS2 hRo2 hH2 hF3 hS3 (hRo2.pre hP3) hH3 hF4 (by decide +kernel), qSm.fr3T (hR1.2.2.2.2.2.2.2.1.2.1) hR1.2.2.2.2.1 hR1.1 hH1 hF2 (by decide +kernel) hS2 hRo2 hH2 hF3 hS3 (hRo2.pre hP3) hH3 hF4 (by decide +kernel), qSm.fr3Y (hR1.2.2.2.2.2.2.2.1.2.2) hR1.2.2.2.2.1 hR1.1 hH1 hF2 (by decide +kernel) hS2 hRo2 hH2 hF3 hS3 (hRo2.pre hP3) hH3 hF4 (by decide +kernel)⟩, qDz.fr3 (hR1.2.2.2.2.2.2.2.2.1) hR1.2.2.2.2.1 hR1.1 hH1 hF2 (by decide +kernel) hS2 hRo2 hH2 hF3 hS3 (hRo2.pre hP3) hH3 hF4 (by decide +kernel), qRv.fr3 (hR1.2.2.2.2.2.2.2.2.2) hR1.2.2.2.2.1 hR1.1 hH1 hF2 (by decide +kernel) hS2 hRo2 hH2 hF3 hS3 (hRo2.pre hP3) hH3 hF4 (by decide +kernel)⟩, trivial⟩ : qAll h4 ∧ True)).1
    have hR4 : lR ρ4 ν4 h4 := ⟨(hRo2.pre hP3).pre hP4, x4 _ _ (x3 _ _ (x2 _ _ hR1.2.1)), x4 _ _ (x3 _ _ (x2 _ _ hR1.2.2.1)), x4 _ _ (x3 _ _ (x2 _ _ hR1.2.2.2.1)), hS3.fr (hRo2.pre hP3) hF4 stW_X15_write_Lf, z1⟩
    have x14 : nExt ν ν4 := x1.trans (x2.trans (x3.trans x4))
    have hA4 := hA4.reb rd
    show zE zrx zi 57 243 647 lv3 _ h4 u4 lKK
    refine seg wT_ok lC_f_ok 3000 lY3_f_636_0 (Nat.le_refl _) x14 hlen hA4 rfl rfl hH4 (by omega) (by omega) ?_
    intro x hx N5 ρ5 ν5 lv5 st5 h5 u5 x5 hA5 hH5 hF5 hP5
    rw [List.mem_singleton.mp hx] at hA5 ⊢
    clear hx x
    dsimp only at hA5 ⊢
    have b9 : (h5.length : Int) - h4.length ≤ 0 := Int.le_trans (hA5.cost (by decide +kernel)).1 (by decide +kernel)
    have c1 : (u5 : Int) - u4 ≤ 0 := Int.le_trans (hA5.cost (by decide +kernel)).2 (by decide +kernel)
    obtain ⟨j, j1, j2⟩ := l_i hA5 rfl rfl (x5 _ _ v4)
    obtain ⟨y, y1, y2⟩ := l_one hA5 rfl rfl (x5 _ _ v11)
    exact l_next (g := false) ih [0, 1, 2, 3, 15, 5, 6, 7, 8, 9, 10, 16, 12, 13, 17] (by decide +kernel) (by decide +kernel) hA5 rfl hH5 rfl rfl rfl rfl j1 (x5 _ _ v7) (x5 _ _ v9) y1 (acc.grow (g := false) j2 (by omega) (by omega) (by omega) (by omega) (by simp; omega) (by omega) (by omega)) (by omega) rfl rfl rfl (lR.fr ⟨hR4.1, x5 _ _ (hR.2.1), x5 _ _ (hR.2.2.1), x5 _ _ (hR.2.2.2.1), hR4.2.2.2.2⟩ hH4 hF5 hP5 (nExt.refl ν5) stW_nil rW_nil)
  · intro N4 ρ4 ν4 v h4 u4 n4 x4 hA4 hH4 hF4 hP4 V2
    obtain ⟨nd, rd⟩ := lYd1_f_636n
    obtain ⟨r, hr⟩ : ∃ r : Int32, v = .int r := by
      first
        | (obtain ⟨r, h0, hr, -⟩ := V2; cases hr; exact ⟨r, rfl⟩)
        | (obtain ⟨r, hr, -⟩ := V2; cases hr; exact ⟨r, rfl⟩)
    subst hr
    have b7 : (h4.length : Int) - h3.length ≤ 4 := Int.le_trans (hA4.cost (by decide +kernel)).1 (by decide +kernel)
    have b8 : (u4 : Int) - u3 ≤ 30 := Int.le_trans (hA4.cost (by decide +kernel)).2 (by decide +kernel)
    have z1 := ((by
    obtain ⟨⟨y1, y5⟩, y2, y3, y4⟩ := sum_write (i := 0) hl1 hH1 hR1.1 (hR1.2.2.2.2.2.1.2.1) c0 c1 h0c h24 t2 hl2 hl3 t1 t3 fm3 V1 hE V2
    exact ⟨⟨⟨y1, y5, qHO.fr3 (hR1.2.2.2.2.2.1.2.2.1) hR1.2.2.2.2.1 hR1.1 hH1 hF2 (by decide +kernel) hS2 hRo2 hH2 hF3 hS3 (hRo2.pre hP3) hH3 hF4 (by decide +kernel), (exX_write (hR1.2.2.2.2.2.1.2.2.2) (hR1.2.2.2.2.2.1.2.1) hl1 c0 h0c V1).fr2 hS2 hRo2 hH2 hF3 hS3 (hRo2.pre hP3) hH3 hF4 (by decide +kernel)⟩, ⟨qRFu.fr3 (hR1.2.2.2.2.2.2.1.1) hR1.2.2.2.2.1 hR1.1 hH1 hF2 (by decide +kernel) hS2 hRo2 hH2 hF3 hS3 (hRo2.pre hP3) hH3 hF4 (by decide +kernel), qRCs.fr3 (hR1.2.2.2.2.2.2.1.2.1) hR1.2.2.2.2.1 hR1.1 hH1 hF2 (by decide +kernel) hS2 hRo2 hH2 hF3 hS3 (hRo2.pre hP3) hH3 hF4 (by decide +kernel), qVd.fr3 (hR1.2.2.2.2.2.2.1.2.2) hR1.2.2.2.2.1 hR1.1 hH1 hF2 (by decide +kernel) hS2 hRo2 hH2 hF3 hS3 (hRo2.pre hP3) hH3 hF4 (by decide +kernel)⟩, ⟨Rw.fr3 (hR1.2.2.2.2.2.2.2.1.1) hR1.2.2.2.2.1 hR1.1 hH1 hF2 (by decide +kernel) hS2 hRo2 hH2 hF3 hS3 (hRo2.pre hP3) hH3 hF4 (by decide +kernel), qSm.fr3T (hR1.2.2.2.2.2.2.2.1.2.1) hR1.2.2.2.2.1 hR1.1 hH1 hF2 (by decide +kernel) hS2 hRo2 hH2 hF3 hS3 (hRo2.pre hP3) hH3 hF4 (by decide +kernel), qSm.fr3Y (hR1.2.2.2.2.2.2.2.1.2.2) hR1.2.2.2.2.1 hR1.1 hH1 hF2 (by decide +kernel) hS2 hRo2 hH2 hF3 hS3 (hRo2.pre hP3) hH3 hF4 (by decide +kernel)⟩, qDz.fr3 (hR1.2.2.2.2.2.2.2.2.1) hR1.2.2.2.2.1 hR1.1 hH1 hF2 (by decide +kernel) hS2 hRo2 hH2 hF3 hS3 (hRo2.pre hP3) hH3 hF4 (by decide +kernel), qRv.fr3 (hR1.2.2.2.2.2.2.2.2.2) hR1.2.2.2.2.1 hR1.1 hH1 hF2 (by decide +kernel) hS2 hRo2 hH2 hF3 hS3 (hRo2.pre hP3) hH3 hF4 (by decide +kernel)⟩, trivial⟩ : qAll h4 ∧ True)).1
    have hR4 : lR ρ4 ν4 h4 := ⟨(hRo2.pre hP3).pre hP4, x4 _ _ (x3 _ _ (x2 _ _ hR1.2.1)), x4 _ _ (x3 _ _ (x2 _ _ hR1.2.2.1)), x4 _ _ (x3 _ _ (x2 _ _ hR1.2.2.2.1)), hS3.fr (hRo2.pre hP3) hF4 stW_X15_write_Lf, z1⟩
    have x14 : nExt ν ν4 := x1.trans (x2.trans (x3.trans x4))
    have hA4 := hA4.reb rd
    show zE zrx zi 57 243 647 lv3 _ h4 u4 lKK
    refine seg wT_ok lC_f_ok 3000 lY3_f_636_1 (Nat.le_refl _) x14 hlen hA4 rfl rfl hH4 (by omega) (by omega) ?_
    intro x hx N5 ρ5 ν5 lv5 st5 h5 u5 x5 hA5 hH5 hF5 hP5
    rw [List.mem_singleton.mp hx] at hA5 ⊢
    clear hx x
    dsimp only at hA5 ⊢
    have b9 : (h5.length : Int) - h4.length ≤ 0 := Int.le_trans (hA5.cost (by decide +kernel)).1 (by decide +kernel)
    have c1 : (u5 : Int) - u4 ≤ 0 := Int.le_trans (hA5.cost (by decide +kernel)).2 (by decide +kernel)
    obtain ⟨j, j1, j2⟩ := l_i hA5 rfl rfl (x5 _ _ v4)
    exact l_next (g := false) ih [0, 1, 2, 3, 15, 5, 6, 7, 8, 9, 10, 11, 12, 13, 16] (by decide +kernel) (by decide +kernel) hA5 rfl hH5 rfl rfl rfl rfl j1 (x5 _ _ v7) (x5 _ _ v9) (x5 _ _ v11) (acc.dear j2 (by omega) (by omega) false (fun z => by cases z)) (by omega) rfl rfl rfl (lR.fr ⟨hR4.1, x5 _ _ (hR.2.1), x5 _ _ (hR.2.2.1), x5 _ _ (hR.2.2.2.1), hR4.2.2.2.2⟩ hH4 hF5 hP5 (nExt.refl ν5) stW_nil rW_nil)
  · intro N4 ρ4 ν4 v h4 u4 n4 x4 hA4 hH4 hF4 hP4 V2
    obtain ⟨nd, rd⟩ := lYd2_f_636n
    obtain ⟨r, hr⟩ : ∃ r : Int32, v = .int r := by
      first
        | (obtain ⟨r, h0, hr, -⟩ := V2; cases hr; exact ⟨r, rfl⟩)
        | (obtain ⟨r, hr, -⟩ := V2; cases hr; exact ⟨r, rfl⟩)
    subst hr
    have b7 : (h4.length : Int) - h3.length ≤ 0 := Int.le_trans (hA4.cost (by decide +kernel)).1 (by decide +kernel)
    have b8 : (u4 : Int) - u3 ≤ 0 := Int.le_trans (hA4.cost (by decide +kernel)).2 (by decide +kernel)
    have z1 := ((by
    obtain ⟨⟨y1, y5⟩, y2, y3, y4⟩ := sum_write (i := 0) hl1 hH1 hR1.1 (hR1.2.2.2.2.2.1.2.1) c0 c1 h0c h24 t2 hl2 hl3 t1 t3 fm3 V1 hE V2
    exact ⟨⟨⟨y1, y5, qHO.fr3 (hR1.2.2.2.2.2.1.2.2.1) hR1.2.2.2.2.1 hR1.1 hH1 hF2 (by decide +kernel) hS2 hRo2 hH2 hF3 hS3 (hRo2.pre hP3) hH3 hF4 (by decide +kernel), (exX_write (hR1.2.2.2.2.2.1.2.2.2) (hR1.2.2.2.2.2.1.2.1) hl1 c0 h0c V1).fr2 hS2 hRo2 hH2 hF3 hS3 (hRo2.pre hP3) hH3 hF4 (by decide +kernel)⟩, ⟨qRFu.fr3 (hR1.2.2.2.2.2.2.1.1) hR1.2.2.2.2.1 hR1.1 hH1 hF2 (by decide +kernel) hS2 hRo2 hH2 hF3 hS3 (hRo2.pre hP3) hH3 hF4 (by decide +kernel), qRCs.fr3 (hR1.2.2.2.2.2.2.1.2.1) hR1.2.2.2.2.1 hR1.1 hH1 hF2 (by decide +kernel) hS2 hRo2 hH2 hF3 hS3 (hRo2.pre hP3) hH3 hF4 (by decide +kernel), qVd.fr3 (hR1.2.2.2.2.2.2.1.2.2) hR1.2.2.2.2.1 hR1.1 hH1 hF2 (by decide +kernel) hS2 hRo2 hH2 hF3 hS3 (hRo2.pre hP3) hH3 hF4 (by decide +kernel)⟩, ⟨Rw.fr3 (hR1.2.2.2.2.2.2.2.1.1) hR1.2.2.2.2.1 hR1.1 hH1 hF2 (by decide +kernel) hS2 hRo2 hH2 hF3 hS3 (hRo2.pre hP3) hH3 hF4 (by decide +kernel), qSm.fr3T (hR1.2.2.2.2.2.2.2.1.2.1) hR1.2.2.2.2.1 hR1.1 hH1 hF2 (by decide +kernel) hS2 hRo2 hH2 hF3 hS3 (hRo2.pre hP3) hH3 hF4 (by decide +kernel), qSm.fr3Y (hR1.2.2.2.2.2.2.2.1.2.2) hR1.2.2.2.2.1 hR1.1 hH1 hF2 (by decide +kernel) hS2 hRo2 hH2 hF3 hS3 (hRo2.pre hP3) hH3 hF4 (by decide +kernel)⟩, qDz.fr3 (hR1.2.2.2.2.2.2.2.2.1) hR1.2.2.2.2.1 hR1.1 hH1 hF2 (by decide +kernel) hS2 hRo2 hH2 hF3 hS3 (hRo2.pre hP3) hH3 hF4 (by decide +kernel), qRv.fr3 (hR1.2.2.2.2.2.2.2.2.2) hR1.2.2.2.2.1 hR1.1 hH1 hF2 (by decide +kernel) hS2 hRo2 hH2 hF3 hS3 (hRo2.pre hP3) hH3 hF4 (by decide +kernel)⟩, trivial⟩ : qAll h4 ∧ True)).1
    have hR4 : lR ρ4 ν4 h4 := ⟨(hRo2.pre hP3).pre hP4, x4 _ _ (x3 _ _ (x2 _ _ hR1.2.1)), x4 _ _ (x3 _ _ (x2 _ _ hR1.2.2.1)), x4 _ _ (x3 _ _ (x2 _ _ hR1.2.2.2.1)), hS3.fr (hRo2.pre hP3) hF4 stW_X15_write_Lf, z1⟩
    have x14 : nExt ν ν4 := x1.trans (x2.trans (x3.trans x4))
    have hA4 := hA4.reb rd
    show zE zrx zi 57 243 647 lv3 _ h4 u4 lKK
    refine seg wT_ok lC_f_ok 3000 lY3_f_636_2 (Nat.le_refl _) x14 hlen hA4 rfl rfl hH4 (by omega) (by omega) ?_
    intro x hx N5 ρ5 ν5 lv5 st5 h5 u5 x5 hA5 hH5 hF5 hP5
    rw [List.mem_singleton.mp hx] at hA5 ⊢
    clear hx x
    dsimp only at hA5 ⊢
    have b9 : (h5.length : Int) - h4.length ≤ 0 := Int.le_trans (hA5.cost (by decide +kernel)).1 (by decide +kernel)
    have c1 : (u5 : Int) - u4 ≤ 0 := Int.le_trans (hA5.cost (by decide +kernel)).2 (by decide +kernel)
    obtain ⟨j, j1, j2⟩ := l_i hA5 rfl rfl (x5 _ _ v4)
    exact l_next (g := true) ih [0, 1, 2, 3, 15, 5, 6, 7, 8, 9, 10, 11, 12, 13, 14] (by decide +kernel) (by decide +kernel) hA5 rfl hH5 rfl rfl rfl rfl j1 (x5 _ _ v7) (x5 _ _ v9) (x5 _ _ v11) (acc.dear j2 (by omega) (by omega) true (fun z => z)) (by omega) rfl rfl rfl (lR.fr ⟨hR4.1, x5 _ _ (hR.2.1), x5 _ _ (hR.2.2.1), x5 _ _ (hR.2.2.2.1), hR4.2.2.2.2⟩ hH4 hF5 hP5 (nExt.refl ν5) stW_nil rW_nil)
def lYa_f_652 : sS := ([(3, 0, 0), (3, 8, 0), (3, 40, 0), (3, 36, 0), (0, 0, 4088), (0, 8, 4096), (3, 45, 0), (0, 0, 40), (3, 48, 0), (0, 0, 24), (3, 51, 0), (0, 0, 24), (0, 0, 4088), (0, 0, 4088), (3, 56, 0), (0, 1, 1), (0, 1, 4089), (0, -2147483648, 2147483647)], [(0, 0), (1, 1), (2, 2), (3, 3), (4, 4)], [3, 17, 1], [(4, 0, 16, 17, 0), (0, 16, 4, 0, 1), (0, 4, 16, 0, -1), (0, 4, 5, 0, -8), (3, 0, 5, 0, 0), (2, 2, 7, 6, 0), (2, 6, 2, 7, 0), (2, 2, 8, 8, 0), (2, 8, 2, 9, 0), (2, 2, 9, 10, 0), (2, 10, 2, 11, 0), (2, 1, 1, 12, 0), (2, 2, 3, 13, 0), (0, 12, 13, 0, 0), (0, 13, 12, 0, 0), (2, 2, 10, 14, 0), (0, 12, 4, 0, 0), (0, 13, 4, 0, 0)], 0, 0, [])
def lYb_f_652 : sS := vZ (cvS zi lYa_f_652 k_L_amend (cx1 k_L_amend))
def lYc_f_652 : sS := ([(3, 0, 0), (3, 8, 0), (3, 40, 0), (3, 36, 0), (0, 0, 4088), (0, 8, 4096), (3, 45, 0), (0, 0, 40), (3, 48, 0), (0, 0, 24), (3, 51, 0), (0, 0, 24), (0, 0, 4088), (0, 0, 4088), (3, 56, 0), (0, 1, 1), (0, 1, 4089), (0, -2147483648, 2147483647), (0, 0, 2), (0, 1, 1)], [(5, 18), (0, 0), (1, 1), (2, 2), (3, 3), (4, 4)], [17, 2], [(4, 0, 16, 17, 0), (0, 16, 4, 0, 1), (0, 4, 16, 0, -1), (0, 4, 5, 0, -8), (3, 0, 5, 0, 0), (2, 2, 7, 6, 0), (2, 6, 2, 7, 0), (2, 2, 8, 8, 0), (2, 8, 2, 9, 0), (2, 2, 9, 10, 0), (2, 10, 2, 11, 0), (2, 1, 1, 12, 0), (2, 2, 3, 13, 0), (0, 12, 13, 0, 0), (0, 13, 12, 0, 0), (2, 2, 10, 14, 0), (0, 12, 4, 0, 0), (0, 13, 4, 0, 0)], 0, 0, [])
theorem lY1_f_652 : chk zrx zi wT (wRo wSites_15) (wRo wTags_15) lC_f [] 0 0 15 3000 false [(660, lYa_f_652, [])] none 57 243 652 (vZ lM_f) (fun _ _ => false) = true := by decide +kernel
theorem lY2_f_652 : chk zrx zi wT (wRo wSites_15) (wRo wTags_15) lC_f [] 0 0 19 3000 false [(672, lYc_f_652, [])] none 57 243 663 lYb_f_652 (fun _ _ => false) = true := by decide +kernel
theorem lV1_f_652 : cvOk zrx zi wT 243 660 56 lYa_f_652 k_L_amend = true := by decide +kernel
theorem lV2_f_652 : cvOk zrx zi wT 243 672 56 lYc_f_652 k_X15_amend_Lf = true := by decide +kernel
theorem lYn_f_652 : lYb_f_652.1.length = 19 := by decide +kernel
theorem lYr_f_652 : (vZ lM_f).2.2.2.1.all (fun f => !(f.1 == 7)) = true ∧ lYa_f_652.2.2.2.1.all (fun f => !(f.1 == 7)) = true ∧ (cvS zi lYa_f_652 k_L_amend (cx1 k_L_amend)).2.2.2.1.all (fun f => !(f.1 == 7)) = true ∧ lYc_f_652.2.2.2.1.all (fun f => !(f.1 == 7)) = true := by decide +kernel
def lYd0_f_652 : sS := vZ (cvS zi lYc_f_652 k_X15_amend_Lf (cxi k_X15_amend_Lf 0))
theorem lYd0_f_652n : lYd0_f_652.1.length = 25 ∧ (cvS zi lYc_f_652 k_X15_amend_Lf (cxi k_X15_amend_Lf 0)).2.2.2.1.all (fun f => !(f.1 == 7)) = true := by decide +kernel
theorem lY3_f_652_0 : chk zrx zi wT (wRo wSites_15) (wRo wTags_15) lC_f [] 0 0 15 3000 false [(27, lT_fze, [])] none 57 243 675 lYd0_f_652 (fun _ _ => false) = true := by decide +kernel
def lYd1_f_652 : sS := vZ (cvS zi lYc_f_652 k_X15_amend_Lf (cxi k_X15_amend_Lf 1))
theorem lYd1_f_652n : lYd1_f_652.1.length = 22 ∧ (cvS zi lYc_f_652 k_X15_amend_Lf (cxi k_X15_amend_Lf 1)).2.2.2.1.all (fun f => !(f.1 == 7)) = true := by decide +kernel
theorem lY3_f_652_1 : chk zrx zi wT (wRo wSites_15) (wRo wTags_15) lC_f [] 0 0 15 3000 false [(27, lT_fza, [])] none 57 243 675 lYd1_f_652 (fun _ _ => false) = true := by decide +kernel
set_option maxRecDepth 20000 in
theorem lA_f_652 {n : Nat} (ih : lIH n) {hb ub : Nat} {N : Int} {ρ : List Nat} {ν : List Value} {lv : List (Nat × Value)} {st : List Value} {h : List zC} {u : Nat} {i R C A : Int32} {F : Int} (hA : gA hb ub ρ ν lM_f lv st h u) (hH : tHeap wT N ρ h) (v4 : ν[4]? = some (.int i)) (v7 : ν[7]? = some (.int R)) (v9 : ν[9]? = some (.int C)) (v11 : ν[11]? = some (.int A))
    (i4 : i.toInt ≤ 4096) (acc : lAcc true hb ub i.toInt R.toInt C.toInt A.toInt F) (rm1 : (ub : Int) + 17920 ≤ zSN) (rm2 : (hb : Int) + 1152 ≤ zCM) (hn : 4104 - i.toInt ≤ (n + 1 : Nat)) (hR : lR ρ ν h) : zE zrx zi 57 243 652 lv st h u lKK := by
  obtain ⟨dl1, dl2, dl3, dl4⟩ := lD_lo R.toInt C.toInt A.toInt
  obtain ⟨r0, ra, rb, rc⟩ := lYr_f_652
  have q0 : (h.length : Int) - hb ≤ 0 := hA.2.2.2.2.1
  have q1 : (u : Int) - ub ≤ 0 := hA.2.2.2.2.2
  have hlen : ν.length ≤ 15 := by
    rw [← hA.1.1]
    exact Nat.le_of_eq rfl
  refine seg wT_ok lC_f_ok 3000 lY1_f_652 (Nat.le_refl _) (nExt.refl ν) hlen (hA.reb r0) rfl rfl hH (by omega) (by omega) ?_
  intro x hx N1 ρ1 ν1 lv1 st1 h1 u1 x1 hA1 hH1 hF1 hP1
  rw [List.mem_singleton.mp hx] at hA1 ⊢
  clear hx x
  dsimp only at hA1 ⊢
  have hR1 := hR.fr hH hF1 hP1 x1 stW_nil rW_nil
  have b1 : (h1.length : Int) - h.length ≤ 0 := Int.le_trans (hA1.cost (by decide +kernel)).1 (by decide +kernel)
  have b2 : (u1 : Int) - u ≤ 0 := Int.le_trans (hA1.cost (by decide +kernel)).2 (by decide +kernel)
  have hT : gSt ν1 [3, 17, 1] st1 := hA1.2.2.1
  obtain ⟨w0, sa0, ea0, o0, ha0⟩ := hT.inv
  subst ea0
  rw [hR1.2.2.2.1] at o0
  cases o0
  obtain ⟨w1, sa1, ea1, o1, ha1⟩ := ha0.inv
  subst ea1
  obtain ⟨p17, rfl, -⟩ := hA1.int o1 rfl
  obtain ⟨w2, sa2, ea2, o2, ha2⟩ := ha1.inv
  subst ea2
  rw [hR1.2.1] at o2
  cases o2
  cases ha2.nil
  obtain ⟨T, L, fs, fa, fbd, t1, t3, fm1⟩ := hR1.2.2.2.2.2.1.1
  obtain ⟨cnt, el, c0, c2, c1, cel, h0c, h24, -⟩ := id (hR1.2.2.2.2.2.1.2.1)
  obtain ⟨dd, d1, d2, d3⟩ := id (hR1.2.2.2.2.2.2.2.2.1)
  have t2 : L ≤ 60 := fm1.l60
  refine call_val con_L_amend vr_243_660 lV1_f_652 rfl rfl (hA1.reb ra) hH1 (by have : k_L_amend.2.2.2.2.1 = 3 := rfl; omega) (by have : k_L_amend.2.2.2.2.2.1 = 15 := rfl; omega) rfl (fun n => C_Lamend n p17 h1 u1 hR1.2.2.2.2.1 h0c h24 t1 t2 t3 c0 (clause_at (hR1.2.2.2.2.2.1.2.1) c0)) ?_
  intro N2 ρ2 ν2 v h2 u2 n2 x2 hA2 hH2 hF2 hP2 V1
  obtain ⟨k, hk, V1⟩ := V1
  cases hk
  have V1 : Q_Lamend T L cnt p17 h1 (.inl (some (.int k))) h2 u2 := ⟨k, rfl, V1⟩
  have b3 : (h2.length : Int) - h1.length ≤ 3 := Int.le_trans (hA2.cost (by decide +kernel)).1 (by decide +kernel)
  have b4 : (u2 : Int) - u1 ≤ 15 := Int.le_trans (hA2.cost (by decide +kernel)).2 (by decide +kernel)
  have hTk : ν2[18]? = some (.int k) := gSt_hd hA2.2.2.1 (by decide +kernel)
  have hlen2 : ν2.length ≤ 19 := by
    rw [← hA2.1.1]
    exact Nat.le_of_eq lYn_f_652
  have hS2 : Stc h2 := hR1.2.2.2.2.1.fr hR1.1 hF2 stW_L_amend
  have hRo2 : Ro ρ2 := hR1.1.pre hP2
  show zE zrx zi 57 243 663 lv1 _ h2 u2 lKK
  refine seg wT_ok lC_f_ok 3000 lY2_f_652 (Nat.le_refl _) (nExt.refl ν2) hlen2 (hA2.reb rb) rfl rfl hH2 (by omega) (by omega) ?_
  intro x hx N3 ρ3 ν3 lv3 st3 h3 u3 x3 hA3 hH3 hF3 hP3
  rw [List.mem_singleton.mp hx] at hA3 ⊢
  clear hx x
  dsimp only at hA3 ⊢
  have hS3 : Stc h3 := hS2.fr hRo2 hF3 stW_nil
  have b5 : (h3.length : Int) - h2.length ≤ 0 := Int.le_trans (hA3.cost (by decide +kernel)).1 (by decide +kernel)
  have b6 : (u3 : Int) - u2 ≤ 0 := Int.le_trans (hA3.cost (by decide +kernel)).2 (by decide +kernel)
  have hE : ∀ p, p < h2.length → ∀ k, gF h3 p k = gF h2 p k := fun p hp k => gFr_F0 hF3 hH2.1 hp k
  have hT : gSt ν3 [17, 2] st3 := hA3.2.2.1
  obtain ⟨w0, sb0, eb0, c0, hb0⟩ := hT.inv
  subst eb0
  rw [x3 _ _ (x2 _ _ o1)] at c0
  cases c0
  obtain ⟨w1, sb1, eb1, c1, hb1⟩ := hb0.inv
  subst eb1
  rw [x3 _ _ (x2 _ _ hR1.2.2.1)] at c1
  cases c1
  cases hb1.nil
  have hl1 := hR1.2.2.2.2.1.1
  have hl2 := gFr_len hF2
  have hl3 := gFr_len hF3
  have ro3 : Ro ρ3 := hRo2.pre hP3
  have m2 := (hE 225 (by omega) 2).trans ((gFr_F hF2 (hR1.1 225 51 (by decide +kernel)) (by decide +kernel) (by omega)).trans c2)
  have m1 := (hE 225 (by omega) 1).trans ((gFr_F hF2 (hR1.1 225 51 (by decide +kernel)) (by decide +kernel) (by omega)).trans c1)
  obtain ⟨⟨l, l1, l2⟩, l3, l4, l5, l6, l7, l8⟩ := al_at hH3 ro3 m1 m2
  have l213 : ¬ el = 213 := by omega
  have hA7 : ∀ k, k < cnt.toNatClampNeg → ∃ A : Nat, gF h3 el k = some (.ref A) ∧ 239 ≤ A := fun k hk => by
    obtain ⟨e, e1, e2⟩ := l8 k hk
    exact ⟨e, e1, A_new ro3 e2⟩
  have fm2 := fm1.fr hR1.2.2.2.2.1.1 hR1.1 hH1 hF2 (by decide +kernel)
  have fm3 := fm2.fr hS2.1 hRo2 hH2 hF3 (by decide)
  obtain ⟨fb, sb3⟩ := fm3.sb hH3 ro3
  refine call_valn con_X15_amend_Lf vr_243_672 lV2_f_652 (by decide +kernel) (hA3.reb rc) hH3 (by have : k_X15_amend_Lf.2.2.2.2.1 = 3 := rfl; omega) (by have : k_X15_amend_Lf.2.2.2.2.2.1 = 16 := rfl; omega) rfl (fun n => C_mamend n p17 h3 u3 hS3 sb3 fm3.2.1 fm3.2.2.2.1 fm3.2.2.2.2 m1 m2 l1 l2 l3 h0c l213 hA7) ?_
  refine ends2 rfl ?_ ?_
  · intro N4 ρ4 ν4 v h4 u4 n4 x4 hA4 hH4 hF4 hP4 V2
    obtain ⟨nd, rd⟩ := lYd0_f_652n
    obtain ⟨r, hr⟩ : ∃ r : Int32, v = .int r := by
      first
        | (obtain ⟨r, h0, hr, -⟩ := V2; cases hr; exact ⟨r, rfl⟩)
        | (obtain ⟨r, hr, -⟩ := V2; cases hr; exact ⟨r, rfl⟩)
    subst hr
    have b7 : (h4.length : Int) - h3.length ≤ 4 := Int.le_trans (hA4.cost (by decide +kernel)).1 (by decide +kernel)
    have b8 : (u4 : Int) - u3 ≤ 30 := Int.le_trans (hA4.cost (by decide +kernel)).2 (by decide +kernel)
    have z1 := ((by
    obtain ⟨⟨y1, y5⟩, y2, y3, y4⟩ := sum_amend (i := 0) hl1 hH1 hR1.1 (hR1.2.2.2.2.2.1.2.1) c0 c1 h0c h24 t2 hl2 hl3 t1 t3 fm3 V1 hE V2
    exact ⟨⟨⟨y1, y5, qHO.fr3 (hR1.2.2.2.2.2.1.2.2.1) hR1.2.2.2.2.1 hR1.1 hH1 hF2 (by decide +kernel) hS2 hRo2 hH2 hF3 hS3 (hRo2.pre hP3) hH3 hF4 (by decide +kernel), (exX_amend (hR1.2.2.2.2.2.1.2.2.2) hl1 c0 h24 h0c V1).fr2 hS2 hRo2 hH2 hF3 hS3 (hRo2.pre hP3) hH3 hF4 (by decide +kernel)⟩, ⟨qRFu.fr3 (hR1.2.2.2.2.2.2.1.1) hR1.2.2.2.2.1 hR1.1 hH1 hF2 (by decide +kernel) hS2 hRo2 hH2 hF3 hS3 (hRo2.pre hP3) hH3 hF4 (by decide +kernel), qRCs.fr3 (hR1.2.2.2.2.2.2.1.2.1) hR1.2.2.2.2.1 hR1.1 hH1 hF2 (by decide +kernel) hS2 hRo2 hH2 hF3 hS3 (hRo2.pre hP3) hH3 hF4 (by decide +kernel), qVd.fr3 (hR1.2.2.2.2.2.2.1.2.2) hR1.2.2.2.2.1 hR1.1 hH1 hF2 (by decide +kernel) hS2 hRo2 hH2 hF3 hS3 (hRo2.pre hP3) hH3 hF4 (by decide +kernel)⟩, ⟨Rw.fr3 (hR1.2.2.2.2.2.2.2.1.1) hR1.2.2.2.2.1 hR1.1 hH1 hF2 (by decide +kernel) hS2 hRo2 hH2 hF3 hS3 (hRo2.pre hP3) hH3 hF4 (by decide +kernel), qSm.fr3T (hR1.2.2.2.2.2.2.2.1.2.1) hR1.2.2.2.2.1 hR1.1 hH1 hF2 (by decide +kernel) hS2 hRo2 hH2 hF3 hS3 (hRo2.pre hP3) hH3 hF4 (by decide +kernel), qSm.fr3Y (hR1.2.2.2.2.2.2.2.1.2.2) hR1.2.2.2.2.1 hR1.1 hH1 hF2 (by decide +kernel) hS2 hRo2 hH2 hF3 hS3 (hRo2.pre hP3) hH3 hF4 (by decide +kernel)⟩, qDz.fr3 (hR1.2.2.2.2.2.2.2.2.1) hR1.2.2.2.2.1 hR1.1 hH1 hF2 (by decide +kernel) hS2 hRo2 hH2 hF3 hS3 (hRo2.pre hP3) hH3 hF4 (by decide +kernel), qRv.fr3 (hR1.2.2.2.2.2.2.2.2.2) hR1.2.2.2.2.1 hR1.1 hH1 hF2 (by decide +kernel) hS2 hRo2 hH2 hF3 hS3 (hRo2.pre hP3) hH3 hF4 (by decide +kernel)⟩, trivial⟩ : qAll h4 ∧ True)).1
    have hR4 : lR ρ4 ν4 h4 := ⟨(hRo2.pre hP3).pre hP4, x4 _ _ (x3 _ _ (x2 _ _ hR1.2.1)), x4 _ _ (x3 _ _ (x2 _ _ hR1.2.2.1)), x4 _ _ (x3 _ _ (x2 _ _ hR1.2.2.2.1)), hS3.fr (hRo2.pre hP3) hF4 stW_X15_amend_Lf, z1⟩
    have x14 : nExt ν ν4 := x1.trans (x2.trans (x3.trans x4))
    have hA4 := hA4.reb rd
    show zE zrx zi 57 243 675 lv3 _ h4 u4 lKK
    refine seg wT_ok lC_f_ok 3000 lY3_f_652_0 (Nat.le_refl _) x14 hlen hA4 rfl rfl hH4 (by omega) (by omega) ?_
    intro x hx N5 ρ5 ν5 lv5 st5 h5 u5 x5 hA5 hH5 hF5 hP5
    rw [List.mem_singleton.mp hx] at hA5 ⊢
    clear hx x
    dsimp only at hA5 ⊢
    have b9 : (h5.length : Int) - h4.length ≤ 0 := Int.le_trans (hA5.cost (by decide +kernel)).1 (by decide +kernel)
    have c1 : (u5 : Int) - u4 ≤ 0 := Int.le_trans (hA5.cost (by decide +kernel)).2 (by decide +kernel)
    obtain ⟨j, j1, j2⟩ := l_i hA5 rfl rfl (x5 _ _ v4)
    exact l_next (g := false) ih [0, 1, 2, 3, 15, 5, 6, 7, 8, 9, 10, 11, 12, 13, 16] (by decide +kernel) (by decide +kernel) hA5 rfl hH5 rfl rfl rfl rfl j1 (x5 _ _ v7) (x5 _ _ v9) (x5 _ _ v11) (acc.dear j2 (by omega) (by omega) false (fun z => by cases z)) (by omega) rfl rfl rfl (lR.fr ⟨hR4.1, x5 _ _ (hR.2.1), x5 _ _ (hR.2.2.1), x5 _ _ (hR.2.2.2.1), hR4.2.2.2.2⟩ hH4 hF5 hP5 (nExt.refl ν5) stW_nil rW_nil)
  · intro N4 ρ4 ν4 v h4 u4 n4 x4 hA4 hH4 hF4 hP4 V2
    obtain ⟨nd, rd⟩ := lYd1_f_652n
    obtain ⟨r, hr⟩ : ∃ r : Int32, v = .int r := by
      first
        | (obtain ⟨r, h0, hr, -⟩ := V2; cases hr; exact ⟨r, rfl⟩)
        | (obtain ⟨r, hr, -⟩ := V2; cases hr; exact ⟨r, rfl⟩)
    subst hr
    have b7 : (h4.length : Int) - h3.length ≤ 0 := Int.le_trans (hA4.cost (by decide +kernel)).1 (by decide +kernel)
    have b8 : (u4 : Int) - u3 ≤ 0 := Int.le_trans (hA4.cost (by decide +kernel)).2 (by decide +kernel)
    have z1 := ((by
    obtain ⟨⟨y1, y5⟩, y2, y3, y4⟩ := sum_amend (i := 0) hl1 hH1 hR1.1 (hR1.2.2.2.2.2.1.2.1) c0 c1 h0c h24 t2 hl2 hl3 t1 t3 fm3 V1 hE V2
    exact ⟨⟨⟨y1, y5, qHO.fr3 (hR1.2.2.2.2.2.1.2.2.1) hR1.2.2.2.2.1 hR1.1 hH1 hF2 (by decide +kernel) hS2 hRo2 hH2 hF3 hS3 (hRo2.pre hP3) hH3 hF4 (by decide +kernel), (exX_amend (hR1.2.2.2.2.2.1.2.2.2) hl1 c0 h24 h0c V1).fr2 hS2 hRo2 hH2 hF3 hS3 (hRo2.pre hP3) hH3 hF4 (by decide +kernel)⟩, ⟨qRFu.fr3 (hR1.2.2.2.2.2.2.1.1) hR1.2.2.2.2.1 hR1.1 hH1 hF2 (by decide +kernel) hS2 hRo2 hH2 hF3 hS3 (hRo2.pre hP3) hH3 hF4 (by decide +kernel), qRCs.fr3 (hR1.2.2.2.2.2.2.1.2.1) hR1.2.2.2.2.1 hR1.1 hH1 hF2 (by decide +kernel) hS2 hRo2 hH2 hF3 hS3 (hRo2.pre hP3) hH3 hF4 (by decide +kernel), qVd.fr3 (hR1.2.2.2.2.2.2.1.2.2) hR1.2.2.2.2.1 hR1.1 hH1 hF2 (by decide +kernel) hS2 hRo2 hH2 hF3 hS3 (hRo2.pre hP3) hH3 hF4 (by decide +kernel)⟩, ⟨Rw.fr3 (hR1.2.2.2.2.2.2.2.1.1) hR1.2.2.2.2.1 hR1.1 hH1 hF2 (by decide +kernel) hS2 hRo2 hH2 hF3 hS3 (hRo2.pre hP3) hH3 hF4 (by decide +kernel), qSm.fr3T (hR1.2.2.2.2.2.2.2.1.2.1) hR1.2.2.2.2.1 hR1.1 hH1 hF2 (by decide +kernel) hS2 hRo2 hH2 hF3 hS3 (hRo2.pre hP3) hH3 hF4 (by decide +kernel), qSm.fr3Y (hR1.2.2.2.2.2.2.2.1.2.2) hR1.2.2.2.2.1 hR1.1 hH1 hF2 (by decide +kernel) hS2 hRo2 hH2 hF3 hS3 (hRo2.pre hP3) hH3 hF4 (by decide +kernel)⟩, qDz.fr3 (hR1.2.2.2.2.2.2.2.2.1) hR1.2.2.2.2.1 hR1.1 hH1 hF2 (by decide +kernel) hS2 hRo2 hH2 hF3 hS3 (hRo2.pre hP3) hH3 hF4 (by decide +kernel), qRv.fr3 (hR1.2.2.2.2.2.2.2.2.2) hR1.2.2.2.2.1 hR1.1 hH1 hF2 (by decide +kernel) hS2 hRo2 hH2 hF3 hS3 (hRo2.pre hP3) hH3 hF4 (by decide +kernel)⟩, trivial⟩ : qAll h4 ∧ True)).1
    have hR4 : lR ρ4 ν4 h4 := ⟨(hRo2.pre hP3).pre hP4, x4 _ _ (x3 _ _ (x2 _ _ hR1.2.1)), x4 _ _ (x3 _ _ (x2 _ _ hR1.2.2.1)), x4 _ _ (x3 _ _ (x2 _ _ hR1.2.2.2.1)), hS3.fr (hRo2.pre hP3) hF4 stW_X15_amend_Lf, z1⟩
    have x14 : nExt ν ν4 := x1.trans (x2.trans (x3.trans x4))
    have hA4 := hA4.reb rd
    show zE zrx zi 57 243 675 lv3 _ h4 u4 lKK
    refine seg wT_ok lC_f_ok 3000 lY3_f_652_1 (Nat.le_refl _) x14 hlen hA4 rfl rfl hH4 (by omega) (by omega) ?_
    intro x hx N5 ρ5 ν5 lv5 st5 h5 u5 x5 hA5 hH5 hF5 hP5
    rw [List.mem_singleton.mp hx] at hA5 ⊢
    clear hx x
    dsimp only at hA5 ⊢
    have b9 : (h5.length : Int) - h4.length ≤ 0 := Int.le_trans (hA5.cost (by decide +kernel)).1 (by decide +kernel)
    have c1 : (u5 : Int) - u4 ≤ 0 := Int.le_trans (hA5.cost (by decide +kernel)).2 (by decide +kernel)
    obtain ⟨j, j1, j2⟩ := l_i hA5 rfl rfl (x5 _ _ v4)
    exact l_next (g := true) ih [0, 1, 2, 3, 15, 5, 6, 7, 8, 9, 10, 11, 12, 13, 14] (by decide +kernel) (by decide +kernel) hA5 rfl hH5 rfl rfl rfl rfl j1 (x5 _ _ v7) (x5 _ _ v9) (x5 _ _ v11) (acc.dear j2 (by omega) (by omega) true (fun z => z)) (by omega) rfl rfl rfl (lR.fr ⟨hR4.1, x5 _ _ (hR.2.1), x5 _ _ (hR.2.2.1), x5 _ _ (hR.2.2.2.1), hR4.2.2.2.2⟩ hH4 hF5 hP5 (nExt.refl ν5) stW_nil rW_nil)
def lYa_f_680 : sS := ([(3, 0, 0), (3, 8, 0), (3, 40, 0), (3, 36, 0), (0, 0, 4088), (0, 8, 4096), (3, 45, 0), (0, 0, 40), (3, 48, 0), (0, 0, 24), (3, 51, 0), (0, 0, 24), (0, 0, 4088), (0, 0, 4088), (3, 56, 0), (0, 1, 1), (0, 1, 4089), (0, -2147483648, 2147483647), (0, 2, 2), (0, 2, 4090), (0, -2147483648, 2147483647), (0, 3, 3), (0, 3, 4091), (0, -2147483648, 2147483647)], [(0, 0), (1, 1), (2, 2), (3, 3), (4, 4)], [3, 23, 20, 17, 1], [(4, 0, 22, 23, 0), (0, 22, 4, 0, 3), (0, 4, 22, 0, -3), (4, 0, 19, 20, 0), (0, 19, 4, 0, 2), (0, 4, 19, 0, -2), (4, 0, 16, 17, 0), (0, 16, 4, 0, 1), (0, 4, 16, 0, -1), (0, 4, 5, 0, -8), (3, 0, 5, 0, 0), (2, 2, 7, 6, 0), (2, 6, 2, 7, 0), (2, 2, 8, 8, 0), (2, 8, 2, 9, 0), (2, 2, 9, 10, 0), (2, 10, 2, 11, 0), (2, 1, 1, 12, 0), (2, 2, 3, 13, 0), (0, 12, 13, 0, 0), (0, 13, 12, 0, 0), (2, 2, 10, 14, 0), (0, 12, 4, 0, 0), (0, 13, 4, 0, 0)], 0, 0, [])
def lYb_f_680 : sS := vZ (cvS zi lYa_f_680 k_L_seats (cx1 k_L_seats))
def lYc_f_680 : sS := ([(3, 0, 0), (3, 8, 0), (3, 40, 0), (3, 36, 0), (0, 0, 4088), (0, 8, 4096), (3, 45, 0), (0, 0, 40), (3, 48, 0), (0, 0, 24), (3, 51, 0), (0, 0, 24), (0, 0, 4088), (0, 0, 4088), (3, 56, 0), (0, 1, 1), (0, 1, 4089), (0, -2147483648, 2147483647), (0, 2, 2), (0, 2, 4090), (0, -2147483648, 2147483647), (0, 3, 3), (0, 3, 4091), (0, -2147483648, 2147483647), (0, 0, 2), (0, 1, 1), (0, 2, 2), (0, 3, 3)], [(5, 24), (0, 0), (1, 1), (2, 2), (3, 3), (4, 4)], [23, 20, 17, 2], [(4, 0, 22, 23, 0), (0, 22, 4, 0, 3), (0, 4, 22, 0, -3), (4, 0, 19, 20, 0), (0, 19, 4, 0, 2), (0, 4, 19, 0, -2), (4, 0, 16, 17, 0), (0, 16, 4, 0, 1), (0, 4, 16, 0, -1), (0, 4, 5, 0, -8), (3, 0, 5, 0, 0), (2, 2, 7, 6, 0), (2, 6, 2, 7, 0), (2, 2, 8, 8, 0), (2, 8, 2, 9, 0), (2, 2, 9, 10, 0), (2, 10, 2, 11, 0), (2, 1, 1, 12, 0), (2, 2, 3, 13, 0), (0, 12, 13, 0, 0), (0, 13, 12, 0, 0), (2, 2, 10, 14, 0), (0, 12, 4, 0, 0), (0, 13, 4, 0, 0)], 0, 0, [])
theorem lY1_f_680 : chk zrx zi wT (wRo wSites_15) (wRo wTags_15) lC_f [] 0 0 15 3000 false [(700, lYa_f_680, [])] none 57 243 680 (vZ lM_f) (fun _ _ => false) = true := by decide +kernel
theorem lY2_f_680 : chk zrx zi wT (wRo wSites_15) (wRo wTags_15) lC_f [] 0 0 25 3000 false [(724, lYc_f_680, [])] none 57 243 703 lYb_f_680 (fun _ _ => false) = true := by decide +kernel
theorem lV1_f_680 : cvOk zrx zi wT 243 700 56 lYa_f_680 k_L_seats = true := by decide +kernel
theorem lV2_f_680 : cvOk zrx zi wT 243 724 56 lYc_f_680 k_X15_seats = true := by decide +kernel
theorem lYn_f_680 : lYb_f_680.1.length = 25 := by decide +kernel
theorem lYr_f_680 : (vZ lM_f).2.2.2.1.all (fun f => !(f.1 == 7)) = true ∧ lYa_f_680.2.2.2.1.all (fun f => !(f.1 == 7)) = true ∧ (cvS zi lYa_f_680 k_L_seats (cx1 k_L_seats)).2.2.2.1.all (fun f => !(f.1 == 7)) = true ∧ lYc_f_680.2.2.2.1.all (fun f => !(f.1 == 7)) = true := by decide +kernel
def lYd0_f_680 : sS := vZ (cvS zi lYc_f_680 k_X15_seats (cxi k_X15_seats 0))
theorem lYd0_f_680n : lYd0_f_680.1.length = 29 ∧ (cvS zi lYc_f_680 k_X15_seats (cxi k_X15_seats 0)).2.2.2.1.all (fun f => !(f.1 == 7)) = true := by decide +kernel
theorem lY3_f_680_0 : chk zrx zi wT (wRo wSites_15) (wRo wTags_15) lC_f [] 0 0 15 3000 false [(27, lT_fza, [])] none 57 243 727 lYd0_f_680 (fun _ _ => false) = true := by decide +kernel
set_option maxRecDepth 20000 in
theorem lA_f_680 {n : Nat} (ih : lIH n) {hb ub : Nat} {N : Int} {ρ : List Nat} {ν : List Value} {lv : List (Nat × Value)} {st : List Value} {h : List zC} {u : Nat} {i R C A : Int32} {F : Int} (hA : gA hb ub ρ ν lM_f lv st h u) (hH : tHeap wT N ρ h) (v4 : ν[4]? = some (.int i)) (v7 : ν[7]? = some (.int R)) (v9 : ν[9]? = some (.int C)) (v11 : ν[11]? = some (.int A))
    (i4 : i.toInt ≤ 4096) (acc : lAcc true hb ub i.toInt R.toInt C.toInt A.toInt F) (rm1 : (ub : Int) + 17920 ≤ zSN) (rm2 : (hb : Int) + 1152 ≤ zCM) (hn : 4104 - i.toInt ≤ (n + 1 : Nat)) (hR : lR ρ ν h) : zE zrx zi 57 243 680 lv st h u lKK := by
  obtain ⟨dl1, dl2, dl3, dl4⟩ := lD_lo R.toInt C.toInt A.toInt
  obtain ⟨r0, ra, rb, rc⟩ := lYr_f_680
  have q0 : (h.length : Int) - hb ≤ 0 := hA.2.2.2.2.1
  have q1 : (u : Int) - ub ≤ 0 := hA.2.2.2.2.2
  have hlen : ν.length ≤ 15 := by
    rw [← hA.1.1]
    exact Nat.le_of_eq rfl
  refine seg wT_ok lC_f_ok 3000 lY1_f_680 (Nat.le_refl _) (nExt.refl ν) hlen (hA.reb r0) rfl rfl hH (by omega) (by omega) ?_
  intro x hx N1 ρ1 ν1 lv1 st1 h1 u1 x1 hA1 hH1 hF1 hP1
  rw [List.mem_singleton.mp hx] at hA1 ⊢
  clear hx x
  dsimp only at hA1 ⊢
  have hR1 := hR.fr hH hF1 hP1 x1 stW_nil rW_nil
  have b1 : (h1.length : Int) - h.length ≤ 0 := Int.le_trans (hA1.cost (by decide +kernel)).1 (by decide +kernel)
  have b2 : (u1 : Int) - u ≤ 0 := Int.le_trans (hA1.cost (by decide +kernel)).2 (by decide +kernel)
  have hT : gSt ν1 [3, 23, 20, 17, 1] st1 := hA1.2.2.1
  obtain ⟨w0, sa0, ea0, o0, ha0⟩ := hT.inv
  subst ea0
  rw [hR1.2.2.2.1] at o0
  cases o0
  obtain ⟨w1, sa1, ea1, o1, ha1⟩ := ha0.inv
  subst ea1
  obtain ⟨p23, rfl, -⟩ := hA1.int o1 rfl
  obtain ⟨w2, sa2, ea2, o2, ha2⟩ := ha1.inv
  subst ea2
  obtain ⟨p20, rfl, -⟩ := hA1.int o2 rfl
  obtain ⟨w3, sa3, ea3, o3, ha3⟩ := ha2.inv
  subst ea3
  obtain ⟨p17, rfl, -⟩ := hA1.int o3 rfl
  obtain ⟨w4, sa4, ea4, o4, ha4⟩ := ha3.inv
  subst ea4
  rw [hR1.2.1] at o4
  cases o4
  cases ha4.nil
  refine call_val con_L_seats vr_243_700 lV1_f_680 rfl rfl (hA1.reb ra) hH1 (by have : k_L_seats.2.2.2.2.1 = 1 := rfl; omega) (by have : k_L_seats.2.2.2.2.2.1 = 6 := rfl; omega) rfl (fun n => C_Lseats n p17 p20 p23 h1 u1 hR1.2.2.2.2.1) ?_
  intro N2 ρ2 ν2 v h2 u2 n2 x2 hA2 hH2 hF2 hP2 V1
  obtain ⟨k, hk, V1⟩ := V1
  cases hk
  have V1 : Q_Lseats p17 p20 p23 h1 (.inl (some (.int k))) h2 u2 := ⟨k, rfl, V1⟩
  have b3 : (h2.length : Int) - h1.length ≤ 1 := Int.le_trans (hA2.cost (by decide +kernel)).1 (by decide +kernel)
  have b4 : (u2 : Int) - u1 ≤ 6 := Int.le_trans (hA2.cost (by decide +kernel)).2 (by decide +kernel)
  have hTk : ν2[24]? = some (.int k) := gSt_hd hA2.2.2.1 (by decide +kernel)
  have hlen2 : ν2.length ≤ 25 := by
    rw [← hA2.1.1]
    exact Nat.le_of_eq lYn_f_680
  have hS2 : Stc h2 := hR1.2.2.2.2.1.fr hR1.1 hF2 stW_L_seats
  have hRo2 : Ro ρ2 := hR1.1.pre hP2
  show zE zrx zi 57 243 703 lv1 _ h2 u2 lKK
  refine seg wT_ok lC_f_ok 3000 lY2_f_680 (Nat.le_refl _) (nExt.refl ν2) hlen2 (hA2.reb rb) rfl rfl hH2 (by omega) (by omega) ?_
  intro x hx N3 ρ3 ν3 lv3 st3 h3 u3 x3 hA3 hH3 hF3 hP3
  rw [List.mem_singleton.mp hx] at hA3 ⊢
  clear hx x
  dsimp only at hA3 ⊢
  have hS3 : Stc h3 := hS2.fr hRo2 hF3 stW_nil
  have b5 : (h3.length : Int) - h2.length ≤ 0 := Int.le_trans (hA3.cost (by decide +kernel)).1 (by decide +kernel)
  have b6 : (u3 : Int) - u2 ≤ 0 := Int.le_trans (hA3.cost (by decide +kernel)).2 (by decide +kernel)
  have hE : ∀ p, p < h2.length → ∀ k, gF h3 p k = gF h2 p k := fun p hp k => gFr_F0 hF3 hH2.1 hp k
  have hT : gSt ν3 [23, 20, 17, 2] st3 := hA3.2.2.1
  obtain ⟨w0, sb0, eb0, c0, hb0⟩ := hT.inv
  subst eb0
  rw [x3 _ _ (x2 _ _ o1)] at c0
  cases c0
  obtain ⟨w1, sb1, eb1, c1, hb1⟩ := hb0.inv
  subst eb1
  rw [x3 _ _ (x2 _ _ o2)] at c1
  cases c1
  obtain ⟨w2, sb2, eb2, c2, hb2⟩ := hb1.inv
  subst eb2
  rw [x3 _ _ (x2 _ _ o3)] at c2
  cases c2
  obtain ⟨w3, sb3, eb3, c3, hb3⟩ := hb2.inv
  subst eb3
  rw [x3 _ _ (x2 _ _ hR1.2.2.1)] at c3
  cases c3
  cases hb3.nil
  have hl1 := hR1.2.2.2.2.1.1
  have hl2 := gFr_len hF2
  have hl3 := gFr_len hF3
  have ro3 : Ro ρ3 := hRo2.pre hP3
  refine call_val con_X15_seats vr_243_724 lV2_f_680 rfl rfl (hA3.reb rc) hH3 (by have : k_X15_seats.2.2.2.2.1 = 0 := rfl; omega) (by have : k_X15_seats.2.2.2.2.2.1 = 0 := rfl; omega) rfl (fun n => C_mseats n p17 p20 p23 h3 u3 hS3) ?_
  intro N4 ρ4 ν4 v h4 u4 n4 x4 hA4 hH4 hF4 hP4 V2
  obtain ⟨nd, rd⟩ := lYd0_f_680n
  obtain ⟨r, hr⟩ : ∃ r : Int32, v = .int r := by
    first
      | (obtain ⟨r, h0, hr, -⟩ := V2; cases hr; exact ⟨r, rfl⟩)
      | (obtain ⟨r, hr, -⟩ := V2; cases hr; exact ⟨r, rfl⟩)
  subst hr
  have b7 : (h4.length : Int) - h3.length ≤ 0 := Int.le_trans (hA4.cost (by decide +kernel)).1 (by decide +kernel)
  have b8 : (u4 : Int) - u3 ≤ 0 := Int.le_trans (hA4.cost (by decide +kernel)).2 (by decide +kernel)
  have z1 := ((by
    obtain ⟨y1, y2, y3, y4⟩ := sum_seats (hR1.2.2.2.2.2.1.2.2.1) hl1 hl2 V1 hE V2
    exact ⟨⟨⟨qFed.fr3 (hR1.2.2.2.2.2.1.1) hR1.2.2.2.2.1 hR1.1 hH1 hF2 (by decide +kernel) hS2 hRo2 hH2 hF3 hS3 (hRo2.pre hP3) hH3 hF4 (by decide +kernel), qAR.fr3 (hR1.2.2.2.2.2.1.2.1) hR1.2.2.2.2.1 hR1.1 hH1 hF2 (by decide +kernel) hS2 hRo2 hH2 hF3 hS3 (hRo2.pre hP3) hH3 hF4 (by decide +kernel), y1, qEX.fr3 (hR1.2.2.2.2.2.1.2.2.2) hR1.2.2.2.2.1 hR1.1 hH1 hF2 (by decide +kernel) hS2 hRo2 hH2 hF3 hS3 (hRo2.pre hP3) hH3 hF4 (by decide +kernel)⟩, ⟨qRFu.fr3 (hR1.2.2.2.2.2.2.1.1) hR1.2.2.2.2.1 hR1.1 hH1 hF2 (by decide +kernel) hS2 hRo2 hH2 hF3 hS3 (hRo2.pre hP3) hH3 hF4 (by decide +kernel), qRCs.fr3 (hR1.2.2.2.2.2.2.1.2.1) hR1.2.2.2.2.1 hR1.1 hH1 hF2 (by decide +kernel) hS2 hRo2 hH2 hF3 hS3 (hRo2.pre hP3) hH3 hF4 (by decide +kernel), qVd.fr3 (hR1.2.2.2.2.2.2.1.2.2) hR1.2.2.2.2.1 hR1.1 hH1 hF2 (by decide +kernel) hS2 hRo2 hH2 hF3 hS3 (hRo2.pre hP3) hH3 hF4 (by decide +kernel)⟩, ⟨Rw.fr3 (hR1.2.2.2.2.2.2.2.1.1) hR1.2.2.2.2.1 hR1.1 hH1 hF2 (by decide +kernel) hS2 hRo2 hH2 hF3 hS3 (hRo2.pre hP3) hH3 hF4 (by decide +kernel), qSm.fr3T (hR1.2.2.2.2.2.2.2.1.2.1) hR1.2.2.2.2.1 hR1.1 hH1 hF2 (by decide +kernel) hS2 hRo2 hH2 hF3 hS3 (hRo2.pre hP3) hH3 hF4 (by decide +kernel), qSm.fr3Y (hR1.2.2.2.2.2.2.2.1.2.2) hR1.2.2.2.2.1 hR1.1 hH1 hF2 (by decide +kernel) hS2 hRo2 hH2 hF3 hS3 (hRo2.pre hP3) hH3 hF4 (by decide +kernel)⟩, qDz.fr3 (hR1.2.2.2.2.2.2.2.2.1) hR1.2.2.2.2.1 hR1.1 hH1 hF2 (by decide +kernel) hS2 hRo2 hH2 hF3 hS3 (hRo2.pre hP3) hH3 hF4 (by decide +kernel), qRv.fr3 (hR1.2.2.2.2.2.2.2.2.2) hR1.2.2.2.2.1 hR1.1 hH1 hF2 (by decide +kernel) hS2 hRo2 hH2 hF3 hS3 (hRo2.pre hP3) hH3 hF4 (by decide +kernel)⟩, trivial⟩ : qAll h4 ∧ True)).1
  have hR4 : lR ρ4 ν4 h4 := ⟨(hRo2.pre hP3).pre hP4, x4 _ _ (x3 _ _ (x2 _ _ hR1.2.1)), x4 _ _ (x3 _ _ (x2 _ _ hR1.2.2.1)), x4 _ _ (x3 _ _ (x2 _ _ hR1.2.2.2.1)), hS3.fr (hRo2.pre hP3) hF4 stW_X15_seats, z1⟩
  have x14 : nExt ν ν4 := x1.trans (x2.trans (x3.trans x4))
  have hA4 := hA4.reb rd
  show zE zrx zi 57 243 727 lv3 _ h4 u4 lKK
  refine seg wT_ok lC_f_ok 3000 lY3_f_680_0 (Nat.le_refl _) x14 hlen hA4 rfl rfl hH4 (by omega) (by omega) ?_
  intro x hx N5 ρ5 ν5 lv5 st5 h5 u5 x5 hA5 hH5 hF5 hP5
  rw [List.mem_singleton.mp hx] at hA5 ⊢
  clear hx x
  dsimp only at hA5 ⊢
  have b9 : (h5.length : Int) - h4.length ≤ 0 := Int.le_trans (hA5.cost (by decide +kernel)).1 (by decide +kernel)
  have c1 : (u5 : Int) - u4 ≤ 0 := Int.le_trans (hA5.cost (by decide +kernel)).2 (by decide +kernel)
  obtain ⟨j, j1, j2⟩ := l_i hA5 rfl rfl (x5 _ _ v4)
  exact l_next (g := true) ih [0, 1, 2, 3, 15, 5, 6, 7, 8, 9, 10, 11, 12, 13, 14] (by decide +kernel) (by decide +kernel) hA5 rfl hH5 rfl rfl rfl rfl j1 (x5 _ _ v7) (x5 _ _ v9) (x5 _ _ v11) (acc.dear j2 (by omega) (by omega) true (fun z => z)) (by omega) rfl rfl rfl (lR.fr ⟨hR4.1, x5 _ _ (hR.2.1), x5 _ _ (hR.2.2.1), x5 _ _ (hR.2.2.2.1), hR4.2.2.2.2⟩ hH4 hF5 hP5 (nExt.refl ν5) stW_nil rW_nil)
def lYa_f_732 : sS := ([(3, 0, 0), (3, 8, 0), (3, 40, 0), (3, 36, 0), (0, 0, 4088), (0, 8, 4096), (3, 45, 0), (0, 0, 40), (3, 48, 0), (0, 0, 24), (3, 51, 0), (0, 0, 24), (0, 0, 4088), (0, 0, 4088), (3, 56, 0), (0, 1, 1), (0, 1, 4089), (0, -2147483648, 2147483647), (0, 2, 2), (0, 2, 4090), (0, -2147483648, 2147483647), (0, 3, 3), (0, 3, 4091), (0, -2147483648, 2147483647)], [(0, 0), (1, 1), (2, 2), (3, 3), (4, 4)], [3, 23, 20, 17, 1], [(4, 0, 22, 23, 0), (0, 22, 4, 0, 3), (0, 4, 22, 0, -3), (4, 0, 19, 20, 0), (0, 19, 4, 0, 2), (0, 4, 19, 0, -2), (4, 0, 16, 17, 0), (0, 16, 4, 0, 1), (0, 4, 16, 0, -1), (0, 4, 5, 0, -8), (3, 0, 5, 0, 0), (2, 2, 7, 6, 0), (2, 6, 2, 7, 0), (2, 2, 8, 8, 0), (2, 8, 2, 9, 0), (2, 2, 9, 10, 0), (2, 10, 2, 11, 0), (2, 1, 1, 12, 0), (2, 2, 3, 13, 0), (0, 12, 13, 0, 0), (0, 13, 12, 0, 0), (2, 2, 10, 14, 0), (0, 12, 4, 0, 0), (0, 13, 4, 0, 0)], 0, 0, [])
def lYb_f_732 : sS := vZ (cvS zi lYa_f_732 k_L_mood (cx1 k_L_mood))
def lYc_f_732 : sS := ([(3, 0, 0), (3, 8, 0), (3, 40, 0), (3, 36, 0), (0, 0, 4088), (0, 8, 4096), (3, 45, 0), (0, 0, 40), (3, 48, 0), (0, 0, 24), (3, 51, 0), (0, 0, 24), (0, 0, 4088), (0, 0, 4088), (3, 56, 0), (0, 1, 1), (0, 1, 4089), (0, -2147483648, 2147483647), (0, 2, 2), (0, 2, 4090), (0, -2147483648, 2147483647), (0, 3, 3), (0, 3, 4091), (0, -2147483648, 2147483647), (0, 0, 2), (0, 1, 1), (0, 2, 2), (0, 3, 3)], [(5, 24), (0, 0), (1, 1), (2, 2), (3, 3), (4, 4)], [23, 20, 17, 2], [(4, 0, 22, 23, 0), (0, 22, 4, 0, 3), (0, 4, 22, 0, -3), (4, 0, 19, 20, 0), (0, 19, 4, 0, 2), (0, 4, 19, 0, -2), (4, 0, 16, 17, 0), (0, 16, 4, 0, 1), (0, 4, 16, 0, -1), (0, 4, 5, 0, -8), (3, 0, 5, 0, 0), (2, 2, 7, 6, 0), (2, 6, 2, 7, 0), (2, 2, 8, 8, 0), (2, 8, 2, 9, 0), (2, 2, 9, 10, 0), (2, 10, 2, 11, 0), (2, 1, 1, 12, 0), (2, 2, 3, 13, 0), (0, 12, 13, 0, 0), (0, 13, 12, 0, 0), (2, 2, 10, 14, 0), (0, 12, 4, 0, 0), (0, 13, 4, 0, 0)], 0, 0, [])
theorem lY1_f_732 : chk zrx zi wT (wRo wSites_15) (wRo wTags_15) lC_f [] 0 0 15 3000 false [(752, lYa_f_732, [])] none 57 243 732 (vZ lM_f) (fun _ _ => false) = true := by decide +kernel
theorem lY2_f_732 : chk zrx zi wT (wRo wSites_15) (wRo wTags_15) lC_f [] 0 0 25 3000 false [(776, lYc_f_732, [])] none 57 243 755 lYb_f_732 (fun _ _ => false) = true := by decide +kernel
theorem lV1_f_732 : cvOk zrx zi wT 243 752 56 lYa_f_732 k_L_mood = true := by decide +kernel
theorem lV2_f_732 : cvOk zrx zi wT 243 776 56 lYc_f_732 k_X15_mood = true := by decide +kernel
theorem lYn_f_732 : lYb_f_732.1.length = 25 := by decide +kernel
theorem lYr_f_732 : (vZ lM_f).2.2.2.1.all (fun f => !(f.1 == 7)) = true ∧ lYa_f_732.2.2.2.1.all (fun f => !(f.1 == 7)) = true ∧ (cvS zi lYa_f_732 k_L_mood (cx1 k_L_mood)).2.2.2.1.all (fun f => !(f.1 == 7)) = true ∧ lYc_f_732.2.2.2.1.all (fun f => !(f.1 == 7)) = true := by decide +kernel
def lYd0_f_732 : sS := vZ (cvS zi lYc_f_732 k_X15_mood (cxi k_X15_mood 0))
theorem lYd0_f_732n : lYd0_f_732.1.length = 29 ∧ (cvS zi lYc_f_732 k_X15_mood (cxi k_X15_mood 0)).2.2.2.1.all (fun f => !(f.1 == 7)) = true := by decide +kernel
theorem lY3_f_732_0 : chk zrx zi wT (wRo wSites_15) (wRo wTags_15) lC_f [] 0 0 15 3000 false [(27, lT_fza, [])] none 57 243 779 lYd0_f_732 (fun _ _ => false) = true := by decide +kernel
set_option maxRecDepth 20000 in
theorem lA_f_732 {n : Nat} (ih : lIH n) {hb ub : Nat} {N : Int} {ρ : List Nat} {ν : List Value} {lv : List (Nat × Value)} {st : List Value} {h : List zC} {u : Nat} {i R C A : Int32} {F : Int} (hA : gA hb ub ρ ν lM_f lv st h u) (hH : tHeap wT N ρ h) (v4 : ν[4]? = some (.int i)) (v7 : ν[7]? = some (.int R)) (v9 : ν[9]? = some (.int C)) (v11 : ν[11]? = some (.int A))
    (i4 : i.toInt ≤ 4096) (acc : lAcc true hb ub i.toInt R.toInt C.toInt A.toInt F) (rm1 : (ub : Int) + 17920 ≤ zSN) (rm2 : (hb : Int) + 1152 ≤ zCM) (hn : 4104 - i.toInt ≤ (n + 1 : Nat)) (hR : lR ρ ν h) : zE zrx zi 57 243 732 lv st h u lKK := by
  obtain ⟨dl1, dl2, dl3, dl4⟩ := lD_lo R.toInt C.toInt A.toInt
  obtain ⟨r0, ra, rb, rc⟩ := lYr_f_732
  have q0 : (h.length : Int) - hb ≤ 0 := hA.2.2.2.2.1
  have q1 : (u : Int) - ub ≤ 0 := hA.2.2.2.2.2
  have hlen : ν.length ≤ 15 := by
    rw [← hA.1.1]
    exact Nat.le_of_eq rfl
  refine seg wT_ok lC_f_ok 3000 lY1_f_732 (Nat.le_refl _) (nExt.refl ν) hlen (hA.reb r0) rfl rfl hH (by omega) (by omega) ?_
  intro x hx N1 ρ1 ν1 lv1 st1 h1 u1 x1 hA1 hH1 hF1 hP1
  rw [List.mem_singleton.mp hx] at hA1 ⊢
  clear hx x
  dsimp only at hA1 ⊢
  have hR1 := hR.fr hH hF1 hP1 x1 stW_nil rW_nil
  have b1 : (h1.length : Int) - h.length ≤ 0 := Int.le_trans (hA1.cost (by decide +kernel)).1 (by decide +kernel)
  have b2 : (u1 : Int) - u ≤ 0 := Int.le_trans (hA1.cost (by decide +kernel)).2 (by decide +kernel)
  have hT : gSt ν1 [3, 23, 20, 17, 1] st1 := hA1.2.2.1
  obtain ⟨w0, sa0, ea0, o0, ha0⟩ := hT.inv
  subst ea0
  rw [hR1.2.2.2.1] at o0
  cases o0
  obtain ⟨w1, sa1, ea1, o1, ha1⟩ := ha0.inv
  subst ea1
  obtain ⟨p23, rfl, -⟩ := hA1.int o1 rfl
  obtain ⟨w2, sa2, ea2, o2, ha2⟩ := ha1.inv
  subst ea2
  obtain ⟨p20, rfl, -⟩ := hA1.int o2 rfl
  obtain ⟨w3, sa3, ea3, o3, ha3⟩ := ha2.inv
  subst ea3
  obtain ⟨p17, rfl, -⟩ := hA1.int o3 rfl
  obtain ⟨w4, sa4, ea4, o4, ha4⟩ := ha3.inv
  subst ea4
  rw [hR1.2.1] at o4
  cases o4
  cases ha4.nil
  refine call_val con_L_mood vr_243_752 lV1_f_732 rfl rfl (hA1.reb ra) hH1 (by have : k_L_mood.2.2.2.2.1 = 1 := rfl; omega) (by have : k_L_mood.2.2.2.2.2.1 = 6 := rfl; omega) rfl (fun n => C_Lmood n p17 p20 p23 h1 u1 hR1.2.2.2.2.1) ?_
  intro N2 ρ2 ν2 v h2 u2 n2 x2 hA2 hH2 hF2 hP2 V1
  obtain ⟨k, hk, V1⟩ := V1
  cases hk
  have V1 : Q_Lmood p17 p20 p23 h1 (.inl (some (.int k))) h2 u2 := ⟨k, rfl, V1⟩
  have b3 : (h2.length : Int) - h1.length ≤ 1 := Int.le_trans (hA2.cost (by decide +kernel)).1 (by decide +kernel)
  have b4 : (u2 : Int) - u1 ≤ 6 := Int.le_trans (hA2.cost (by decide +kernel)).2 (by decide +kernel)
  have hTk : ν2[24]? = some (.int k) := gSt_hd hA2.2.2.1 (by decide +kernel)
  have hlen2 : ν2.length ≤ 25 := by
    rw [← hA2.1.1]
    exact Nat.le_of_eq lYn_f_732
  have hS2 : Stc h2 := hR1.2.2.2.2.1.fr hR1.1 hF2 stW_L_mood
  have hRo2 : Ro ρ2 := hR1.1.pre hP2
  show zE zrx zi 57 243 755 lv1 _ h2 u2 lKK
  refine seg wT_ok lC_f_ok 3000 lY2_f_732 (Nat.le_refl _) (nExt.refl ν2) hlen2 (hA2.reb rb) rfl rfl hH2 (by omega) (by omega) ?_
  intro x hx N3 ρ3 ν3 lv3 st3 h3 u3 x3 hA3 hH3 hF3 hP3
  rw [List.mem_singleton.mp hx] at hA3 ⊢
  clear hx x
  dsimp only at hA3 ⊢
  have hS3 : Stc h3 := hS2.fr hRo2 hF3 stW_nil
  have b5 : (h3.length : Int) - h2.length ≤ 0 := Int.le_trans (hA3.cost (by decide +kernel)).1 (by decide +kernel)
  have b6 : (u3 : Int) - u2 ≤ 0 := Int.le_trans (hA3.cost (by decide +kernel)).2 (by decide +kernel)
  have hE : ∀ p, p < h2.length → ∀ k, gF h3 p k = gF h2 p k := fun p hp k => gFr_F0 hF3 hH2.1 hp k
  have hT : gSt ν3 [23, 20, 17, 2] st3 := hA3.2.2.1
  obtain ⟨w0, sb0, eb0, c0, hb0⟩ := hT.inv
  subst eb0
  rw [x3 _ _ (x2 _ _ o1)] at c0
  cases c0
  obtain ⟨w1, sb1, eb1, c1, hb1⟩ := hb0.inv
  subst eb1
  rw [x3 _ _ (x2 _ _ o2)] at c1
  cases c1
  obtain ⟨w2, sb2, eb2, c2, hb2⟩ := hb1.inv
  subst eb2
  rw [x3 _ _ (x2 _ _ o3)] at c2
  cases c2
  obtain ⟨w3, sb3, eb3, c3, hb3⟩ := hb2.inv
  subst eb3
  rw [x3 _ _ (x2 _ _ hR1.2.2.1)] at c3
  cases c3
  cases hb3.nil
  have hl1 := hR1.2.2.2.2.1.1
  have hl2 := gFr_len hF2
  have hl3 := gFr_len hF3
  have ro3 : Ro ρ3 := hRo2.pre hP3
  refine call_val con_X15_mood vr_243_776 lV2_f_732 rfl rfl (hA3.reb rc) hH3 (by have : k_X15_mood.2.2.2.2.1 = 0 := rfl; omega) (by have : k_X15_mood.2.2.2.2.2.1 = 0 := rfl; omega) rfl (fun n => C_mmood n p17 p20 p23 h3 u3 hS3) ?_
  intro N4 ρ4 ν4 v h4 u4 n4 x4 hA4 hH4 hF4 hP4 V2
  obtain ⟨nd, rd⟩ := lYd0_f_732n
  obtain ⟨r, hr⟩ : ∃ r : Int32, v = .int r := by
    first
      | (obtain ⟨r, h0, hr, -⟩ := V2; cases hr; exact ⟨r, rfl⟩)
      | (obtain ⟨r, hr, -⟩ := V2; cases hr; exact ⟨r, rfl⟩)
  subst hr
  have b7 : (h4.length : Int) - h3.length ≤ 0 := Int.le_trans (hA4.cost (by decide +kernel)).1 (by decide +kernel)
  have b8 : (u4 : Int) - u3 ≤ 0 := Int.le_trans (hA4.cost (by decide +kernel)).2 (by decide +kernel)
  have z1 := ((by
    obtain ⟨y1, y2, y3, y4⟩ := sum_mood (hR1.2.2.2.2.2.1.2.2.1) hl1 hl2 V1 hE V2
    exact ⟨⟨⟨qFed.fr3 (hR1.2.2.2.2.2.1.1) hR1.2.2.2.2.1 hR1.1 hH1 hF2 (by decide +kernel) hS2 hRo2 hH2 hF3 hS3 (hRo2.pre hP3) hH3 hF4 (by decide +kernel), qAR.fr3 (hR1.2.2.2.2.2.1.2.1) hR1.2.2.2.2.1 hR1.1 hH1 hF2 (by decide +kernel) hS2 hRo2 hH2 hF3 hS3 (hRo2.pre hP3) hH3 hF4 (by decide +kernel), y1, qEX.fr3 (hR1.2.2.2.2.2.1.2.2.2) hR1.2.2.2.2.1 hR1.1 hH1 hF2 (by decide +kernel) hS2 hRo2 hH2 hF3 hS3 (hRo2.pre hP3) hH3 hF4 (by decide +kernel)⟩, ⟨qRFu.fr3 (hR1.2.2.2.2.2.2.1.1) hR1.2.2.2.2.1 hR1.1 hH1 hF2 (by decide +kernel) hS2 hRo2 hH2 hF3 hS3 (hRo2.pre hP3) hH3 hF4 (by decide +kernel), qRCs.fr3 (hR1.2.2.2.2.2.2.1.2.1) hR1.2.2.2.2.1 hR1.1 hH1 hF2 (by decide +kernel) hS2 hRo2 hH2 hF3 hS3 (hRo2.pre hP3) hH3 hF4 (by decide +kernel), qVd.fr3 (hR1.2.2.2.2.2.2.1.2.2) hR1.2.2.2.2.1 hR1.1 hH1 hF2 (by decide +kernel) hS2 hRo2 hH2 hF3 hS3 (hRo2.pre hP3) hH3 hF4 (by decide +kernel)⟩, ⟨Rw.fr3 (hR1.2.2.2.2.2.2.2.1.1) hR1.2.2.2.2.1 hR1.1 hH1 hF2 (by decide +kernel) hS2 hRo2 hH2 hF3 hS3 (hRo2.pre hP3) hH3 hF4 (by decide +kernel), qSm.fr3T (hR1.2.2.2.2.2.2.2.1.2.1) hR1.2.2.2.2.1 hR1.1 hH1 hF2 (by decide +kernel) hS2 hRo2 hH2 hF3 hS3 (hRo2.pre hP3) hH3 hF4 (by decide +kernel), qSm.fr3Y (hR1.2.2.2.2.2.2.2.1.2.2) hR1.2.2.2.2.1 hR1.1 hH1 hF2 (by decide +kernel) hS2 hRo2 hH2 hF3 hS3 (hRo2.pre hP3) hH3 hF4 (by decide +kernel)⟩, qDz.fr3 (hR1.2.2.2.2.2.2.2.2.1) hR1.2.2.2.2.1 hR1.1 hH1 hF2 (by decide +kernel) hS2 hRo2 hH2 hF3 hS3 (hRo2.pre hP3) hH3 hF4 (by decide +kernel), qRv.fr3 (hR1.2.2.2.2.2.2.2.2.2) hR1.2.2.2.2.1 hR1.1 hH1 hF2 (by decide +kernel) hS2 hRo2 hH2 hF3 hS3 (hRo2.pre hP3) hH3 hF4 (by decide +kernel)⟩, trivial⟩ : qAll h4 ∧ True)).1
  have hR4 : lR ρ4 ν4 h4 := ⟨(hRo2.pre hP3).pre hP4, x4 _ _ (x3 _ _ (x2 _ _ hR1.2.1)), x4 _ _ (x3 _ _ (x2 _ _ hR1.2.2.1)), x4 _ _ (x3 _ _ (x2 _ _ hR1.2.2.2.1)), hS3.fr (hRo2.pre hP3) hF4 stW_X15_mood, z1⟩
  have x14 : nExt ν ν4 := x1.trans (x2.trans (x3.trans x4))
  have hA4 := hA4.reb rd
  show zE zrx zi 57 243 779 lv3 _ h4 u4 lKK
  refine seg wT_ok lC_f_ok 3000 lY3_f_732_0 (Nat.le_refl _) x14 hlen hA4 rfl rfl hH4 (by omega) (by omega) ?_
  intro x hx N5 ρ5 ν5 lv5 st5 h5 u5 x5 hA5 hH5 hF5 hP5
  rw [List.mem_singleton.mp hx] at hA5 ⊢
  clear hx x
  dsimp only at hA5 ⊢
  have b9 : (h5.length : Int) - h4.length ≤ 0 := Int.le_trans (hA5.cost (by decide +kernel)).1 (by decide +kernel)
  have c1 : (u5 : Int) - u4 ≤ 0 := Int.le_trans (hA5.cost (by decide +kernel)).2 (by decide +kernel)
  obtain ⟨j, j1, j2⟩ := l_i hA5 rfl rfl (x5 _ _ v4)
  exact l_next (g := true) ih [0, 1, 2, 3, 15, 5, 6, 7, 8, 9, 10, 11, 12, 13, 14] (by decide +kernel) (by decide +kernel) hA5 rfl hH5 rfl rfl rfl rfl j1 (x5 _ _ v7) (x5 _ _ v9) (x5 _ _ v11) (acc.dear j2 (by omega) (by omega) true (fun z => z)) (by omega) rfl rfl rfl (lR.fr ⟨hR4.1, x5 _ _ (hR.2.1), x5 _ _ (hR.2.2.1), x5 _ _ (hR.2.2.2.1), hR4.2.2.2.2⟩ hH4 hF5 hP5 (nExt.refl ν5) stW_nil rW_nil)
def lYa_f_784 : sS := ([(3, 0, 0), (3, 8, 0), (3, 40, 0), (3, 36, 0), (0, 0, 4088), (0, 8, 4096), (3, 45, 0), (0, 0, 40), (3, 48, 0), (0, 0, 24), (3, 51, 0), (0, 0, 24), (0, 0, 4088), (0, 0, 4088), (3, 56, 0), (0, 1, 1), (0, 1, 4089), (0, -2147483648, 2147483647), (0, 2, 2), (0, 2, 4090), (0, -2147483648, 2147483647)], [(0, 0), (1, 1), (2, 2), (3, 3), (4, 4)], [3, 20, 17, 1], [(4, 0, 19, 20, 0), (0, 19, 4, 0, 2), (0, 4, 19, 0, -2), (4, 0, 16, 17, 0), (0, 16, 4, 0, 1), (0, 4, 16, 0, -1), (0, 4, 5, 0, -8), (3, 0, 5, 0, 0), (2, 2, 7, 6, 0), (2, 6, 2, 7, 0), (2, 2, 8, 8, 0), (2, 8, 2, 9, 0), (2, 2, 9, 10, 0), (2, 10, 2, 11, 0), (2, 1, 1, 12, 0), (2, 2, 3, 13, 0), (0, 12, 13, 0, 0), (0, 13, 12, 0, 0), (2, 2, 10, 14, 0), (0, 12, 4, 0, 0), (0, 13, 4, 0, 0)], 0, 0, [])
def lYb_f_784 : sS := vZ (cvS zi lYa_f_784 k_L_taste (cx1 k_L_taste))
def lYc_f_784 : sS := ([(3, 0, 0), (3, 8, 0), (3, 40, 0), (3, 36, 0), (0, 0, 4088), (0, 8, 4096), (3, 45, 0), (0, 0, 40), (3, 48, 0), (0, 0, 24), (3, 51, 0), (0, 0, 24), (0, 0, 4088), (0, 0, 4088), (3, 56, 0), (0, 1, 1), (0, 1, 4089), (0, -2147483648, 2147483647), (0, 2, 2), (0, 2, 4090), (0, -2147483648, 2147483647), (0, 0, 2), (0, 1, 1), (0, 2, 2)], [(5, 21), (0, 0), (1, 1), (2, 2), (3, 3), (4, 4)], [20, 17, 2], [(4, 0, 19, 20, 0), (0, 19, 4, 0, 2), (0, 4, 19, 0, -2), (4, 0, 16, 17, 0), (0, 16, 4, 0, 1), (0, 4, 16, 0, -1), (0, 4, 5, 0, -8), (3, 0, 5, 0, 0), (2, 2, 7, 6, 0), (2, 6, 2, 7, 0), (2, 2, 8, 8, 0), (2, 8, 2, 9, 0), (2, 2, 9, 10, 0), (2, 10, 2, 11, 0), (2, 1, 1, 12, 0), (2, 2, 3, 13, 0), (0, 12, 13, 0, 0), (0, 13, 12, 0, 0), (2, 2, 10, 14, 0), (0, 12, 4, 0, 0), (0, 13, 4, 0, 0)], 0, 0, [])
theorem lY1_f_784 : chk zrx zi wT (wRo wSites_15) (wRo wTags_15) lC_f [] 0 0 15 3000 false [(798, lYa_f_784, [])] none 57 243 784 (vZ lM_f) (fun _ _ => false) = true := by decide +kernel
theorem lY2_f_784 : chk zrx zi wT (wRo wSites_15) (wRo wTags_15) lC_f [] 0 0 22 3000 false [(816, lYc_f_784, [])] none 57 243 801 lYb_f_784 (fun _ _ => false) = true := by decide +kernel
theorem lV1_f_784 : cvOk zrx zi wT 243 798 56 lYa_f_784 k_L_taste = true := by decide +kernel
theorem lV2_f_784 : cvOk zrx zi wT 243 816 56 lYc_f_784 k_X15_taste = true := by decide +kernel
theorem lYn_f_784 : lYb_f_784.1.length = 22 := by decide +kernel
theorem lYr_f_784 : (vZ lM_f).2.2.2.1.all (fun f => !(f.1 == 7)) = true ∧ lYa_f_784.2.2.2.1.all (fun f => !(f.1 == 7)) = true ∧ (cvS zi lYa_f_784 k_L_taste (cx1 k_L_taste)).2.2.2.1.all (fun f => !(f.1 == 7)) = true ∧ lYc_f_784.2.2.2.1.all (fun f => !(f.1 == 7)) = true := by decide +kernel
def lYd0_f_784 : sS := vZ (cvS zi lYc_f_784 k_X15_taste (cxi k_X15_taste 0))
theorem lYd0_f_784n : lYd0_f_784.1.length = 25 ∧ (cvS zi lYc_f_784 k_X15_taste (cxi k_X15_taste 0)).2.2.2.1.all (fun f => !(f.1 == 7)) = true := by decide +kernel
theorem lY3_f_784_0 : chk zrx zi wT (wRo wSites_15) (wRo wTags_15) lC_f [] 0 0 15 3000 false [(27, lT_fza, [])] none 57 243 819 lYd0_f_784 (fun _ _ => false) = true := by decide +kernel
set_option maxRecDepth 20000 in
theorem lA_f_784 {n : Nat} (ih : lIH n) {hb ub : Nat} {N : Int} {ρ : List Nat} {ν : List Value} {lv : List (Nat × Value)} {st : List Value} {h : List zC} {u : Nat} {i R C A : Int32} {F : Int} (hA : gA hb ub ρ ν lM_f lv st h u) (hH : tHeap wT N ρ h) (v4 : ν[4]? = some (.int i)) (v7 : ν[7]? = some (.int R)) (v9 : ν[9]? = some (.int C)) (v11 : ν[11]? = some (.int A))
    (i4 : i.toInt ≤ 4096) (acc : lAcc true hb ub i.toInt R.toInt C.toInt A.toInt F) (rm1 : (ub : Int) + 17920 ≤ zSN) (rm2 : (hb : Int) + 1152 ≤ zCM) (hn : 4104 - i.toInt ≤ (n + 1 : Nat)) (hR : lR ρ ν h) : zE zrx zi 57 243 784 lv st h u lKK := by
  obtain ⟨dl1, dl2, dl3, dl4⟩ := lD_lo R.toInt C.toInt A.toInt
  obtain ⟨r0, ra, rb, rc⟩ := lYr_f_784
  have q0 : (h.length : Int) - hb ≤ 0 := hA.2.2.2.2.1
  have q1 : (u : Int) - ub ≤ 0 := hA.2.2.2.2.2
  have hlen : ν.length ≤ 15 := by
    rw [← hA.1.1]
    exact Nat.le_of_eq rfl
  refine seg wT_ok lC_f_ok 3000 lY1_f_784 (Nat.le_refl _) (nExt.refl ν) hlen (hA.reb r0) rfl rfl hH (by omega) (by omega) ?_
  intro x hx N1 ρ1 ν1 lv1 st1 h1 u1 x1 hA1 hH1 hF1 hP1
  rw [List.mem_singleton.mp hx] at hA1 ⊢
  clear hx x
  dsimp only at hA1 ⊢
  have hR1 := hR.fr hH hF1 hP1 x1 stW_nil rW_nil
  have b1 : (h1.length : Int) - h.length ≤ 0 := Int.le_trans (hA1.cost (by decide +kernel)).1 (by decide +kernel)
  have b2 : (u1 : Int) - u ≤ 0 := Int.le_trans (hA1.cost (by decide +kernel)).2 (by decide +kernel)
  have hT : gSt ν1 [3, 20, 17, 1] st1 := hA1.2.2.1
  obtain ⟨w0, sa0, ea0, o0, ha0⟩ := hT.inv
  subst ea0
  rw [hR1.2.2.2.1] at o0
  cases o0
  obtain ⟨w1, sa1, ea1, o1, ha1⟩ := ha0.inv
  subst ea1
  obtain ⟨p20, rfl, -⟩ := hA1.int o1 rfl
  obtain ⟨w2, sa2, ea2, o2, ha2⟩ := ha1.inv
  subst ea2
  obtain ⟨p17, rfl, -⟩ := hA1.int o2 rfl
  obtain ⟨w3, sa3, ea3, o3, ha3⟩ := ha2.inv
  subst ea3
  rw [hR1.2.1] at o3
  cases o3
  cases ha3.nil
  refine call_val con_L_taste vr_243_798 lV1_f_784 rfl rfl (hA1.reb ra) hH1 (by have : k_L_taste.2.2.2.2.1 = 1 := rfl; omega) (by have : k_L_taste.2.2.2.2.2.1 = 6 := rfl; omega) rfl (fun n => C_Ltaste n p17 p20 h1 u1 hR1.2.2.2.2.1) ?_
  intro N2 ρ2 ν2 v h2 u2 n2 x2 hA2 hH2 hF2 hP2 V1
  obtain ⟨k, hk, V1⟩ := V1
  cases hk
  have V1 : Q_Ltaste p17 p20 h1 (.inl (some (.int k))) h2 u2 := ⟨k, rfl, V1⟩
  have b3 : (h2.length : Int) - h1.length ≤ 1 := Int.le_trans (hA2.cost (by decide +kernel)).1 (by decide +kernel)
  have b4 : (u2 : Int) - u1 ≤ 6 := Int.le_trans (hA2.cost (by decide +kernel)).2 (by decide +kernel)
  have hTk : ν2[21]? = some (.int k) := gSt_hd hA2.2.2.1 (by decide +kernel)
  have hlen2 : ν2.length ≤ 22 := by
    rw [← hA2.1.1]
    exact Nat.le_of_eq lYn_f_784
  have hS2 : Stc h2 := hR1.2.2.2.2.1.fr hR1.1 hF2 stW_L_taste
  have hRo2 : Ro ρ2 := hR1.1.pre hP2
  show zE zrx zi 57 243 801 lv1 _ h2 u2 lKK
  refine seg wT_ok lC_f_ok 3000 lY2_f_784 (Nat.le_refl _) (nExt.refl ν2) hlen2 (hA2.reb rb) rfl rfl hH2 (by omega) (by omega) ?_
  intro x hx N3 ρ3 ν3 lv3 st3 h3 u3 x3 hA3 hH3 hF3 hP3
  rw [List.mem_singleton.mp hx] at hA3 ⊢
  clear hx x
  dsimp only at hA3 ⊢
  have hS3 : Stc h3 := hS2.fr hRo2 hF3 stW_nil
  have b5 : (h3.length : Int) - h2.length ≤ 0 := Int.le_trans (hA3.cost (by decide +kernel)).1 (by decide +kernel)
  have b6 : (u3 : Int) - u2 ≤ 0 := Int.le_trans (hA3.cost (by decide +kernel)).2 (by decide +kernel)
  have hE : ∀ p, p < h2.length → ∀ k, gF h3 p k = gF h2 p k := fun p hp k => gFr_F0 hF3 hH2.1 hp k
  have hT : gSt ν3 [20, 17, 2] st3 := hA3.2.2.1
  obtain ⟨w0, sb0, eb0, c0, hb0⟩ := hT.inv
  subst eb0
  rw [x3 _ _ (x2 _ _ o1)] at c0
  cases c0
  obtain ⟨w1, sb1, eb1, c1, hb1⟩ := hb0.inv
  subst eb1
  rw [x3 _ _ (x2 _ _ o2)] at c1
  cases c1
  obtain ⟨w2, sb2, eb2, c2, hb2⟩ := hb1.inv
  subst eb2
  rw [x3 _ _ (x2 _ _ hR1.2.2.1)] at c2
  cases c2
  cases hb2.nil
  have hl1 := hR1.2.2.2.2.1.1
  have hl2 := gFr_len hF2
  have hl3 := gFr_len hF3
  have ro3 : Ro ρ3 := hRo2.pre hP3
  refine call_val con_X15_taste vr_243_816 lV2_f_784 rfl rfl (hA3.reb rc) hH3 (by have : k_X15_taste.2.2.2.2.1 = 0 := rfl; omega) (by have : k_X15_taste.2.2.2.2.2.1 = 0 := rfl; omega) rfl (fun n => C_mtaste n p17 p20 h3 u3 hS3) ?_
  intro N4 ρ4 ν4 v h4 u4 n4 x4 hA4 hH4 hF4 hP4 V2
  obtain ⟨nd, rd⟩ := lYd0_f_784n
  obtain ⟨r, hr⟩ : ∃ r : Int32, v = .int r := by
    first
      | (obtain ⟨r, h0, hr, -⟩ := V2; cases hr; exact ⟨r, rfl⟩)
      | (obtain ⟨r, hr, -⟩ := V2; cases hr; exact ⟨r, rfl⟩)
  subst hr
  have b7 : (h4.length : Int) - h3.length ≤ 0 := Int.le_trans (hA4.cost (by decide +kernel)).1 (by decide +kernel)
  have b8 : (u4 : Int) - u3 ≤ 0 := Int.le_trans (hA4.cost (by decide +kernel)).2 (by decide +kernel)
  have z1 := ((by
    obtain ⟨y1, y2, y3, y4⟩ := sum_taste (hR1.2.2.2.2.2.1.2.2.1) hl1 hl2 V1 hE V2
    exact ⟨⟨⟨qFed.fr3 (hR1.2.2.2.2.2.1.1) hR1.2.2.2.2.1 hR1.1 hH1 hF2 (by decide +kernel) hS2 hRo2 hH2 hF3 hS3 (hRo2.pre hP3) hH3 hF4 (by decide +kernel), qAR.fr3 (hR1.2.2.2.2.2.1.2.1) hR1.2.2.2.2.1 hR1.1 hH1 hF2 (by decide +kernel) hS2 hRo2 hH2 hF3 hS3 (hRo2.pre hP3) hH3 hF4 (by decide +kernel), y1, qEX.fr3 (hR1.2.2.2.2.2.1.2.2.2) hR1.2.2.2.2.1 hR1.1 hH1 hF2 (by decide +kernel) hS2 hRo2 hH2 hF3 hS3 (hRo2.pre hP3) hH3 hF4 (by decide +kernel)⟩, ⟨qRFu.fr3 (hR1.2.2.2.2.2.2.1.1) hR1.2.2.2.2.1 hR1.1 hH1 hF2 (by decide +kernel) hS2 hRo2 hH2 hF3 hS3 (hRo2.pre hP3) hH3 hF4 (by decide +kernel), qRCs.fr3 (hR1.2.2.2.2.2.2.1.2.1) hR1.2.2.2.2.1 hR1.1 hH1 hF2 (by decide +kernel) hS2 hRo2 hH2 hF3 hS3 (hRo2.pre hP3) hH3 hF4 (by decide +kernel), qVd.fr3 (hR1.2.2.2.2.2.2.1.2.2) hR1.2.2.2.2.1 hR1.1 hH1 hF2 (by decide +kernel) hS2 hRo2 hH2 hF3 hS3 (hRo2.pre hP3) hH3 hF4 (by decide +kernel)⟩, ⟨Rw.fr3 (hR1.2.2.2.2.2.2.2.1.1) hR1.2.2.2.2.1 hR1.1 hH1 hF2 (by decide +kernel) hS2 hRo2 hH2 hF3 hS3 (hRo2.pre hP3) hH3 hF4 (by decide +kernel), qSm.fr3T (hR1.2.2.2.2.2.2.2.1.2.1) hR1.2.2.2.2.1 hR1.1 hH1 hF2 (by decide +kernel) hS2 hRo2 hH2 hF3 hS3 (hRo2.pre hP3) hH3 hF4 (by decide +kernel), qSm.fr3Y (hR1.2.2.2.2.2.2.2.1.2.2) hR1.2.2.2.2.1 hR1.1 hH1 hF2 (by decide +kernel) hS2 hRo2 hH2 hF3 hS3 (hRo2.pre hP3) hH3 hF4 (by decide +kernel)⟩, qDz.fr3 (hR1.2.2.2.2.2.2.2.2.1) hR1.2.2.2.2.1 hR1.1 hH1 hF2 (by decide +kernel) hS2 hRo2 hH2 hF3 hS3 (hRo2.pre hP3) hH3 hF4 (by decide +kernel), qRv.fr3 (hR1.2.2.2.2.2.2.2.2.2) hR1.2.2.2.2.1 hR1.1 hH1 hF2 (by decide +kernel) hS2 hRo2 hH2 hF3 hS3 (hRo2.pre hP3) hH3 hF4 (by decide +kernel)⟩, trivial⟩ : qAll h4 ∧ True)).1
  have hR4 : lR ρ4 ν4 h4 := ⟨(hRo2.pre hP3).pre hP4, x4 _ _ (x3 _ _ (x2 _ _ hR1.2.1)), x4 _ _ (x3 _ _ (x2 _ _ hR1.2.2.1)), x4 _ _ (x3 _ _ (x2 _ _ hR1.2.2.2.1)), hS3.fr (hRo2.pre hP3) hF4 stW_X15_taste, z1⟩
  have x14 : nExt ν ν4 := x1.trans (x2.trans (x3.trans x4))
  have hA4 := hA4.reb rd
  show zE zrx zi 57 243 819 lv3 _ h4 u4 lKK
  refine seg wT_ok lC_f_ok 3000 lY3_f_784_0 (Nat.le_refl _) x14 hlen hA4 rfl rfl hH4 (by omega) (by omega) ?_
  intro x hx N5 ρ5 ν5 lv5 st5 h5 u5 x5 hA5 hH5 hF5 hP5
  rw [List.mem_singleton.mp hx] at hA5 ⊢
  clear hx x
  dsimp only at hA5 ⊢
  have b9 : (h5.length : Int) - h4.length ≤ 0 := Int.le_trans (hA5.cost (by decide +kernel)).1 (by decide +kernel)
  have c1 : (u5 : Int) - u4 ≤ 0 := Int.le_trans (hA5.cost (by decide +kernel)).2 (by decide +kernel)
  obtain ⟨j, j1, j2⟩ := l_i hA5 rfl rfl (x5 _ _ v4)
  exact l_next (g := true) ih [0, 1, 2, 3, 15, 5, 6, 7, 8, 9, 10, 11, 12, 13, 14] (by decide +kernel) (by decide +kernel) hA5 rfl hH5 rfl rfl rfl rfl j1 (x5 _ _ v7) (x5 _ _ v9) (x5 _ _ v11) (acc.dear j2 (by omega) (by omega) true (fun z => z)) (by omega) rfl rfl rfl (lR.fr ⟨hR4.1, x5 _ _ (hR.2.1), x5 _ _ (hR.2.2.1), x5 _ _ (hR.2.2.2.1), hR4.2.2.2.2⟩ hH4 hF5 hP5 (nExt.refl ν5) stW_nil rW_nil)
def lYa_f_824 : sS := ([(3, 0, 0), (3, 8, 0), (3, 40, 0), (3, 36, 0), (0, 0, 4088), (0, 8, 4096), (3, 45, 0), (0, 0, 40), (3, 48, 0), (0, 0, 24), (3, 51, 0), (0, 0, 24), (0, 0, 4088), (0, 0, 4088), (3, 56, 0), (0, 1, 1), (0, 1, 4089), (0, -2147483648, 2147483647), (0, 2, 2), (0, 2, 4090), (0, -2147483648, 2147483647)], [(0, 0), (1, 1), (2, 2), (3, 3), (4, 4)], [3, 20, 17, 1], [(4, 0, 19, 20, 0), (0, 19, 4, 0, 2), (0, 4, 19, 0, -2), (4, 0, 16, 17, 0), (0, 16, 4, 0, 1), (0, 4, 16, 0, -1), (0, 4, 5, 0, -8), (3, 0, 5, 0, 0), (2, 2, 7, 6, 0), (2, 6, 2, 7, 0), (2, 2, 8, 8, 0), (2, 8, 2, 9, 0), (2, 2, 9, 10, 0), (2, 10, 2, 11, 0), (2, 1, 1, 12, 0), (2, 2, 3, 13, 0), (0, 12, 13, 0, 0), (0, 13, 12, 0, 0), (2, 2, 10, 14, 0), (0, 12, 4, 0, 0), (0, 13, 4, 0, 0)], 0, 0, [])
def lYb_f_824 : sS := vZ (cvS zi lYa_f_824 k_L_pledge (cx1 k_L_pledge))
def lYc_f_824 : sS := ([(3, 0, 0), (3, 8, 0), (3, 40, 0), (3, 36, 0), (0, 0, 4088), (0, 8, 4096), (3, 45, 0), (0, 0, 40), (3, 48, 0), (0, 0, 24), (3, 51, 0), (0, 0, 24), (0, 0, 4088), (0, 0, 4088), (3, 56, 0), (0, 1, 1), (0, 1, 4089), (0, -2147483648, 2147483647), (0, 2, 2), (0, 2, 4090), (0, -2147483648, 2147483647), (0, 0, 2), (0, 1, 1), (0, 2, 2)], [(5, 21), (0, 0), (1, 1), (2, 2), (3, 3), (4, 4)], [20, 17, 2], [(4, 0, 19, 20, 0), (0, 19, 4, 0, 2), (0, 4, 19, 0, -2), (4, 0, 16, 17, 0), (0, 16, 4, 0, 1), (0, 4, 16, 0, -1), (0, 4, 5, 0, -8), (3, 0, 5, 0, 0), (2, 2, 7, 6, 0), (2, 6, 2, 7, 0), (2, 2, 8, 8, 0), (2, 8, 2, 9, 0), (2, 2, 9, 10, 0), (2, 10, 2, 11, 0), (2, 1, 1, 12, 0), (2, 2, 3, 13, 0), (0, 12, 13, 0, 0), (0, 13, 12, 0, 0), (2, 2, 10, 14, 0), (0, 12, 4, 0, 0), (0, 13, 4, 0, 0)], 0, 0, [])
theorem lY1_f_824 : chk zrx zi wT (wRo wSites_15) (wRo wTags_15) lC_f [] 0 0 15 3000 false [(838, lYa_f_824, [])] none 57 243 824 (vZ lM_f) (fun _ _ => false) = true := by decide +kernel
theorem lY2_f_824 : chk zrx zi wT (wRo wSites_15) (wRo wTags_15) lC_f [] 0 0 22 3000 false [(856, lYc_f_824, [])] none 57 243 841 lYb_f_824 (fun _ _ => false) = true := by decide +kernel
theorem lV1_f_824 : cvOk zrx zi wT 243 838 56 lYa_f_824 k_L_pledge = true := by decide +kernel
theorem lV2_f_824 : cvOk zrx zi wT 243 856 56 lYc_f_824 k_X15_pledge = true := by decide +kernel
theorem lYn_f_824 : lYb_f_824.1.length = 22 := by decide +kernel
theorem lYr_f_824 : (vZ lM_f).2.2.2.1.all (fun f => !(f.1 == 7)) = true ∧ lYa_f_824.2.2.2.1.all (fun f => !(f.1 == 7)) = true ∧ (cvS zi lYa_f_824 k_L_pledge (cx1 k_L_pledge)).2.2.2.1.all (fun f => !(f.1 == 7)) = true ∧ lYc_f_824.2.2.2.1.all (fun f => !(f.1 == 7)) = true := by decide +kernel
def lYd0_f_824 : sS := vZ (cvS zi lYc_f_824 k_X15_pledge (cxi k_X15_pledge 0))
theorem lYd0_f_824n : lYd0_f_824.1.length = 25 ∧ (cvS zi lYc_f_824 k_X15_pledge (cxi k_X15_pledge 0)).2.2.2.1.all (fun f => !(f.1 == 7)) = true := by decide +kernel
theorem lY3_f_824_0 : chk zrx zi wT (wRo wSites_15) (wRo wTags_15) lC_f [] 0 0 15 3000 false [(27, lT_fza, [])] none 57 243 859 lYd0_f_824 (fun _ _ => false) = true := by decide +kernel
set_option maxRecDepth 20000 in
theorem lA_f_824 {n : Nat} (ih : lIH n) {hb ub : Nat} {N : Int} {ρ : List Nat} {ν : List Value} {lv : List (Nat × Value)} {st : List Value} {h : List zC} {u : Nat} {i R C A : Int32} {F : Int} (hA : gA hb ub ρ ν lM_f lv st h u) (hH : tHeap wT N ρ h) (v4 : ν[4]? = some (.int i)) (v7 : ν[7]? = some (.int R)) (v9 : ν[9]? = some (.int C)) (v11 : ν[11]? = some (.int A))
    (i4 : i.toInt ≤ 4096) (acc : lAcc true hb ub i.toInt R.toInt C.toInt A.toInt F) (rm1 : (ub : Int) + 17920 ≤ zSN) (rm2 : (hb : Int) + 1152 ≤ zCM) (hn : 4104 - i.toInt ≤ (n + 1 : Nat)) (hR : lR ρ ν h) : zE zrx zi 57 243 824 lv st h u lKK := by
  obtain ⟨dl1, dl2, dl3, dl4⟩ := lD_lo R.toInt C.toInt A.toInt
  obtain ⟨r0, ra, rb, rc⟩ := lYr_f_824
  have q0 : (h.length : Int) - hb ≤ 0 := hA.2.2.2.2.1
  have q1 : (u : Int) - ub ≤ 0 := hA.2.2.2.2.2
  have hlen : ν.length ≤ 15 := by
    rw [← hA.1.1]
    exact Nat.le_of_eq rfl
  refine seg wT_ok lC_f_ok 3000 lY1_f_824 (Nat.le_refl _) (nExt.refl ν) hlen (hA.reb r0) rfl rfl hH (by omega) (by omega) ?_
  intro x hx N1 ρ1 ν1 lv1 st1 h1 u1 x1 hA1 hH1 hF1 hP1
  rw [List.mem_singleton.mp hx] at hA1 ⊢
  clear hx x
  dsimp only at hA1 ⊢
  have hR1 := hR.fr hH hF1 hP1 x1 stW_nil rW_nil
  have b1 : (h1.length : Int) - h.length ≤ 0 := Int.le_trans (hA1.cost (by decide +kernel)).1 (by decide +kernel)
  have b2 : (u1 : Int) - u ≤ 0 := Int.le_trans (hA1.cost (by decide +kernel)).2 (by decide +kernel)
  have hT : gSt ν1 [3, 20, 17, 1] st1 := hA1.2.2.1
  obtain ⟨w0, sa0, ea0, o0, ha0⟩ := hT.inv
  subst ea0
  rw [hR1.2.2.2.1] at o0
  cases o0
  obtain ⟨w1, sa1, ea1, o1, ha1⟩ := ha0.inv
  subst ea1
  obtain ⟨p20, rfl, -⟩ := hA1.int o1 rfl
  obtain ⟨w2, sa2, ea2, o2, ha2⟩ := ha1.inv
  subst ea2
  obtain ⟨p17, rfl, -⟩ := hA1.int o2 rfl
  obtain ⟨w3, sa3, ea3, o3, ha3⟩ := ha2.inv
  subst ea3
  rw [hR1.2.1] at o3
  cases o3
  cases ha3.nil
  obtain ⟨T, L, fs, fa, fbd, t1, t3, fm1⟩ := hR1.2.2.2.2.2.1.1
  obtain ⟨cnt, el, c0, c2, c1, cel, h0c, h24, -⟩ := id (hR1.2.2.2.2.2.1.2.1)
  obtain ⟨dd, d1, d2, d3⟩ := id (hR1.2.2.2.2.2.2.2.2.1)
  have t2 : L ≤ 60 := fm1.l60
  refine call_val con_L_pledge vr_243_838 lV1_f_824 rfl rfl (hA1.reb ra) hH1 (by have : k_L_pledge.2.2.2.2.1 = 1 := rfl; omega) (by have : k_L_pledge.2.2.2.2.2.1 = 6 := rfl; omega) rfl (fun n => C_Lpledge n p17 p20 h1 u1 hR1.2.2.2.2.1 c0 h24) ?_
  intro N2 ρ2 ν2 v h2 u2 n2 x2 hA2 hH2 hF2 hP2 V1
  obtain ⟨k, hk, V1⟩ := V1
  cases hk
  have V1 : Q_Lpledge cnt p17 p20 h1 (.inl (some (.int k))) h2 u2 := ⟨k, rfl, V1⟩
  have b3 : (h2.length : Int) - h1.length ≤ 1 := Int.le_trans (hA2.cost (by decide +kernel)).1 (by decide +kernel)
  have b4 : (u2 : Int) - u1 ≤ 6 := Int.le_trans (hA2.cost (by decide +kernel)).2 (by decide +kernel)
  have hTk : ν2[21]? = some (.int k) := gSt_hd hA2.2.2.1 (by decide +kernel)
  have hlen2 : ν2.length ≤ 22 := by
    rw [← hA2.1.1]
    exact Nat.le_of_eq lYn_f_824
  have hS2 : Stc h2 := hR1.2.2.2.2.1.fr hR1.1 hF2 stW_L_pledge
  have hRo2 : Ro ρ2 := hR1.1.pre hP2
  show zE zrx zi 57 243 841 lv1 _ h2 u2 lKK
  refine seg wT_ok lC_f_ok 3000 lY2_f_824 (Nat.le_refl _) (nExt.refl ν2) hlen2 (hA2.reb rb) rfl rfl hH2 (by omega) (by omega) ?_
  intro x hx N3 ρ3 ν3 lv3 st3 h3 u3 x3 hA3 hH3 hF3 hP3
  rw [List.mem_singleton.mp hx] at hA3 ⊢
  clear hx x
  dsimp only at hA3 ⊢
  have hS3 : Stc h3 := hS2.fr hRo2 hF3 stW_nil
  have b5 : (h3.length : Int) - h2.length ≤ 0 := Int.le_trans (hA3.cost (by decide +kernel)).1 (by decide +kernel)
  have b6 : (u3 : Int) - u2 ≤ 0 := Int.le_trans (hA3.cost (by decide +kernel)).2 (by decide +kernel)
  have hE : ∀ p, p < h2.length → ∀ k, gF h3 p k = gF h2 p k := fun p hp k => gFr_F0 hF3 hH2.1 hp k
  have hT : gSt ν3 [20, 17, 2] st3 := hA3.2.2.1
  obtain ⟨w0, sb0, eb0, c0, hb0⟩ := hT.inv
  subst eb0
  rw [x3 _ _ (x2 _ _ o1)] at c0
  cases c0
  obtain ⟨w1, sb1, eb1, c1, hb1⟩ := hb0.inv
  subst eb1
  rw [x3 _ _ (x2 _ _ o2)] at c1
  cases c1
  obtain ⟨w2, sb2, eb2, c2, hb2⟩ := hb1.inv
  subst eb2
  rw [x3 _ _ (x2 _ _ hR1.2.2.1)] at c2
  cases c2
  cases hb2.nil
  have hl1 := hR1.2.2.2.2.1.1
  have hl2 := gFr_len hF2
  have hl3 := gFr_len hF3
  have ro3 : Ro ρ3 := hRo2.pre hP3
  have m2 := (hE 225 (by omega) 2).trans ((gFr_F hF2 (hR1.1 225 51 (by decide +kernel)) (by decide +kernel) (by omega)).trans c2)
  have m1 := (hE 225 (by omega) 1).trans ((gFr_F hF2 (hR1.1 225 51 (by decide +kernel)) (by decide +kernel) (by omega)).trans c1)
  obtain ⟨⟨l, l1, l2⟩, l3, l4, l5, l6, l7, l8⟩ := al_at hH3 ro3 m1 m2
  have l213 : ¬ el = 213 := by omega
  have hA7 : ∀ k, k < cnt.toNatClampNeg → ∃ A : Nat, gF h3 el k = some (.ref A) ∧ 239 ≤ A := fun k hk => by
    obtain ⟨e, e1, e2⟩ := l8 k hk
    exact ⟨e, e1, A_new ro3 e2⟩
  refine call_val con_X15_pledge vr_243_856 lV2_f_824 rfl rfl (hA3.reb rc) hH3 (by have : k_X15_pledge.2.2.2.2.1 = 0 := rfl; omega) (by have : k_X15_pledge.2.2.2.2.2.1 = 0 := rfl; omega) rfl (fun n => C_mpledge n p17 p20 h3 u3 hS3 m1 m2 h0c l213 hA7 (len_236 hH3 ro3)) ?_
  intro N4 ρ4 ν4 v h4 u4 n4 x4 hA4 hH4 hF4 hP4 V2
  obtain ⟨nd, rd⟩ := lYd0_f_824n
  obtain ⟨r, hr⟩ : ∃ r : Int32, v = .int r := by
    first
      | (obtain ⟨r, h0, hr, -⟩ := V2; cases hr; exact ⟨r, rfl⟩)
      | (obtain ⟨r, hr, -⟩ := V2; cases hr; exact ⟨r, rfl⟩)
  subst hr
  have b7 : (h4.length : Int) - h3.length ≤ 0 := Int.le_trans (hA4.cost (by decide +kernel)).1 (by decide +kernel)
  have b8 : (u4 : Int) - u3 ≤ 0 := Int.le_trans (hA4.cost (by decide +kernel)).2 (by decide +kernel)
  have z1 := ((by
    obtain ⟨y1, y2, y3, y4⟩ := sum_pledge hl1 hH1 hR1.1 (hR1.2.2.2.2.2.1.2.2.1) (hR1.2.2.2.2.2.1.2.1) c0 c1 h0c h24 hl2 V1 hE V2
    exact ⟨⟨⟨qFed.fr3 (hR1.2.2.2.2.2.1.1) hR1.2.2.2.2.1 hR1.1 hH1 hF2 (by decide +kernel) hS2 hRo2 hH2 hF3 hS3 (hRo2.pre hP3) hH3 hF4 (by decide +kernel), qAR.fr3 (hR1.2.2.2.2.2.1.2.1) hR1.2.2.2.2.1 hR1.1 hH1 hF2 (by decide +kernel) hS2 hRo2 hH2 hF3 hS3 (hRo2.pre hP3) hH3 hF4 (by decide +kernel), y1, qEX.fr3 (hR1.2.2.2.2.2.1.2.2.2) hR1.2.2.2.2.1 hR1.1 hH1 hF2 (by decide +kernel) hS2 hRo2 hH2 hF3 hS3 (hRo2.pre hP3) hH3 hF4 (by decide +kernel)⟩, ⟨qRFu.fr3 (hR1.2.2.2.2.2.2.1.1) hR1.2.2.2.2.1 hR1.1 hH1 hF2 (by decide +kernel) hS2 hRo2 hH2 hF3 hS3 (hRo2.pre hP3) hH3 hF4 (by decide +kernel), qRCs.fr3 (hR1.2.2.2.2.2.2.1.2.1) hR1.2.2.2.2.1 hR1.1 hH1 hF2 (by decide +kernel) hS2 hRo2 hH2 hF3 hS3 (hRo2.pre hP3) hH3 hF4 (by decide +kernel), qVd.fr3 (hR1.2.2.2.2.2.2.1.2.2) hR1.2.2.2.2.1 hR1.1 hH1 hF2 (by decide +kernel) hS2 hRo2 hH2 hF3 hS3 (hRo2.pre hP3) hH3 hF4 (by decide +kernel)⟩, ⟨Rw.fr3 (hR1.2.2.2.2.2.2.2.1.1) hR1.2.2.2.2.1 hR1.1 hH1 hF2 (by decide +kernel) hS2 hRo2 hH2 hF3 hS3 (hRo2.pre hP3) hH3 hF4 (by decide +kernel), qSm.fr3T (hR1.2.2.2.2.2.2.2.1.2.1) hR1.2.2.2.2.1 hR1.1 hH1 hF2 (by decide +kernel) hS2 hRo2 hH2 hF3 hS3 (hRo2.pre hP3) hH3 hF4 (by decide +kernel), qSm.fr3Y (hR1.2.2.2.2.2.2.2.1.2.2) hR1.2.2.2.2.1 hR1.1 hH1 hF2 (by decide +kernel) hS2 hRo2 hH2 hF3 hS3 (hRo2.pre hP3) hH3 hF4 (by decide +kernel)⟩, qDz.fr3 (hR1.2.2.2.2.2.2.2.2.1) hR1.2.2.2.2.1 hR1.1 hH1 hF2 (by decide +kernel) hS2 hRo2 hH2 hF3 hS3 (hRo2.pre hP3) hH3 hF4 (by decide +kernel), qRv.fr3 (hR1.2.2.2.2.2.2.2.2.2) hR1.2.2.2.2.1 hR1.1 hH1 hF2 (by decide +kernel) hS2 hRo2 hH2 hF3 hS3 (hRo2.pre hP3) hH3 hF4 (by decide +kernel)⟩, trivial⟩ : qAll h4 ∧ True)).1
  have hR4 : lR ρ4 ν4 h4 := ⟨(hRo2.pre hP3).pre hP4, x4 _ _ (x3 _ _ (x2 _ _ hR1.2.1)), x4 _ _ (x3 _ _ (x2 _ _ hR1.2.2.1)), x4 _ _ (x3 _ _ (x2 _ _ hR1.2.2.2.1)), hS3.fr (hRo2.pre hP3) hF4 stW_X15_pledge, z1⟩
  have x14 : nExt ν ν4 := x1.trans (x2.trans (x3.trans x4))
  have hA4 := hA4.reb rd
  show zE zrx zi 57 243 859 lv3 _ h4 u4 lKK
  refine seg wT_ok lC_f_ok 3000 lY3_f_824_0 (Nat.le_refl _) x14 hlen hA4 rfl rfl hH4 (by omega) (by omega) ?_
  intro x hx N5 ρ5 ν5 lv5 st5 h5 u5 x5 hA5 hH5 hF5 hP5
  rw [List.mem_singleton.mp hx] at hA5 ⊢
  clear hx x
  dsimp only at hA5 ⊢
  have b9 : (h5.length : Int) - h4.length ≤ 0 := Int.le_trans (hA5.cost (by decide +kernel)).1 (by decide +kernel)
  have c1 : (u5 : Int) - u4 ≤ 0 := Int.le_trans (hA5.cost (by decide +kernel)).2 (by decide +kernel)
  obtain ⟨j, j1, j2⟩ := l_i hA5 rfl rfl (x5 _ _ v4)
  exact l_next (g := true) ih [0, 1, 2, 3, 15, 5, 6, 7, 8, 9, 10, 11, 12, 13, 14] (by decide +kernel) (by decide +kernel) hA5 rfl hH5 rfl rfl rfl rfl j1 (x5 _ _ v7) (x5 _ _ v9) (x5 _ _ v11) (acc.dear j2 (by omega) (by omega) true (fun z => z)) (by omega) rfl rfl rfl (lR.fr ⟨hR4.1, x5 _ _ (hR.2.1), x5 _ _ (hR.2.2.1), x5 _ _ (hR.2.2.2.1), hR4.2.2.2.2⟩ hH4 hF5 hP5 (nExt.refl ν5) stW_nil rW_nil)
def lYa_f_864 : sS := ([(3, 0, 0), (3, 8, 0), (3, 40, 0), (3, 36, 0), (0, 0, 4088), (0, 8, 4096), (3, 45, 0), (0, 0, 40), (3, 48, 0), (0, 0, 24), (3, 51, 0), (0, 0, 24), (0, 0, 4088), (0, 0, 4088), (3, 56, 0), (0, 1, 1), (0, 1, 4089), (0, -2147483648, 2147483647)], [(0, 0), (1, 1), (2, 2), (3, 3), (4, 4)], [3, 17, 1], [(4, 0, 16, 17, 0), (0, 16, 4, 0, 1), (0, 4, 16, 0, -1), (0, 4, 5, 0, -8), (3, 0, 5, 0, 0), (2, 2, 7, 6, 0), (2, 6, 2, 7, 0), (2, 2, 8, 8, 0), (2, 8, 2, 9, 0), (2, 2, 9, 10, 0), (2, 10, 2, 11, 0), (2, 1, 1, 12, 0), (2, 2, 3, 13, 0), (0, 12, 13, 0, 0), (0, 13, 12, 0, 0), (2, 2, 10, 14, 0), (0, 12, 4, 0, 0), (0, 13, 4, 0, 0)], 0, 0, [])
def lYb_f_864 : sS := vZ (cvS zi lYa_f_864 k_L_vote (cx1 k_L_vote))
def lYc_f_864 : sS := ([(3, 0, 0), (3, 8, 0), (3, 40, 0), (3, 36, 0), (0, 0, 4088), (0, 8, 4096), (3, 45, 0), (0, 0, 40), (3, 48, 0), (0, 0, 24), (3, 51, 0), (0, 0, 24), (0, 0, 4088), (0, 0, 4088), (3, 56, 0), (0, 1, 1), (0, 1, 4089), (0, -2147483648, 2147483647), (0, 0, 2), (0, 1, 1)], [(5, 18), (0, 0), (1, 1), (2, 2), (3, 3), (4, 4)], [17, 2], [(4, 0, 16, 17, 0), (0, 16, 4, 0, 1), (0, 4, 16, 0, -1), (0, 4, 5, 0, -8), (3, 0, 5, 0, 0), (2, 2, 7, 6, 0), (2, 6, 2, 7, 0), (2, 2, 8, 8, 0), (2, 8, 2, 9, 0), (2, 2, 9, 10, 0), (2, 10, 2, 11, 0), (2, 1, 1, 12, 0), (2, 2, 3, 13, 0), (0, 12, 13, 0, 0), (0, 13, 12, 0, 0), (2, 2, 10, 14, 0), (0, 12, 4, 0, 0), (0, 13, 4, 0, 0)], 0, 0, [])
theorem lY1_f_864 : chk zrx zi wT (wRo wSites_15) (wRo wTags_15) lC_f [] 0 0 15 3000 false [(872, lYa_f_864, [])] none 57 243 864 (vZ lM_f) (fun _ _ => false) = true := by decide +kernel
theorem lY2_f_864 : chk zrx zi wT (wRo wSites_15) (wRo wTags_15) lC_f [] 0 0 19 3000 false [(884, lYc_f_864, [])] none 57 243 875 lYb_f_864 (fun _ _ => false) = true := by decide +kernel
theorem lV1_f_864 : cvOk zrx zi wT 243 872 56 lYa_f_864 k_L_vote = true := by decide +kernel
theorem lV2_f_864 : cvOk zrx zi wT 243 884 56 lYc_f_864 k_X15_vote = true := by decide +kernel
theorem lYn_f_864 : lYb_f_864.1.length = 19 := by decide +kernel
theorem lYr_f_864 : (vZ lM_f).2.2.2.1.all (fun f => !(f.1 == 7)) = true ∧ lYa_f_864.2.2.2.1.all (fun f => !(f.1 == 7)) = true ∧ (cvS zi lYa_f_864 k_L_vote (cx1 k_L_vote)).2.2.2.1.all (fun f => !(f.1 == 7)) = true ∧ lYc_f_864.2.2.2.1.all (fun f => !(f.1 == 7)) = true := by decide +kernel
def lYd0_f_864 : sS := vZ (cvS zi lYc_f_864 k_X15_vote (cxi k_X15_vote 0))
theorem lYd0_f_864n : lYd0_f_864.1.length = 21 ∧ (cvS zi lYc_f_864 k_X15_vote (cxi k_X15_vote 0)).2.2.2.1.all (fun f => !(f.1 == 7)) = true := by decide +kernel
theorem lY3_f_864_0 : chk zrx zi wT (wRo wSites_15) (wRo wTags_15) lC_f [] 0 0 15 3000 false [(27, lT_fza, [])] none 57 243 887 lYd0_f_864 (fun _ _ => false) = true := by decide +kernel
set_option maxRecDepth 20000 in
theorem lA_f_864 {n : Nat} (ih : lIH n) {hb ub : Nat} {N : Int} {ρ : List Nat} {ν : List Value} {lv : List (Nat × Value)} {st : List Value} {h : List zC} {u : Nat} {i R C A : Int32} {F : Int} (hA : gA hb ub ρ ν lM_f lv st h u) (hH : tHeap wT N ρ h) (v4 : ν[4]? = some (.int i)) (v7 : ν[7]? = some (.int R)) (v9 : ν[9]? = some (.int C)) (v11 : ν[11]? = some (.int A))
    (i4 : i.toInt ≤ 4096) (acc : lAcc true hb ub i.toInt R.toInt C.toInt A.toInt F) (rm1 : (ub : Int) + 17920 ≤ zSN) (rm2 : (hb : Int) + 1152 ≤ zCM) (hn : 4104 - i.toInt ≤ (n + 1 : Nat)) (hR : lR ρ ν h) : zE zrx zi 57 243 864 lv st h u lKK := by
  obtain ⟨dl1, dl2, dl3, dl4⟩ := lD_lo R.toInt C.toInt A.toInt
  obtain ⟨r0, ra, rb, rc⟩ := lYr_f_864
  have q0 : (h.length : Int) - hb ≤ 0 := hA.2.2.2.2.1
  have q1 : (u : Int) - ub ≤ 0 := hA.2.2.2.2.2
  have hlen : ν.length ≤ 15 := by
    rw [← hA.1.1]
    exact Nat.le_of_eq rfl
  refine seg wT_ok lC_f_ok 3000 lY1_f_864 (Nat.le_refl _) (nExt.refl ν) hlen (hA.reb r0) rfl rfl hH (by omega) (by omega) ?_
  intro x hx N1 ρ1 ν1 lv1 st1 h1 u1 x1 hA1 hH1 hF1 hP1
  rw [List.mem_singleton.mp hx] at hA1 ⊢
  clear hx x
  dsimp only at hA1 ⊢
  have hR1 := hR.fr hH hF1 hP1 x1 stW_nil rW_nil
  have b1 : (h1.length : Int) - h.length ≤ 0 := Int.le_trans (hA1.cost (by decide +kernel)).1 (by decide +kernel)
  have b2 : (u1 : Int) - u ≤ 0 := Int.le_trans (hA1.cost (by decide +kernel)).2 (by decide +kernel)
  have hT : gSt ν1 [3, 17, 1] st1 := hA1.2.2.1
  obtain ⟨w0, sa0, ea0, o0, ha0⟩ := hT.inv
  subst ea0
  rw [hR1.2.2.2.1] at o0
  cases o0
  obtain ⟨w1, sa1, ea1, o1, ha1⟩ := ha0.inv
  subst ea1
  obtain ⟨p17, rfl, -⟩ := hA1.int o1 rfl
  obtain ⟨w2, sa2, ea2, o2, ha2⟩ := ha1.inv
  subst ea2
  rw [hR1.2.1] at o2
  cases o2
  cases ha2.nil
  obtain ⟨T, L, fs, fa, fbd, t1, t3, fm1⟩ := hR1.2.2.2.2.2.1.1
  obtain ⟨cnt, el, c0, c2, c1, cel, h0c, h24, -⟩ := id (hR1.2.2.2.2.2.1.2.1)
  obtain ⟨dd, d1, d2, d3⟩ := id (hR1.2.2.2.2.2.2.2.2.1)
  have t2 : L ≤ 60 := fm1.l60
  refine call_val con_L_vote vr_243_872 lV1_f_864 rfl rfl (hA1.reb ra) hH1 (by have : k_L_vote.2.2.2.2.1 = 1 := rfl; omega) (by have : k_L_vote.2.2.2.2.2.1 = 6 := rfl; omega) rfl (fun n => C_Lvote n p17 h1 u1 hR1.2.2.2.2.1 c0 h24 (clause_at (hR1.2.2.2.2.2.1.2.1) c0)) ?_
  intro N2 ρ2 ν2 v h2 u2 n2 x2 hA2 hH2 hF2 hP2 V1
  obtain ⟨k, hk, V1⟩ := V1
  cases hk
  have V1 : Q_Lvote cnt p17 h1 (.inl (some (.int k))) h2 u2 := ⟨k, rfl, V1⟩
  have b3 : (h2.length : Int) - h1.length ≤ 1 := Int.le_trans (hA2.cost (by decide +kernel)).1 (by decide +kernel)
  have b4 : (u2 : Int) - u1 ≤ 6 := Int.le_trans (hA2.cost (by decide +kernel)).2 (by decide +kernel)
  have hTk : ν2[18]? = some (.int k) := gSt_hd hA2.2.2.1 (by decide +kernel)
  have hlen2 : ν2.length ≤ 19 := by
    rw [← hA2.1.1]
    exact Nat.le_of_eq lYn_f_864
  have hS2 : Stc h2 := hR1.2.2.2.2.1.fr hR1.1 hF2 stW_L_vote
  have hRo2 : Ro ρ2 := hR1.1.pre hP2
  show zE zrx zi 57 243 875 lv1 _ h2 u2 lKK
  refine seg wT_ok lC_f_ok 3000 lY2_f_864 (Nat.le_refl _) (nExt.refl ν2) hlen2 (hA2.reb rb) rfl rfl hH2 (by omega) (by omega) ?_
  intro x hx N3 ρ3 ν3 lv3 st3 h3 u3 x3 hA3 hH3 hF3 hP3
  rw [List.mem_singleton.mp hx] at hA3 ⊢
  clear hx x
  dsimp only at hA3 ⊢
  have hS3 : Stc h3 := hS2.fr hRo2 hF3 stW_nil
  have b5 : (h3.length : Int) - h2.length ≤ 0 := Int.le_trans (hA3.cost (by decide +kernel)).1 (by decide +kernel)
  have b6 : (u3 : Int) - u2 ≤ 0 := Int.le_trans (hA3.cost (by decide +kernel)).2 (by decide +kernel)
  have hE : ∀ p, p < h2.length → ∀ k, gF h3 p k = gF h2 p k := fun p hp k => gFr_F0 hF3 hH2.1 hp k
  have hT : gSt ν3 [17, 2] st3 := hA3.2.2.1
  obtain ⟨w0, sb0, eb0, c0, hb0⟩ := hT.inv
  subst eb0
  rw [x3 _ _ (x2 _ _ o1)] at c0
  cases c0
  obtain ⟨w1, sb1, eb1, c1, hb1⟩ := hb0.inv
  subst eb1
  rw [x3 _ _ (x2 _ _ hR1.2.2.1)] at c1
  cases c1
  cases hb1.nil
  have hl1 := hR1.2.2.2.2.1.1
  have hl2 := gFr_len hF2
  have hl3 := gFr_len hF3
  have ro3 : Ro ρ3 := hRo2.pre hP3
  have m2 := (hE 225 (by omega) 2).trans ((gFr_F hF2 (hR1.1 225 51 (by decide +kernel)) (by decide +kernel) (by omega)).trans c2)
  have m1 := (hE 225 (by omega) 1).trans ((gFr_F hF2 (hR1.1 225 51 (by decide +kernel)) (by decide +kernel) (by omega)).trans c1)
  obtain ⟨⟨l, l1, l2⟩, l3, l4, l5, l6, l7, l8⟩ := al_at hH3 ro3 m1 m2
  have l213 : ¬ el = 213 := by omega
  have hA7 : ∀ k, k < cnt.toNatClampNeg → ∃ A : Nat, gF h3 el k = some (.ref A) ∧ 239 ≤ A := fun k hk => by
    obtain ⟨e, e1, e2⟩ := l8 k hk
    exact ⟨e, e1, A_new ro3 e2⟩
  refine call_val con_X15_vote vr_243_884 lV2_f_864 rfl rfl (hA3.reb rc) hH3 (by have : k_X15_vote.2.2.2.2.1 = 0 := rfl; omega) (by have : k_X15_vote.2.2.2.2.2.1 = 0 := rfl; omega) rfl (fun n => C_mvote n p17 h3 u3 hS3 m1 m2 h0c l213 hA7 (fun hx A hA => by
    obtain ⟨e, e1, e2⟩ := l8 _ (iN_cl h0c hx)
    rw [hA] at e1
    cases e1
    exact art_ints hH3 e2)) ?_
  intro N4 ρ4 ν4 v h4 u4 n4 x4 hA4 hH4 hF4 hP4 V2
  obtain ⟨nd, rd⟩ := lYd0_f_864n
  obtain ⟨r, hr⟩ : ∃ r : Int32, v = .int r := by
    first
      | (obtain ⟨r, h0, hr, -⟩ := V2; cases hr; exact ⟨r, rfl⟩)
      | (obtain ⟨r, hr, -⟩ := V2; cases hr; exact ⟨r, rfl⟩)
  subst hr
  have b7 : (h4.length : Int) - h3.length ≤ 0 := Int.le_trans (hA4.cost (by decide +kernel)).1 (by decide +kernel)
  have b8 : (u4 : Int) - u3 ≤ 0 := Int.le_trans (hA4.cost (by decide +kernel)).2 (by decide +kernel)
  have z1 := ((by
    obtain ⟨⟨y1, y5⟩, y2, y3, y4⟩ := sum_vote hl1 hH1 hR1.1 (hR1.2.2.2.2.2.1.2.2.1) (hR1.2.2.2.2.2.1.2.1) d1 d2 c0 c1 h0c h24 hl2 V1 hE V2
    exact ⟨⟨⟨qFed.fr3 (hR1.2.2.2.2.2.1.1) hR1.2.2.2.2.1 hR1.1 hH1 hF2 (by decide +kernel) hS2 hRo2 hH2 hF3 hS3 (hRo2.pre hP3) hH3 hF4 (by decide +kernel), y5, y1, (exX_vote (hR1.2.2.2.2.2.1.2.2.2) h24 d1 d3 V1).fr2 hS2 hRo2 hH2 hF3 hS3 (hRo2.pre hP3) hH3 hF4 (by decide +kernel)⟩, ⟨qRFu.fr3 (hR1.2.2.2.2.2.2.1.1) hR1.2.2.2.2.1 hR1.1 hH1 hF2 (by decide +kernel) hS2 hRo2 hH2 hF3 hS3 (hRo2.pre hP3) hH3 hF4 (by decide +kernel), qRCs.fr3 (hR1.2.2.2.2.2.2.1.2.1) hR1.2.2.2.2.1 hR1.1 hH1 hF2 (by decide +kernel) hS2 hRo2 hH2 hF3 hS3 (hRo2.pre hP3) hH3 hF4 (by decide +kernel), qVd.fr3 (hR1.2.2.2.2.2.2.1.2.2) hR1.2.2.2.2.1 hR1.1 hH1 hF2 (by decide +kernel) hS2 hRo2 hH2 hF3 hS3 (hRo2.pre hP3) hH3 hF4 (by decide +kernel)⟩, ⟨Rw.fr3 (hR1.2.2.2.2.2.2.2.1.1) hR1.2.2.2.2.1 hR1.1 hH1 hF2 (by decide +kernel) hS2 hRo2 hH2 hF3 hS3 (hRo2.pre hP3) hH3 hF4 (by decide +kernel), qSm.fr3T (hR1.2.2.2.2.2.2.2.1.2.1) hR1.2.2.2.2.1 hR1.1 hH1 hF2 (by decide +kernel) hS2 hRo2 hH2 hF3 hS3 (hRo2.pre hP3) hH3 hF4 (by decide +kernel), qSm.fr3Y (hR1.2.2.2.2.2.2.2.1.2.2) hR1.2.2.2.2.1 hR1.1 hH1 hF2 (by decide +kernel) hS2 hRo2 hH2 hF3 hS3 (hRo2.pre hP3) hH3 hF4 (by decide +kernel)⟩, qDz.fr3 (hR1.2.2.2.2.2.2.2.2.1) hR1.2.2.2.2.1 hR1.1 hH1 hF2 (by decide +kernel) hS2 hRo2 hH2 hF3 hS3 (hRo2.pre hP3) hH3 hF4 (by decide +kernel), qRv.fr3 (hR1.2.2.2.2.2.2.2.2.2) hR1.2.2.2.2.1 hR1.1 hH1 hF2 (by decide +kernel) hS2 hRo2 hH2 hF3 hS3 (hRo2.pre hP3) hH3 hF4 (by decide +kernel)⟩, trivial⟩ : qAll h4 ∧ True)).1
  have hR4 : lR ρ4 ν4 h4 := ⟨(hRo2.pre hP3).pre hP4, x4 _ _ (x3 _ _ (x2 _ _ hR1.2.1)), x4 _ _ (x3 _ _ (x2 _ _ hR1.2.2.1)), x4 _ _ (x3 _ _ (x2 _ _ hR1.2.2.2.1)), hS3.fr (hRo2.pre hP3) hF4 stW_X15_vote, z1⟩
  have x14 : nExt ν ν4 := x1.trans (x2.trans (x3.trans x4))
  have hA4 := hA4.reb rd
  show zE zrx zi 57 243 887 lv3 _ h4 u4 lKK
  refine seg wT_ok lC_f_ok 3000 lY3_f_864_0 (Nat.le_refl _) x14 hlen hA4 rfl rfl hH4 (by omega) (by omega) ?_
  intro x hx N5 ρ5 ν5 lv5 st5 h5 u5 x5 hA5 hH5 hF5 hP5
  rw [List.mem_singleton.mp hx] at hA5 ⊢
  clear hx x
  dsimp only at hA5 ⊢
  have b9 : (h5.length : Int) - h4.length ≤ 0 := Int.le_trans (hA5.cost (by decide +kernel)).1 (by decide +kernel)
  have c1 : (u5 : Int) - u4 ≤ 0 := Int.le_trans (hA5.cost (by decide +kernel)).2 (by decide +kernel)
  obtain ⟨j, j1, j2⟩ := l_i hA5 rfl rfl (x5 _ _ v4)
  exact l_next (g := true) ih [0, 1, 2, 3, 15, 5, 6, 7, 8, 9, 10, 11, 12, 13, 14] (by decide +kernel) (by decide +kernel) hA5 rfl hH5 rfl rfl rfl rfl j1 (x5 _ _ v7) (x5 _ _ v9) (x5 _ _ v11) (acc.dear j2 (by omega) (by omega) true (fun z => z)) (by omega) rfl rfl rfl (lR.fr ⟨hR4.1, x5 _ _ (hR.2.1), x5 _ _ (hR.2.2.1), x5 _ _ (hR.2.2.2.1), hR4.2.2.2.2⟩ hH4 hF5 hP5 (nExt.refl ν5) stW_nil rW_nil)
def lYa_f_892 : sS := ([(3, 0, 0), (3, 8, 0), (3, 40, 0), (3, 36, 0), (0, 0, 4088), (0, 8, 4096), (3, 45, 0), (0, 0, 40), (3, 48, 0), (0, 0, 24), (3, 51, 0), (0, 0, 24), (0, 0, 4088), (0, 0, 4088), (3, 56, 0), (0, 1, 1), (0, 1, 4089), (0, -2147483648, 2147483647)], [(0, 0), (1, 1), (2, 2), (3, 3), (4, 4)], [3, 17, 1], [(4, 0, 16, 17, 0), (0, 16, 4, 0, 1), (0, 4, 16, 0, -1), (0, 4, 5, 0, -8), (3, 0, 5, 0, 0), (2, 2, 7, 6, 0), (2, 6, 2, 7, 0), (2, 2, 8, 8, 0), (2, 8, 2, 9, 0), (2, 2, 9, 10, 0), (2, 10, 2, 11, 0), (2, 1, 1, 12, 0), (2, 2, 3, 13, 0), (0, 12, 13, 0, 0), (0, 13, 12, 0, 0), (2, 2, 10, 14, 0), (0, 12, 4, 0, 0), (0, 13, 4, 0, 0)], 0, 0, [])
def lYb_f_892 : sS := vZ (cvS zi lYa_f_892 k_L_repeal (cx1 k_L_repeal))
def lYc_f_892 : sS := ([(3, 0, 0), (3, 8, 0), (3, 40, 0), (3, 36, 0), (0, 0, 4088), (0, 8, 4096), (3, 45, 0), (0, 0, 40), (3, 48, 0), (0, 0, 24), (3, 51, 0), (0, 0, 24), (0, 0, 4088), (0, 0, 4088), (3, 56, 0), (0, 1, 1), (0, 1, 4089), (0, -2147483648, 2147483647), (0, 0, 2), (0, 1, 1)], [(5, 18), (0, 0), (1, 1), (2, 2), (3, 3), (4, 4)], [17, 2], [(4, 0, 16, 17, 0), (0, 16, 4, 0, 1), (0, 4, 16, 0, -1), (0, 4, 5, 0, -8), (3, 0, 5, 0, 0), (2, 2, 7, 6, 0), (2, 6, 2, 7, 0), (2, 2, 8, 8, 0), (2, 8, 2, 9, 0), (2, 2, 9, 10, 0), (2, 10, 2, 11, 0), (2, 1, 1, 12, 0), (2, 2, 3, 13, 0), (0, 12, 13, 0, 0), (0, 13, 12, 0, 0), (2, 2, 10, 14, 0), (0, 12, 4, 0, 0), (0, 13, 4, 0, 0)], 0, 0, [])
theorem lY1_f_892 : chk zrx zi wT (wRo wSites_15) (wRo wTags_15) lC_f [] 0 0 15 3000 false [(900, lYa_f_892, [])] none 57 243 892 (vZ lM_f) (fun _ _ => false) = true := by decide +kernel
theorem lY2_f_892 : chk zrx zi wT (wRo wSites_15) (wRo wTags_15) lC_f [] 0 0 19 3000 false [(912, lYc_f_892, [])] none 57 243 903 lYb_f_892 (fun _ _ => false) = true := by decide +kernel
theorem lV1_f_892 : cvOk zrx zi wT 243 900 56 lYa_f_892 k_L_repeal = true := by decide +kernel
theorem lV2_f_892 : cvOk zrx zi wT 243 912 56 lYc_f_892 k_X15_repeal = true := by decide +kernel
theorem lYn_f_892 : lYb_f_892.1.length = 19 := by decide +kernel
theorem lYr_f_892 : (vZ lM_f).2.2.2.1.all (fun f => !(f.1 == 7)) = true ∧ lYa_f_892.2.2.2.1.all (fun f => !(f.1 == 7)) = true ∧ (cvS zi lYa_f_892 k_L_repeal (cx1 k_L_repeal)).2.2.2.1.all (fun f => !(f.1 == 7)) = true ∧ lYc_f_892.2.2.2.1.all (fun f => !(f.1 == 7)) = true := by decide +kernel
def lYd0_f_892 : sS := vZ (cvS zi lYc_f_892 k_X15_repeal (cxi k_X15_repeal 0))
theorem lYd0_f_892n : lYd0_f_892.1.length = 21 ∧ (cvS zi lYc_f_892 k_X15_repeal (cxi k_X15_repeal 0)).2.2.2.1.all (fun f => !(f.1 == 7)) = true := by decide +kernel
theorem lY3_f_892_0 : chk zrx zi wT (wRo wSites_15) (wRo wTags_15) lC_f [] 0 0 15 3000 false [(27, lT_fza, [])] none 57 243 915 lYd0_f_892 (fun _ _ => false) = true := by decide +kernel
set_option maxRecDepth 20000 in
theorem lA_f_892 {n : Nat} (ih : lIH n) {hb ub : Nat} {N : Int} {ρ : List Nat} {ν : List Value} {lv : List (Nat × Value)} {st : List Value} {h : List zC} {u : Nat} {i R C A : Int32} {F : Int} (hA : gA hb ub ρ ν lM_f lv st h u) (hH : tHeap wT N ρ h) (v4 : ν[4]? = some (.int i)) (v7 : ν[7]? = some (.int R)) (v9 : ν[9]? = some (.int C)) (v11 : ν[11]? = some (.int A))
    (i4 : i.toInt ≤ 4096) (acc : lAcc true hb ub i.toInt R.toInt C.toInt A.toInt F) (rm1 : (ub : Int) + 17920 ≤ zSN) (rm2 : (hb : Int) + 1152 ≤ zCM) (hn : 4104 - i.toInt ≤ (n + 1 : Nat)) (hR : lR ρ ν h) : zE zrx zi 57 243 892 lv st h u lKK := by
  obtain ⟨dl1, dl2, dl3, dl4⟩ := lD_lo R.toInt C.toInt A.toInt
  obtain ⟨r0, ra, rb, rc⟩ := lYr_f_892
  have q0 : (h.length : Int) - hb ≤ 0 := hA.2.2.2.2.1
  have q1 : (u : Int) - ub ≤ 0 := hA.2.2.2.2.2
  have hlen : ν.length ≤ 15 := by
    rw [← hA.1.1]
    exact Nat.le_of_eq rfl
  refine seg wT_ok lC_f_ok 3000 lY1_f_892 (Nat.le_refl _) (nExt.refl ν) hlen (hA.reb r0) rfl rfl hH (by omega) (by omega) ?_
  intro x hx N1 ρ1 ν1 lv1 st1 h1 u1 x1 hA1 hH1 hF1 hP1
  rw [List.mem_singleton.mp hx] at hA1 ⊢
  clear hx x
  dsimp only at hA1 ⊢
  have hR1 := hR.fr hH hF1 hP1 x1 stW_nil rW_nil
  have b1 : (h1.length : Int) - h.length ≤ 0 := Int.le_trans (hA1.cost (by decide +kernel)).1 (by decide +kernel)
  have b2 : (u1 : Int) - u ≤ 0 := Int.le_trans (hA1.cost (by decide +kernel)).2 (by decide +kernel)
  have hT : gSt ν1 [3, 17, 1] st1 := hA1.2.2.1
  obtain ⟨w0, sa0, ea0, o0, ha0⟩ := hT.inv
  subst ea0
  rw [hR1.2.2.2.1] at o0
  cases o0
  obtain ⟨w1, sa1, ea1, o1, ha1⟩ := ha0.inv
  subst ea1
  obtain ⟨p17, rfl, -⟩ := hA1.int o1 rfl
  obtain ⟨w2, sa2, ea2, o2, ha2⟩ := ha1.inv
  subst ea2
  rw [hR1.2.1] at o2
  cases o2
  cases ha2.nil
  obtain ⟨T, L, fs, fa, fbd, t1, t3, fm1⟩ := hR1.2.2.2.2.2.1.1
  obtain ⟨cnt, el, c0, c2, c1, cel, h0c, h24, -⟩ := id (hR1.2.2.2.2.2.1.2.1)
  obtain ⟨dd, d1, d2, d3⟩ := id (hR1.2.2.2.2.2.2.2.2.1)
  have t2 : L ≤ 60 := fm1.l60
  refine call_val con_L_repeal vr_243_900 lV1_f_892 rfl rfl (hA1.reb ra) hH1 (by have : k_L_repeal.2.2.2.2.1 = 1 := rfl; omega) (by have : k_L_repeal.2.2.2.2.2.1 = 6 := rfl; omega) rfl (fun n => C_Lrepeal n p17 h1 u1 hR1.2.2.2.2.1 c0 h24 (clause_at (hR1.2.2.2.2.2.1.2.1) c0)) ?_
  intro N2 ρ2 ν2 v h2 u2 n2 x2 hA2 hH2 hF2 hP2 V1
  obtain ⟨k, hk, V1⟩ := V1
  cases hk
  have V1 : Q_Lrepeal cnt p17 h1 (.inl (some (.int k))) h2 u2 := ⟨k, rfl, V1⟩
  have b3 : (h2.length : Int) - h1.length ≤ 1 := Int.le_trans (hA2.cost (by decide +kernel)).1 (by decide +kernel)
  have b4 : (u2 : Int) - u1 ≤ 6 := Int.le_trans (hA2.cost (by decide +kernel)).2 (by decide +kernel)
  have hTk : ν2[18]? = some (.int k) := gSt_hd hA2.2.2.1 (by decide +kernel)
  have hlen2 : ν2.length ≤ 19 := by
    rw [← hA2.1.1]
    exact Nat.le_of_eq lYn_f_892
  have hS2 : Stc h2 := hR1.2.2.2.2.1.fr hR1.1 hF2 stW_L_repeal
  have hRo2 : Ro ρ2 := hR1.1.pre hP2
  show zE zrx zi 57 243 903 lv1 _ h2 u2 lKK
  refine seg wT_ok lC_f_ok 3000 lY2_f_892 (Nat.le_refl _) (nExt.refl ν2) hlen2 (hA2.reb rb) rfl rfl hH2 (by omega) (by omega) ?_
  intro x hx N3 ρ3 ν3 lv3 st3 h3 u3 x3 hA3 hH3 hF3 hP3
  rw [List.mem_singleton.mp hx] at hA3 ⊢
  clear hx x
  dsimp only at hA3 ⊢
  have hS3 : Stc h3 := hS2.fr hRo2 hF3 stW_nil
  have b5 : (h3.length : Int) - h2.length ≤ 0 := Int.le_trans (hA3.cost (by decide +kernel)).1 (by decide +kernel)
  have b6 : (u3 : Int) - u2 ≤ 0 := Int.le_trans (hA3.cost (by decide +kernel)).2 (by decide +kernel)
  have hE : ∀ p, p < h2.length → ∀ k, gF h3 p k = gF h2 p k := fun p hp k => gFr_F0 hF3 hH2.1 hp k
  have hT : gSt ν3 [17, 2] st3 := hA3.2.2.1
  obtain ⟨w0, sb0, eb0, c0, hb0⟩ := hT.inv
  subst eb0
  rw [x3 _ _ (x2 _ _ o1)] at c0
  cases c0
  obtain ⟨w1, sb1, eb1, c1, hb1⟩ := hb0.inv
  subst eb1
  rw [x3 _ _ (x2 _ _ hR1.2.2.1)] at c1
  cases c1
  cases hb1.nil
  have hl1 := hR1.2.2.2.2.1.1
  have hl2 := gFr_len hF2
  have hl3 := gFr_len hF3
  have ro3 : Ro ρ3 := hRo2.pre hP3
  have m2 := (hE 225 (by omega) 2).trans ((gFr_F hF2 (hR1.1 225 51 (by decide +kernel)) (by decide +kernel) (by omega)).trans c2)
  have m1 := (hE 225 (by omega) 1).trans ((gFr_F hF2 (hR1.1 225 51 (by decide +kernel)) (by decide +kernel) (by omega)).trans c1)
  obtain ⟨⟨l, l1, l2⟩, l3, l4, l5, l6, l7, l8⟩ := al_at hH3 ro3 m1 m2
  have l213 : ¬ el = 213 := by omega
  have hA7 : ∀ k, k < cnt.toNatClampNeg → ∃ A : Nat, gF h3 el k = some (.ref A) ∧ 239 ≤ A := fun k hk => by
    obtain ⟨e, e1, e2⟩ := l8 k hk
    exact ⟨e, e1, A_new ro3 e2⟩
  refine call_val con_X15_repeal vr_243_912 lV2_f_892 rfl rfl (hA3.reb rc) hH3 (by have : k_X15_repeal.2.2.2.2.1 = 0 := rfl; omega) (by have : k_X15_repeal.2.2.2.2.2.1 = 0 := rfl; omega) rfl (fun n => C_mrepeal n p17 h3 u3 hS3 m1 m2 h0c l213 hA7) ?_
  intro N4 ρ4 ν4 v h4 u4 n4 x4 hA4 hH4 hF4 hP4 V2
  obtain ⟨nd, rd⟩ := lYd0_f_892n
  obtain ⟨r, hr⟩ : ∃ r : Int32, v = .int r := by
    first
      | (obtain ⟨r, h0, hr, -⟩ := V2; cases hr; exact ⟨r, rfl⟩)
      | (obtain ⟨r, hr, -⟩ := V2; cases hr; exact ⟨r, rfl⟩)
  subst hr
  have b7 : (h4.length : Int) - h3.length ≤ 0 := Int.le_trans (hA4.cost (by decide +kernel)).1 (by decide +kernel)
  have b8 : (u4 : Int) - u3 ≤ 0 := Int.le_trans (hA4.cost (by decide +kernel)).2 (by decide +kernel)
  have z1 := ((by
    obtain ⟨y1, y2, y3, y4⟩ := sum_repeal hl1 hH1 hR1.1 (hR1.2.2.2.2.2.1.2.2.1) (hR1.2.2.2.2.2.1.2.1) d1 d2 c0 c1 h0c h24 hl2 V1 hE V2
    exact ⟨⟨⟨qFed.fr3 (hR1.2.2.2.2.2.1.1) hR1.2.2.2.2.1 hR1.1 hH1 hF2 (by decide +kernel) hS2 hRo2 hH2 hF3 hS3 (hRo2.pre hP3) hH3 hF4 (by decide +kernel), y1, qHO.fr3 (hR1.2.2.2.2.2.1.2.2.1) hR1.2.2.2.2.1 hR1.1 hH1 hF2 (by decide +kernel) hS2 hRo2 hH2 hF3 hS3 (hRo2.pre hP3) hH3 hF4 (by decide +kernel), (exX_repeal (hR1.2.2.2.2.2.1.2.2.2) h24 d1 d3 V1).fr2 hS2 hRo2 hH2 hF3 hS3 (hRo2.pre hP3) hH3 hF4 (by decide +kernel)⟩, ⟨qRFu.fr3 (hR1.2.2.2.2.2.2.1.1) hR1.2.2.2.2.1 hR1.1 hH1 hF2 (by decide +kernel) hS2 hRo2 hH2 hF3 hS3 (hRo2.pre hP3) hH3 hF4 (by decide +kernel), qRCs.fr3 (hR1.2.2.2.2.2.2.1.2.1) hR1.2.2.2.2.1 hR1.1 hH1 hF2 (by decide +kernel) hS2 hRo2 hH2 hF3 hS3 (hRo2.pre hP3) hH3 hF4 (by decide +kernel), qVd.fr3 (hR1.2.2.2.2.2.2.1.2.2) hR1.2.2.2.2.1 hR1.1 hH1 hF2 (by decide +kernel) hS2 hRo2 hH2 hF3 hS3 (hRo2.pre hP3) hH3 hF4 (by decide +kernel)⟩, ⟨Rw.fr3 (hR1.2.2.2.2.2.2.2.1.1) hR1.2.2.2.2.1 hR1.1 hH1 hF2 (by decide +kernel) hS2 hRo2 hH2 hF3 hS3 (hRo2.pre hP3) hH3 hF4 (by decide +kernel), qSm.fr3T (hR1.2.2.2.2.2.2.2.1.2.1) hR1.2.2.2.2.1 hR1.1 hH1 hF2 (by decide +kernel) hS2 hRo2 hH2 hF3 hS3 (hRo2.pre hP3) hH3 hF4 (by decide +kernel), qSm.fr3Y (hR1.2.2.2.2.2.2.2.1.2.2) hR1.2.2.2.2.1 hR1.1 hH1 hF2 (by decide +kernel) hS2 hRo2 hH2 hF3 hS3 (hRo2.pre hP3) hH3 hF4 (by decide +kernel)⟩, qDz.fr3 (hR1.2.2.2.2.2.2.2.2.1) hR1.2.2.2.2.1 hR1.1 hH1 hF2 (by decide +kernel) hS2 hRo2 hH2 hF3 hS3 (hRo2.pre hP3) hH3 hF4 (by decide +kernel), qRv.fr3 (hR1.2.2.2.2.2.2.2.2.2) hR1.2.2.2.2.1 hR1.1 hH1 hF2 (by decide +kernel) hS2 hRo2 hH2 hF3 hS3 (hRo2.pre hP3) hH3 hF4 (by decide +kernel)⟩, trivial⟩ : qAll h4 ∧ True)).1
  have hR4 : lR ρ4 ν4 h4 := ⟨(hRo2.pre hP3).pre hP4, x4 _ _ (x3 _ _ (x2 _ _ hR1.2.1)), x4 _ _ (x3 _ _ (x2 _ _ hR1.2.2.1)), x4 _ _ (x3 _ _ (x2 _ _ hR1.2.2.2.1)), hS3.fr (hRo2.pre hP3) hF4 stW_X15_repeal, z1⟩
  have x14 : nExt ν ν4 := x1.trans (x2.trans (x3.trans x4))
  have hA4 := hA4.reb rd
  show zE zrx zi 57 243 915 lv3 _ h4 u4 lKK
  refine seg wT_ok lC_f_ok 3000 lY3_f_892_0 (Nat.le_refl _) x14 hlen hA4 rfl rfl hH4 (by omega) (by omega) ?_
  intro x hx N5 ρ5 ν5 lv5 st5 h5 u5 x5 hA5 hH5 hF5 hP5
  rw [List.mem_singleton.mp hx] at hA5 ⊢
  clear hx x
  dsimp only at hA5 ⊢
  have b9 : (h5.length : Int) - h4.length ≤ 0 := Int.le_trans (hA5.cost (by decide +kernel)).1 (by decide +kernel)
  have c1 : (u5 : Int) - u4 ≤ 0 := Int.le_trans (hA5.cost (by decide +kernel)).2 (by decide +kernel)
  obtain ⟨j, j1, j2⟩ := l_i hA5 rfl rfl (x5 _ _ v4)
  exact l_next (g := true) ih [0, 1, 2, 3, 15, 5, 6, 7, 8, 9, 10, 11, 12, 13, 14] (by decide +kernel) (by decide +kernel) hA5 rfl hH5 rfl rfl rfl rfl j1 (x5 _ _ v7) (x5 _ _ v9) (x5 _ _ v11) (acc.dear j2 (by omega) (by omega) true (fun z => z)) (by omega) rfl rfl rfl (lR.fr ⟨hR4.1, x5 _ _ (hR.2.1), x5 _ _ (hR.2.2.1), x5 _ _ (hR.2.2.2.1), hR4.2.2.2.2⟩ hH4 hF5 hP5 (nExt.refl ν5) stW_nil rW_nil)
def lYa_f_920 : sS := ([(3, 0, 0), (3, 8, 0), (3, 40, 0), (3, 36, 0), (0, 0, 4088), (0, 8, 4096), (3, 45, 0), (0, 0, 40), (3, 48, 0), (0, 0, 24), (3, 51, 0), (0, 0, 24), (0, 0, 4088), (0, 0, 4088), (3, 56, 0), (0, 1, 1), (0, 1, 4089), (0, -2147483648, 2147483647), (0, 2, 2), (0, 2, 4090), (0, -2147483648, 2147483647)], [(0, 0), (1, 1), (2, 2), (3, 3), (4, 4)], [3, 20, 17, 1], [(4, 0, 19, 20, 0), (0, 19, 4, 0, 2), (0, 4, 19, 0, -2), (4, 0, 16, 17, 0), (0, 16, 4, 0, 1), (0, 4, 16, 0, -1), (0, 4, 5, 0, -8), (3, 0, 5, 0, 0), (2, 2, 7, 6, 0), (2, 6, 2, 7, 0), (2, 2, 8, 8, 0), (2, 8, 2, 9, 0), (2, 2, 9, 10, 0), (2, 10, 2, 11, 0), (2, 1, 1, 12, 0), (2, 2, 3, 13, 0), (0, 12, 13, 0, 0), (0, 13, 12, 0, 0), (2, 2, 10, 14, 0), (0, 12, 4, 0, 0), (0, 13, 4, 0, 0)], 0, 0, [])
def lYb_f_920 : sS := vZ (cvS zi lYa_f_920 k_L_way (cx1 k_L_way))
def lYc_f_920 : sS := ([(3, 0, 0), (3, 8, 0), (3, 40, 0), (3, 36, 0), (0, 0, 4088), (0, 8, 4096), (3, 45, 0), (0, 0, 40), (3, 48, 0), (0, 0, 24), (3, 51, 0), (0, 0, 24), (0, 0, 4088), (0, 0, 4088), (3, 56, 0), (0, 1, 1), (0, 1, 4089), (0, -2147483648, 2147483647), (0, 2, 2), (0, 2, 4090), (0, -2147483648, 2147483647), (0, 0, 2), (0, 1, 1), (0, 2, 2)], [(5, 21), (0, 0), (1, 1), (2, 2), (3, 3), (4, 4)], [20, 17, 2], [(4, 0, 19, 20, 0), (0, 19, 4, 0, 2), (0, 4, 19, 0, -2), (4, 0, 16, 17, 0), (0, 16, 4, 0, 1), (0, 4, 16, 0, -1), (0, 4, 5, 0, -8), (3, 0, 5, 0, 0), (2, 2, 7, 6, 0), (2, 6, 2, 7, 0), (2, 2, 8, 8, 0), (2, 8, 2, 9, 0), (2, 2, 9, 10, 0), (2, 10, 2, 11, 0), (2, 1, 1, 12, 0), (2, 2, 3, 13, 0), (0, 12, 13, 0, 0), (0, 13, 12, 0, 0), (2, 2, 10, 14, 0), (0, 12, 4, 0, 0), (0, 13, 4, 0, 0)], 0, 0, [])
theorem lY1_f_920 : chk zrx zi wT (wRo wSites_15) (wRo wTags_15) lC_f [] 0 0 15 3000 false [(934, lYa_f_920, [])] none 57 243 920 (vZ lM_f) (fun _ _ => false) = true := by decide +kernel
theorem lY2_f_920 : chk zrx zi wT (wRo wSites_15) (wRo wTags_15) lC_f [] 0 0 22 3000 false [(952, lYc_f_920, [])] none 57 243 937 lYb_f_920 (fun _ _ => false) = true := by decide +kernel
theorem lV1_f_920 : cvOk zrx zi wT 243 934 56 lYa_f_920 k_L_way = true := by decide +kernel
theorem lV2_f_920 : cvOk zrx zi wT 243 952 56 lYc_f_920 k_X15_way = true := by decide +kernel
theorem lYn_f_920 : lYb_f_920.1.length = 22 := by decide +kernel
theorem lYr_f_920 : (vZ lM_f).2.2.2.1.all (fun f => !(f.1 == 7)) = true ∧ lYa_f_920.2.2.2.1.all (fun f => !(f.1 == 7)) = true ∧ (cvS zi lYa_f_920 k_L_way (cx1 k_L_way)).2.2.2.1.all (fun f => !(f.1 == 7)) = true ∧ lYc_f_920.2.2.2.1.all (fun f => !(f.1 == 7)) = true := by decide +kernel
def lYd0_f_920 : sS := vZ (cvS zi lYc_f_920 k_X15_way (cxi k_X15_way 0))
theorem lYd0_f_920n : lYd0_f_920.1.length = 25 ∧ (cvS zi lYc_f_920 k_X15_way (cxi k_X15_way 0)).2.2.2.1.all (fun f => !(f.1 == 7)) = true := by decide +kernel
theorem lY3_f_920_0 : chk zrx zi wT (wRo wSites_15) (wRo wTags_15) lC_f [] 0 0 15 3000 false [(27, lT_fza, [])] none 57 243 955 lYd0_f_920 (fun _ _ => false) = true := by decide +kernel
set_option maxRecDepth 20000 in
theorem lA_f_920 {n : Nat} (ih : lIH n) {hb ub : Nat} {N : Int} {ρ : List Nat} {ν : List Value} {lv : List (Nat × Value)} {st : List Value} {h : List zC} {u : Nat} {i R C A : Int32} {F : Int} (hA : gA hb ub ρ ν lM_f lv st h u) (hH : tHeap wT N ρ h) (v4 : ν[4]? = some (.int i)) (v7 : ν[7]? = some (.int R)) (v9 : ν[9]? = some (.int C)) (v11 : ν[11]? = some (.int A))
    (i4 : i.toInt ≤ 4096) (acc : lAcc true hb ub i.toInt R.toInt C.toInt A.toInt F) (rm1 : (ub : Int) + 17920 ≤ zSN) (rm2 : (hb : Int) + 1152 ≤ zCM) (hn : 4104 - i.toInt ≤ (n + 1 : Nat)) (hR : lR ρ ν h) : zE zrx zi 57 243 920 lv st h u lKK := by
  obtain ⟨dl1, dl2, dl3, dl4⟩ := lD_lo R.toInt C.toInt A.toInt
  obtain ⟨r0, ra, rb, rc⟩ := lYr_f_920
  have q0 : (h.length : Int) - hb ≤ 0 := hA.2.2.2.2.1
  have q1 : (u : Int) - ub ≤ 0 := hA.2.2.2.2.2
  have hlen : ν.length ≤ 15 := by
    rw [← hA.1.1]
    exact Nat.le_of_eq rfl
  refine seg wT_ok lC_f_ok 3000 lY1_f_920 (Nat.le_refl _) (nExt.refl ν) hlen (hA.reb r0) rfl rfl hH (by omega) (by omega) ?_
  intro x hx N1 ρ1 ν1 lv1 st1 h1 u1 x1 hA1 hH1 hF1 hP1
  rw [List.mem_singleton.mp hx] at hA1 ⊢
  clear hx x
  dsimp only at hA1 ⊢
  have hR1 := hR.fr hH hF1 hP1 x1 stW_nil rW_nil
  have b1 : (h1.length : Int) - h.length ≤ 0 := Int.le_trans (hA1.cost (by decide +kernel)).1 (by decide +kernel)
  have b2 : (u1 : Int) - u ≤ 0 := Int.le_trans (hA1.cost (by decide +kernel)).2 (by decide +kernel)
  have hT : gSt ν1 [3, 20, 17, 1] st1 := hA1.2.2.1
  obtain ⟨w0, sa0, ea0, o0, ha0⟩ := hT.inv
  subst ea0
  rw [hR1.2.2.2.1] at o0
  cases o0
  obtain ⟨w1, sa1, ea1, o1, ha1⟩ := ha0.inv
  subst ea1
  obtain ⟨p20, rfl, -⟩ := hA1.int o1 rfl
  obtain ⟨w2, sa2, ea2, o2, ha2⟩ := ha1.inv
  subst ea2
  obtain ⟨p17, rfl, -⟩ := hA1.int o2 rfl
  obtain ⟨w3, sa3, ea3, o3, ha3⟩ := ha2.inv
  subst ea3
  rw [hR1.2.1] at o3
  cases o3
  cases ha3.nil
  refine call_val con_L_way vr_243_934 lV1_f_920 rfl rfl (hA1.reb ra) hH1 (by have : k_L_way.2.2.2.2.1 = 1 := rfl; omega) (by have : k_L_way.2.2.2.2.2.1 = 6 := rfl; omega) rfl (fun n => C_Lway n p17 p20 h1 u1 hR1.2.2.2.2.1) ?_
  intro N2 ρ2 ν2 v h2 u2 n2 x2 hA2 hH2 hF2 hP2 V1
  obtain ⟨k, hk, V1⟩ := V1
  cases hk
  have V1 : Q_Lway p17 p20 h1 (.inl (some (.int k))) h2 u2 := ⟨k, rfl, V1⟩
  have b3 : (h2.length : Int) - h1.length ≤ 1 := Int.le_trans (hA2.cost (by decide +kernel)).1 (by decide +kernel)
  have b4 : (u2 : Int) - u1 ≤ 6 := Int.le_trans (hA2.cost (by decide +kernel)).2 (by decide +kernel)
  have hTk : ν2[21]? = some (.int k) := gSt_hd hA2.2.2.1 (by decide +kernel)
  have hlen2 : ν2.length ≤ 22 := by
    rw [← hA2.1.1]
    exact Nat.le_of_eq lYn_f_920
  have hS2 : Stc h2 := hR1.2.2.2.2.1.fr hR1.1 hF2 stW_L_way
  have hRo2 : Ro ρ2 := hR1.1.pre hP2
  show zE zrx zi 57 243 937 lv1 _ h2 u2 lKK
  refine seg wT_ok lC_f_ok 3000 lY2_f_920 (Nat.le_refl _) (nExt.refl ν2) hlen2 (hA2.reb rb) rfl rfl hH2 (by omega) (by omega) ?_
  intro x hx N3 ρ3 ν3 lv3 st3 h3 u3 x3 hA3 hH3 hF3 hP3
  rw [List.mem_singleton.mp hx] at hA3 ⊢
  clear hx x
  dsimp only at hA3 ⊢
  have hS3 : Stc h3 := hS2.fr hRo2 hF3 stW_nil
  have b5 : (h3.length : Int) - h2.length ≤ 0 := Int.le_trans (hA3.cost (by decide +kernel)).1 (by decide +kernel)
  have b6 : (u3 : Int) - u2 ≤ 0 := Int.le_trans (hA3.cost (by decide +kernel)).2 (by decide +kernel)
  have hE : ∀ p, p < h2.length → ∀ k, gF h3 p k = gF h2 p k := fun p hp k => gFr_F0 hF3 hH2.1 hp k
  have hT : gSt ν3 [20, 17, 2] st3 := hA3.2.2.1
  obtain ⟨w0, sb0, eb0, c0, hb0⟩ := hT.inv
  subst eb0
  rw [x3 _ _ (x2 _ _ o1)] at c0
  cases c0
  obtain ⟨w1, sb1, eb1, c1, hb1⟩ := hb0.inv
  subst eb1
  rw [x3 _ _ (x2 _ _ o2)] at c1
  cases c1
  obtain ⟨w2, sb2, eb2, c2, hb2⟩ := hb1.inv
  subst eb2
  rw [x3 _ _ (x2 _ _ hR1.2.2.1)] at c2
  cases c2
  cases hb2.nil
  have hl1 := hR1.2.2.2.2.1.1
  have hl2 := gFr_len hF2
  have hl3 := gFr_len hF3
  have ro3 : Ro ρ3 := hRo2.pre hP3
  refine call_val con_X15_way vr_243_952 lV2_f_920 rfl rfl (hA3.reb rc) hH3 (by have : k_X15_way.2.2.2.2.1 = 0 := rfl; omega) (by have : k_X15_way.2.2.2.2.2.1 = 0 := rfl; omega) rfl (fun n => C_mway n p17 p20 h3 u3 hS3) ?_
  intro N4 ρ4 ν4 v h4 u4 n4 x4 hA4 hH4 hF4 hP4 V2
  obtain ⟨nd, rd⟩ := lYd0_f_920n
  obtain ⟨r, hr⟩ : ∃ r : Int32, v = .int r := by
    first
      | (obtain ⟨r, h0, hr, -⟩ := V2; cases hr; exact ⟨r, rfl⟩)
      | (obtain ⟨r, hr, -⟩ := V2; cases hr; exact ⟨r, rfl⟩)
  subst hr
  have b7 : (h4.length : Int) - h3.length ≤ 0 := Int.le_trans (hA4.cost (by decide +kernel)).1 (by decide +kernel)
  have b8 : (u4 : Int) - u3 ≤ 0 := Int.le_trans (hA4.cost (by decide +kernel)).2 (by decide +kernel)
  have z1 := ((by
    obtain ⟨y1, y2, y3, y4⟩ := sum_way (hR1.2.2.2.2.2.2.2.1.2.2) hl1 hl2 V1 hE V2
    exact ⟨⟨⟨qFed.fr3 (hR1.2.2.2.2.2.1.1) hR1.2.2.2.2.1 hR1.1 hH1 hF2 (by decide +kernel) hS2 hRo2 hH2 hF3 hS3 (hRo2.pre hP3) hH3 hF4 (by decide +kernel), qAR.fr3 (hR1.2.2.2.2.2.1.2.1) hR1.2.2.2.2.1 hR1.1 hH1 hF2 (by decide +kernel) hS2 hRo2 hH2 hF3 hS3 (hRo2.pre hP3) hH3 hF4 (by decide +kernel), qHO.fr3 (hR1.2.2.2.2.2.1.2.2.1) hR1.2.2.2.2.1 hR1.1 hH1 hF2 (by decide +kernel) hS2 hRo2 hH2 hF3 hS3 (hRo2.pre hP3) hH3 hF4 (by decide +kernel), qEX.fr3 (hR1.2.2.2.2.2.1.2.2.2) hR1.2.2.2.2.1 hR1.1 hH1 hF2 (by decide +kernel) hS2 hRo2 hH2 hF3 hS3 (hRo2.pre hP3) hH3 hF4 (by decide +kernel)⟩, ⟨qRFu.fr3 (hR1.2.2.2.2.2.2.1.1) hR1.2.2.2.2.1 hR1.1 hH1 hF2 (by decide +kernel) hS2 hRo2 hH2 hF3 hS3 (hRo2.pre hP3) hH3 hF4 (by decide +kernel), qRCs.fr3 (hR1.2.2.2.2.2.2.1.2.1) hR1.2.2.2.2.1 hR1.1 hH1 hF2 (by decide +kernel) hS2 hRo2 hH2 hF3 hS3 (hRo2.pre hP3) hH3 hF4 (by decide +kernel), qVd.fr3 (hR1.2.2.2.2.2.2.1.2.2) hR1.2.2.2.2.1 hR1.1 hH1 hF2 (by decide +kernel) hS2 hRo2 hH2 hF3 hS3 (hRo2.pre hP3) hH3 hF4 (by decide +kernel)⟩, ⟨Rw.fr3 (hR1.2.2.2.2.2.2.2.1.1) hR1.2.2.2.2.1 hR1.1 hH1 hF2 (by decide +kernel) hS2 hRo2 hH2 hF3 hS3 (hRo2.pre hP3) hH3 hF4 (by decide +kernel), qSm.fr3T (hR1.2.2.2.2.2.2.2.1.2.1) hR1.2.2.2.2.1 hR1.1 hH1 hF2 (by decide +kernel) hS2 hRo2 hH2 hF3 hS3 (hRo2.pre hP3) hH3 hF4 (by decide +kernel), y1⟩, qDz.fr3 (hR1.2.2.2.2.2.2.2.2.1) hR1.2.2.2.2.1 hR1.1 hH1 hF2 (by decide +kernel) hS2 hRo2 hH2 hF3 hS3 (hRo2.pre hP3) hH3 hF4 (by decide +kernel), qRv.fr3 (hR1.2.2.2.2.2.2.2.2.2) hR1.2.2.2.2.1 hR1.1 hH1 hF2 (by decide +kernel) hS2 hRo2 hH2 hF3 hS3 (hRo2.pre hP3) hH3 hF4 (by decide +kernel)⟩, trivial⟩ : qAll h4 ∧ True)).1
  have hR4 : lR ρ4 ν4 h4 := ⟨(hRo2.pre hP3).pre hP4, x4 _ _ (x3 _ _ (x2 _ _ hR1.2.1)), x4 _ _ (x3 _ _ (x2 _ _ hR1.2.2.1)), x4 _ _ (x3 _ _ (x2 _ _ hR1.2.2.2.1)), hS3.fr (hRo2.pre hP3) hF4 stW_X15_way, z1⟩
  have x14 : nExt ν ν4 := x1.trans (x2.trans (x3.trans x4))
  have hA4 := hA4.reb rd
  show zE zrx zi 57 243 955 lv3 _ h4 u4 lKK
  refine seg wT_ok lC_f_ok 3000 lY3_f_920_0 (Nat.le_refl _) x14 hlen hA4 rfl rfl hH4 (by omega) (by omega) ?_
  intro x hx N5 ρ5 ν5 lv5 st5 h5 u5 x5 hA5 hH5 hF5 hP5
  rw [List.mem_singleton.mp hx] at hA5 ⊢
  clear hx x
  dsimp only at hA5 ⊢
  have b9 : (h5.length : Int) - h4.length ≤ 0 := Int.le_trans (hA5.cost (by decide +kernel)).1 (by decide +kernel)
  have c1 : (u5 : Int) - u4 ≤ 0 := Int.le_trans (hA5.cost (by decide +kernel)).2 (by decide +kernel)
  obtain ⟨j, j1, j2⟩ := l_i hA5 rfl rfl (x5 _ _ v4)
  exact l_next (g := true) ih [0, 1, 2, 3, 15, 5, 6, 7, 8, 9, 10, 11, 12, 13, 14] (by decide +kernel) (by decide +kernel) hA5 rfl hH5 rfl rfl rfl rfl j1 (x5 _ _ v7) (x5 _ _ v9) (x5 _ _ v11) (acc.dear j2 (by omega) (by omega) true (fun z => z)) (by omega) rfl rfl rfl (lR.fr ⟨hR4.1, x5 _ _ (hR.2.1), x5 _ _ (hR.2.2.1), x5 _ _ (hR.2.2.2.1), hR4.2.2.2.2⟩ hH4 hF5 hP5 (nExt.refl ν5) stW_nil rW_nil)
def lYa_f_960 : sS := ([(3, 0, 0), (3, 8, 0), (3, 40, 0), (3, 36, 0), (0, 0, 4088), (0, 8, 4096), (3, 45, 0), (0, 0, 40), (3, 48, 0), (0, 0, 24), (3, 51, 0), (0, 0, 24), (0, 0, 4088), (0, 0, 4088), (3, 56, 0), (0, 1, 1), (0, 1, 4089), (0, -2147483648, 2147483647), (0, 2, 2), (0, 2, 4090), (0, -2147483648, 2147483647)], [(0, 0), (1, 1), (2, 2), (3, 3), (4, 4)], [3, 20, 17, 1], [(4, 0, 19, 20, 0), (0, 19, 4, 0, 2), (0, 4, 19, 0, -2), (4, 0, 16, 17, 0), (0, 16, 4, 0, 1), (0, 4, 16, 0, -1), (0, 4, 5, 0, -8), (3, 0, 5, 0, 0), (2, 2, 7, 6, 0), (2, 6, 2, 7, 0), (2, 2, 8, 8, 0), (2, 8, 2, 9, 0), (2, 2, 9, 10, 0), (2, 10, 2, 11, 0), (2, 1, 1, 12, 0), (2, 2, 3, 13, 0), (0, 12, 13, 0, 0), (0, 13, 12, 0, 0), (2, 2, 10, 14, 0), (0, 12, 4, 0, 0), (0, 13, 4, 0, 0)], 0, 0, [])
def lYb_f_960 : sS := vZ (cvS zi lYa_f_960 k_L_judge (cx1 k_L_judge))
def lYc_f_960 : sS := ([(3, 0, 0), (3, 8, 0), (3, 40, 0), (3, 36, 0), (0, 0, 4088), (0, 8, 4096), (3, 45, 0), (0, 0, 40), (3, 48, 0), (0, 0, 24), (3, 51, 0), (0, 0, 24), (0, 0, 4088), (0, 0, 4088), (3, 56, 0), (0, 1, 1), (0, 1, 4089), (0, -2147483648, 2147483647), (0, 2, 2), (0, 2, 4090), (0, -2147483648, 2147483647), (0, 0, 2), (0, 1, 1), (0, 2, 2)], [(5, 21), (0, 0), (1, 1), (2, 2), (3, 3), (4, 4)], [20, 17, 2], [(4, 0, 19, 20, 0), (0, 19, 4, 0, 2), (0, 4, 19, 0, -2), (4, 0, 16, 17, 0), (0, 16, 4, 0, 1), (0, 4, 16, 0, -1), (0, 4, 5, 0, -8), (3, 0, 5, 0, 0), (2, 2, 7, 6, 0), (2, 6, 2, 7, 0), (2, 2, 8, 8, 0), (2, 8, 2, 9, 0), (2, 2, 9, 10, 0), (2, 10, 2, 11, 0), (2, 1, 1, 12, 0), (2, 2, 3, 13, 0), (0, 12, 13, 0, 0), (0, 13, 12, 0, 0), (2, 2, 10, 14, 0), (0, 12, 4, 0, 0), (0, 13, 4, 0, 0)], 0, 0, [])
theorem lY1_f_960 : chk zrx zi wT (wRo wSites_15) (wRo wTags_15) lC_f [] 0 0 15 3000 false [(974, lYa_f_960, [])] none 57 243 960 (vZ lM_f) (fun _ _ => false) = true := by decide +kernel
theorem lY2_f_960 : chk zrx zi wT (wRo wSites_15) (wRo wTags_15) lC_f [] 0 0 22 3000 false [(992, lYc_f_960, [])] none 57 243 977 lYb_f_960 (fun _ _ => false) = true := by decide +kernel
theorem lV1_f_960 : cvOk zrx zi wT 243 974 56 lYa_f_960 k_L_judge = true := by decide +kernel
theorem lV2_f_960 : cvOk zrx zi wT 243 992 56 lYc_f_960 k_X15_judge = true := by decide +kernel
theorem lYk_f_960 : sGet lYb_f_960.1 21 = (0, 0, 2) := by decide +kernel
theorem lYn_f_960 : lYb_f_960.1.length = 22 := by decide +kernel
theorem lYr_f_960 : (vZ lM_f).2.2.2.1.all (fun f => !(f.1 == 7)) = true ∧ lYa_f_960.2.2.2.1.all (fun f => !(f.1 == 7)) = true ∧ (cvS zi lYa_f_960 k_L_judge (cx1 k_L_judge)).2.2.2.1.all (fun f => !(f.1 == 7)) = true ∧ lYc_f_960.2.2.2.1.all (fun f => !(f.1 == 7)) = true := by decide +kernel
def lYd0_f_960 : sS := vZ (cvS zi lYc_f_960 k_X15_judge (cxi k_X15_judge 0))
theorem lYd0_f_960n : lYd0_f_960.1.length = 25 ∧ (cvS zi lYc_f_960 k_X15_judge (cxi k_X15_judge 0)).2.2.2.1.all (fun f => !(f.1 == 7)) = true := by decide +kernel
def lYf0_f_960 : sS := sNw (sFs (sNr lYd0_f_960 21 0 0) [(2, 2, 0, 21, 0)]) (1, 0, 0) [(2, 3, 0, 25, 0), (17, 25, 24, 0, 0)]
def lYg0_f_960 : sS := sFs (sNr lYd0_f_960 21 1 2) [(2, 2, 0, 21, 0)]
theorem lY3_f_960_0 : chk zrx zi wT (wRo wSites_15) (wRo wTags_15) lC_f [] 0 0 15 3000 false [(27, lT_fza, [])] none 57 243 995 lYf0_f_960 (fun _ _ => false) = true := by decide +kernel
theorem lY4_f_960_0 : chk zrx zi wT (wRo wSites_15) (wRo wTags_15) lC_f [] 0 0 15 3000 false [(27, lT_fza, [])] none 57 243 995 lYg0_f_960 (fun _ _ => false) = true := by decide +kernel
set_option maxRecDepth 20000 in
theorem lA_f_960 {n : Nat} (ih : lIH n) {hb ub : Nat} {N : Int} {ρ : List Nat} {ν : List Value} {lv : List (Nat × Value)} {st : List Value} {h : List zC} {u : Nat} {i R C A : Int32} {F : Int} (hA : gA hb ub ρ ν lM_f lv st h u) (hH : tHeap wT N ρ h) (v4 : ν[4]? = some (.int i)) (v7 : ν[7]? = some (.int R)) (v9 : ν[9]? = some (.int C)) (v11 : ν[11]? = some (.int A))
    (i4 : i.toInt ≤ 4096) (acc : lAcc true hb ub i.toInt R.toInt C.toInt A.toInt F) (rm1 : (ub : Int) + 17920 ≤ zSN) (rm2 : (hb : Int) + 1152 ≤ zCM) (hn : 4104 - i.toInt ≤ (n + 1 : Nat)) (hR : lR ρ ν h) : zE zrx zi 57 243 960 lv st h u lKK := by
  obtain ⟨dl1, dl2, dl3, dl4⟩ := lD_lo R.toInt C.toInt A.toInt
  obtain ⟨r0, ra, rb, rc⟩ := lYr_f_960
  have q0 : (h.length : Int) - hb ≤ 0 := hA.2.2.2.2.1
  have q1 : (u : Int) - ub ≤ 0 := hA.2.2.2.2.2
  have hlen : ν.length ≤ 15 := by
    rw [← hA.1.1]
    exact Nat.le_of_eq rfl
  refine seg wT_ok lC_f_ok 3000 lY1_f_960 (Nat.le_refl _) (nExt.refl ν) hlen (hA.reb r0) rfl rfl hH (by omega) (by omega) ?_
  intro x hx N1 ρ1 ν1 lv1 st1 h1 u1 x1 hA1 hH1 hF1 hP1
  rw [List.mem_singleton.mp hx] at hA1 ⊢
  clear hx x
  dsimp only at hA1 ⊢
  have hR1 := hR.fr hH hF1 hP1 x1 stW_nil rW_nil
  have b1 : (h1.length : Int) - h.length ≤ 0 := Int.le_trans (hA1.cost (by decide +kernel)).1 (by decide +kernel)
  have b2 : (u1 : Int) - u ≤ 0 := Int.le_trans (hA1.cost (by decide +kernel)).2 (by decide +kernel)
  have hT : gSt ν1 [3, 20, 17, 1] st1 := hA1.2.2.1
  obtain ⟨w0, sa0, ea0, o0, ha0⟩ := hT.inv
  subst ea0
  rw [hR1.2.2.2.1] at o0
  cases o0
  obtain ⟨w1, sa1, ea1, o1, ha1⟩ := ha0.inv
  subst ea1
  obtain ⟨p20, rfl, -⟩ := hA1.int o1 rfl
  obtain ⟨w2, sa2, ea2, o2, ha2⟩ := ha1.inv
  subst ea2
  obtain ⟨p17, rfl, -⟩ := hA1.int o2 rfl
  obtain ⟨w3, sa3, ea3, o3, ha3⟩ := ha2.inv
  subst ea3
  rw [hR1.2.1] at o3
  cases o3
  cases ha3.nil
  obtain ⟨cnt, el, Fk, pf⟩ := pk_at (hR1.2.2.2.2.2.1.2.1) (hR1.2.2.2.2.2.1.2.2.2)
  obtain ⟨cr, rl, pr⟩ : ∃ (cr : Int32) (rl : Nat), pkR h1 cr rl := hR1.2.2.2.2.2.2.1.1
  obtain ⟨cc, lc, pc⟩ : ∃ (cc : Int32) (lc : Nat), pkC h1 cc lc := hR1.2.2.2.2.2.2.1.2.1
  have kc := pk_kC pf pr (hR1.2.2.2.2.1)
  have hcd : ∀ k, k < cc.toNatClampNeg → CI h1 (189 + k) := fun k hk j hj => by
    obtain ⟨q, -, -, -, q4⟩ := pc.2.2.2.2.2.2 k hk
    obtain ⟨x, x1, -⟩ := q4 j (by omega)
    exact ⟨x, x1⟩
  have hwy : ∀ i, i < 4 → ∃ w : Int32, gF h1 25 i = some (.int w) := fun i hi => by
    obtain ⟨w, w1, -⟩ := (hR1.2.2.2.2.2.2.2.1.2.2) i hi
    exact ⟨w, w1⟩
  have hl1 := hR1.2.2.2.2.1.1
  refine call_val con_L_judge vr_243_974 lV1_f_960 rfl rfl (hA1.reb ra) hH1 (by have : k_L_judge.2.2.2.2.1 = 1 := rfl; omega) (by have : k_L_judge.2.2.2.2.2.1 = 6 := rfl; omega) rfl (fun n => C_Ljudge n p17 p20 h1 u1 kc pc.1 pc.2.2.2.2.2.1 hcd hwy) ?_
  intro N2 ρ2 ν2 v h2 u2 n2 x2 hA2 hH2 hF2 hP2 V1
  obtain ⟨k, hk, V1⟩ := V1
  cases hk
  have V1 : Q_Ljudge (exK h1) (geK h1 cnt) cnt cr cc p17 p20 h1 (.inl (some (.int k))) h2 u2 := ⟨k, rfl, V1⟩
  have b3 : (h2.length : Int) - h1.length ≤ 1 := Int.le_trans (hA2.cost (by decide +kernel)).1 (by decide +kernel)
  have b4 : (u2 : Int) - u1 ≤ 6 := Int.le_trans (hA2.cost (by decide +kernel)).2 (by decide +kernel)
  have hTk : ν2[21]? = some (.int k) := gSt_hd hA2.2.2.1 (by decide +kernel)
  have hB2 : gA h2.length u2 ρ2 ν2 lYb_f_960 lv1 _ h2 u2 := hA2.reb rb
  obtain ⟨k', ek, kk1, kk2⟩ := hB2.int hTk (by rw [lYk_f_960])
  cases ek
  rw [lYk_f_960] at kk1 kk2
  have hlen2 : ν2.length ≤ 22 := by
    rw [← hA2.1.1]
    exact Nat.le_of_eq lYn_f_960
  have hS2 : Stc h2 := hR1.2.2.2.2.1.fr hR1.1 hF2 stW_L_judge
  have hRo2 : Ro ρ2 := hR1.1.pre hP2
  show zE zrx zi 57 243 977 lv1 _ h2 u2 lKK
  refine seg wT_ok lC_f_ok 3000 lY2_f_960 (Nat.le_refl _) (nExt.refl ν2) hlen2 (hA2.reb rb) rfl rfl hH2 (by omega) (by omega) ?_
  intro x hx N3 ρ3 ν3 lv3 st3 h3 u3 x3 hA3 hH3 hF3 hP3
  rw [List.mem_singleton.mp hx] at hA3 ⊢
  clear hx x
  dsimp only at hA3 ⊢
  have hS3 : Stc h3 := hS2.fr hRo2 hF3 stW_nil
  have b5 : (h3.length : Int) - h2.length ≤ 0 := Int.le_trans (hA3.cost (by decide +kernel)).1 (by decide +kernel)
  have b6 : (u3 : Int) - u2 ≤ 0 := Int.le_trans (hA3.cost (by decide +kernel)).2 (by decide +kernel)
  have hE : ∀ p, p < h2.length → ∀ k, gF h3 p k = gF h2 p k := fun p hp k => gFr_F0 hF3 hH2.1 hp k
  have hT : gSt ν3 [20, 17, 2] st3 := hA3.2.2.1
  obtain ⟨w0, sb0, eb0, c0, hb0⟩ := hT.inv
  subst eb0
  rw [x3 _ _ (x2 _ _ o1)] at c0
  cases c0
  obtain ⟨w1, sb1, eb1, c1, hb1⟩ := hb0.inv
  subst eb1
  rw [x3 _ _ (x2 _ _ o2)] at c1
  cases c1
  obtain ⟨w2, sb2, eb2, c2, hb2⟩ := hb1.inv
  subst eb2
  rw [x3 _ _ (x2 _ _ hR1.2.2.1)] at c2
  cases c2
  cases hb2.nil
  have hl1 := hR1.2.2.2.2.1.1
  have hl2 := gFr_len hF2
  have hl3 := gFr_len hF3
  have ro3 : Ro ρ3 := hRo2.pre hP3
  have o3 : rfO h1 h3 := fun q j hq z => (hE q (by omega) j).trans (rf_judge pc.2.2.2.2.2.1 V1 q j hq z)
  have mc := pk_mC pf pr hl1 hS3 o3
  obtain ⟨⟨nel, nrl⟩, nA, nR, ⟨hcs, hcl, nlc⟩, hq, hw, hj⟩ := pk_ref pf pr pc (hR1.2.2.2.2.2.2.1.2.2) (hR1.2.2.2.2.2.2.2.1.2.2) hl1 o3
  refine call_val con_X15_judge vr_243_992 lV2_f_960 rfl rfl (hA3.reb rc) hH3 (by have : k_X15_judge.2.2.2.2.1 = 0 := rfl; omega) (by have : k_X15_judge.2.2.2.2.2.1 = 0 := rfl; omega) rfl (fun n => C_mjudge n p17 p20 h3 u3 mc nel nrl nA nR hcs hcl pc.2.2.2.2.1 nlc hq hw) ?_
  intro N4 ρ4 ν4 v h4 u4 n4 x4 hA4 hH4 hF4 hP4 V2
  obtain ⟨nd, rd⟩ := lYd0_f_960n
  obtain ⟨r, hr⟩ : ∃ r : Int32, v = .int r := by
    first
      | (obtain ⟨r, h0, hr, -⟩ := V2; cases hr; exact ⟨r, rfl⟩)
      | (obtain ⟨r, hr, -⟩ := V2; cases hr; exact ⟨r, rfl⟩)
  subst hr
  have b7 : (h4.length : Int) - h3.length ≤ 0 := Int.le_trans (hA4.cost (by decide +kernel)).1 (by decide +kernel)
  have b8 : (u4 : Int) - u3 ≤ 0 := Int.le_trans (hA4.cost (by decide +kernel)).2 (by decide +kernel)
  obtain ⟨z1, z2, z3, z4⟩ := (by
    obtain ⟨y1, y2, y3, y4⟩ := sumV_judge hl1 hH1 hR1.1 (hR1.2.2.2.2.1) pf pr (hR1.2.2.2.2.2.2.2.1.2.1) pc (hR1.2.2.2.2.2.2.2.1.2.2) (hR1.2.2.2.2.2.2.1.2.2) hl2 V1 hE V2
    exact ⟨⟨⟨qFed.fr3 (hR1.2.2.2.2.2.1.1) hR1.2.2.2.2.1 hR1.1 hH1 hF2 (by decide +kernel) hS2 hRo2 hH2 hF3 hS3 (hRo2.pre hP3) hH3 hF4 (by decide +kernel), qAR.fr3 (hR1.2.2.2.2.2.1.2.1) hR1.2.2.2.2.1 hR1.1 hH1 hF2 (by decide +kernel) hS2 hRo2 hH2 hF3 hS3 (hRo2.pre hP3) hH3 hF4 (by decide +kernel), qHO.fr3 (hR1.2.2.2.2.2.1.2.2.1) hR1.2.2.2.2.1 hR1.1 hH1 hF2 (by decide +kernel) hS2 hRo2 hH2 hF3 hS3 (hRo2.pre hP3) hH3 hF4 (by decide +kernel), qEX.fr3 (hR1.2.2.2.2.2.1.2.2.2) hR1.2.2.2.2.1 hR1.1 hH1 hF2 (by decide +kernel) hS2 hRo2 hH2 hF3 hS3 (hRo2.pre hP3) hH3 hF4 (by decide +kernel)⟩, ⟨qRFu.fr3 (hR1.2.2.2.2.2.2.1.1) hR1.2.2.2.2.1 hR1.1 hH1 hF2 (by decide +kernel) hS2 hRo2 hH2 hF3 hS3 (hRo2.pre hP3) hH3 hF4 (by decide +kernel), qRCs.fr3 (hR1.2.2.2.2.2.2.1.2.1) hR1.2.2.2.2.1 hR1.1 hH1 hF2 (by decide +kernel) hS2 hRo2 hH2 hF3 hS3 (hRo2.pre hP3) hH3 hF4 (by decide +kernel), y1⟩, ⟨Rw.fr3 (hR1.2.2.2.2.2.2.2.1.1) hR1.2.2.2.2.1 hR1.1 hH1 hF2 (by decide +kernel) hS2 hRo2 hH2 hF3 hS3 (hRo2.pre hP3) hH3 hF4 (by decide +kernel), qSm.fr3T (hR1.2.2.2.2.2.2.2.1.2.1) hR1.2.2.2.2.1 hR1.1 hH1 hF2 (by decide +kernel) hS2 hRo2 hH2 hF3 hS3 (hRo2.pre hP3) hH3 hF4 (by decide +kernel), qSm.fr3Y (hR1.2.2.2.2.2.2.2.1.2.2) hR1.2.2.2.2.1 hR1.1 hH1 hF2 (by decide +kernel) hS2 hRo2 hH2 hF3 hS3 (hRo2.pre hP3) hH3 hF4 (by decide +kernel)⟩, qDz.fr3 (hR1.2.2.2.2.2.2.2.2.1) hR1.2.2.2.2.1 hR1.1 hH1 hF2 (by decide +kernel) hS2 hRo2 hH2 hF3 hS3 (hRo2.pre hP3) hH3 hF4 (by decide +kernel), qRv.fr3 (hR1.2.2.2.2.2.2.2.2.2) hR1.2.2.2.2.1 hR1.1 hH1 hF2 (by decide +kernel) hS2 hRo2 hH2 hF3 hS3 (hRo2.pre hP3) hH3 hF4 (by decide +kernel)⟩, y2, y3, y4⟩ : qAll h4 ∧ gF h4 213 0 = some (.int k) ∧ (k = 0 → gF h4 238 0 = some (.long r.toInt64)) ∧ (k = 0 ∨ k = 1 ∨ k = 2))
  have hR4 : lR ρ4 ν4 h4 := ⟨(hRo2.pre hP3).pre hP4, x4 _ _ (x3 _ _ (x2 _ _ hR1.2.1)), x4 _ _ (x3 _ _ (x2 _ _ hR1.2.2.1)), x4 _ _ (x3 _ _ (x2 _ _ hR1.2.2.2.1)), hS3.fr (hRo2.pre hP3) hF4 stW_X15_judge, z1⟩
  have x14 : nExt ν ν4 := x1.trans (x2.trans (x3.trans x4))
  have vk : ν4[21]? = some (.int k) := x4 _ _ (x3 _ _ hTk)
  have vr : ν4[24]? = some (.int r) := gSt_hd hA4.2.2.1 (by decide +kernel)
  have hA4 := hA4.reb rd
  show zE zrx zi 57 243 995 lv3 _ h4 u4 lKK
  by_cases hk : k = 0
  · subst hk
    have hA6 := (((hA4.nr (lo := 0) (hi := 0) vk (by decide) (by decide)).fs (G := [(2, 2, 0, 21, 0)]) (fun f hf => by
      rw [List.mem_singleton.mp hf]
      exact fH2 hR4.2.2.1 z2 vk)).nw (t := (1, 0, 0)) (v := .long r.toInt64) (G := [(2, 3, 0, 25, 0), (17, 25, 24, 0, 0)]) ⟨_, rfl⟩ (fun f hf => by
      have hl : ν4.length = 25 := by
        rw [← hA4.1.1]
        exact nd
      have vl : (ν4 ++ [Value.long r.toInt64])[25]? = some (.long r.toInt64) := by
        rw [← hl]
        exact nNew _ _
      rcases List.mem_cons.mp hf with rfl | hf
      · exact fH2 (nExt_app _ _ _ _ hR4.2.2.2.1) (z3 rfl) vl
      · rw [List.mem_singleton.mp hf]
        exact ⟨r, nExt_app _ _ _ _ vr, vl⟩))
    refine seg wT_ok lC_f_ok 3000 lY3_f_960_0 (Nat.le_refl _) (x14.trans (nExt_app _ _)) hlen hA6 rfl rfl hH4 (by omega) (by omega) ?_
    intro x hx N5 ρ5 ν5 lv5 st5 h5 u5 x5 hA5 hH5 hF5 hP5
    rw [List.mem_singleton.mp hx] at hA5 ⊢
    clear hx x
    dsimp only at hA5 ⊢
    have b9 : (h5.length : Int) - h4.length ≤ 0 := Int.le_trans (hA5.cost (by decide +kernel)).1 (by decide +kernel)
    have c1 : (u5 : Int) - u4 ≤ 0 := Int.le_trans (hA5.cost (by decide +kernel)).2 (by decide +kernel)
    obtain ⟨j, j1, j2⟩ := l_i hA5 rfl rfl (x5 _ _ v4)
    exact l_next (g := true) ih [0, 1, 2, 3, 15, 5, 6, 7, 8, 9, 10, 11, 12, 13, 14] (by decide +kernel) (by decide +kernel) hA5 rfl hH5 rfl rfl rfl rfl j1 (x5 _ _ v7) (x5 _ _ v9) (x5 _ _ v11) (acc.dear j2 (by omega) (by omega) true (fun z => z)) (by omega) rfl rfl rfl (lR.fr ⟨hR4.1, x5 _ _ (hR.2.1), x5 _ _ (hR.2.2.1), x5 _ _ (hR.2.2.2.1), hR4.2.2.2.2⟩ hH4 hF5 hP5 (nExt.refl ν5) stW_nil rW_nil)
  · have hk2 : 1 ≤ k.toInt ∧ k.toInt ≤ 2 := by
      have kk1 : 0 ≤ k.toInt := kk1
      have kk2 : k.toInt ≤ 2 := kk2
      have : ¬ k.toInt = 0 := fun z => hk (Int32.toInt_inj.mp z)
      omega
    have hA6 := (hA4.nr (lo := 1) (hi := 2) vk hk2.1 hk2.2).fs (G := [(2, 2, 0, 21, 0)]) (fun f hf => by
      rw [List.mem_singleton.mp hf]
      exact fH2 hR4.2.2.1 z2 vk)
    refine seg wT_ok lC_f_ok 3000 lY4_f_960_0 (Nat.le_refl _) x14 hlen hA6 rfl rfl hH4 (by omega) (by omega) ?_
    intro x hx N5 ρ5 ν5 lv5 st5 h5 u5 x5 hA5 hH5 hF5 hP5
    rw [List.mem_singleton.mp hx] at hA5 ⊢
    clear hx x
    dsimp only at hA5 ⊢
    have b9 : (h5.length : Int) - h4.length ≤ 0 := Int.le_trans (hA5.cost (by decide +kernel)).1 (by decide +kernel)
    have c1 : (u5 : Int) - u4 ≤ 0 := Int.le_trans (hA5.cost (by decide +kernel)).2 (by decide +kernel)
    obtain ⟨j, j1, j2⟩ := l_i hA5 rfl rfl (x5 _ _ v4)
    exact l_next (g := true) ih [0, 1, 2, 3, 15, 5, 6, 7, 8, 9, 10, 11, 12, 13, 14] (by decide +kernel) (by decide +kernel) hA5 rfl hH5 rfl rfl rfl rfl j1 (x5 _ _ v7) (x5 _ _ v9) (x5 _ _ v11) (acc.dear j2 (by omega) (by omega) true (fun z => z)) (by omega) rfl rfl rfl (lR.fr ⟨hR4.1, x5 _ _ (hR.2.1), x5 _ _ (hR.2.2.1), x5 _ _ (hR.2.2.2.1), hR4.2.2.2.2⟩ hH4 hF5 hP5 (nExt.refl ν5) stW_nil rW_nil)
def lYa_f_1029 : sS := ([(3, 0, 0), (3, 8, 0), (3, 40, 0), (3, 36, 0), (0, 0, 4088), (0, 8, 4096), (3, 45, 0), (0, 0, 40), (3, 48, 0), (0, 0, 24), (3, 51, 0), (0, 0, 24), (0, 0, 4088), (0, 0, 4088), (3, 56, 0), (0, 1, 1), (0, 1, 4089), (0, -2147483648, 2147483647)], [(0, 0), (1, 1), (2, 2), (3, 3), (4, 4)], [3, 17, 1], [(4, 0, 16, 17, 0), (0, 16, 4, 0, 1), (0, 4, 16, 0, -1), (0, 4, 5, 0, -8), (3, 0, 5, 0, 0), (2, 2, 7, 6, 0), (2, 6, 2, 7, 0), (2, 2, 8, 8, 0), (2, 8, 2, 9, 0), (2, 2, 9, 10, 0), (2, 10, 2, 11, 0), (2, 1, 1, 12, 0), (2, 2, 3, 13, 0), (0, 12, 13, 0, 0), (0, 13, 12, 0, 0), (2, 2, 10, 14, 0), (0, 12, 4, 0, 0), (0, 13, 4, 0, 0)], 0, 0, [])
def lYb_f_1029 : sS := vZ (cvS zi lYa_f_1029 k_L_appeal (cx1 k_L_appeal))
def lYc_f_1029 : sS := ([(3, 0, 0), (3, 8, 0), (3, 40, 0), (3, 36, 0), (0, 0, 4088), (0, 8, 4096), (3, 45, 0), (0, 0, 40), (3, 48, 0), (0, 0, 24), (3, 51, 0), (0, 0, 24), (0, 0, 4088), (0, 0, 4088), (3, 56, 0), (0, 1, 1), (0, 1, 4089), (0, -2147483648, 2147483647), (0, 0, 2), (0, 1, 1)], [(5, 18), (0, 0), (1, 1), (2, 2), (3, 3), (4, 4)], [17, 2], [(4, 0, 16, 17, 0), (0, 16, 4, 0, 1), (0, 4, 16, 0, -1), (0, 4, 5, 0, -8), (3, 0, 5, 0, 0), (2, 2, 7, 6, 0), (2, 6, 2, 7, 0), (2, 2, 8, 8, 0), (2, 8, 2, 9, 0), (2, 2, 9, 10, 0), (2, 10, 2, 11, 0), (2, 1, 1, 12, 0), (2, 2, 3, 13, 0), (0, 12, 13, 0, 0), (0, 13, 12, 0, 0), (2, 2, 10, 14, 0), (0, 12, 4, 0, 0), (0, 13, 4, 0, 0)], 0, 0, [])
theorem lY1_f_1029 : chk zrx zi wT (wRo wSites_15) (wRo wTags_15) lC_f [] 0 0 15 3000 false [(1037, lYa_f_1029, [])] none 57 243 1029 (vZ lM_f) (fun _ _ => false) = true := by decide +kernel
theorem lY2_f_1029 : chk zrx zi wT (wRo wSites_15) (wRo wTags_15) lC_f [] 0 0 19 3000 false [(1049, lYc_f_1029, [])] none 57 243 1040 lYb_f_1029 (fun _ _ => false) = true := by decide +kernel
theorem lV1_f_1029 : cvOk zrx zi wT 243 1037 56 lYa_f_1029 k_L_appeal = true := by decide +kernel
theorem lV2_f_1029 : cvOk zrx zi wT 243 1049 56 lYc_f_1029 k_X15_appeal = true := by decide +kernel
theorem lYn_f_1029 : lYb_f_1029.1.length = 19 := by decide +kernel
theorem lYr_f_1029 : (vZ lM_f).2.2.2.1.all (fun f => !(f.1 == 7)) = true ∧ lYa_f_1029.2.2.2.1.all (fun f => !(f.1 == 7)) = true ∧ (cvS zi lYa_f_1029 k_L_appeal (cx1 k_L_appeal)).2.2.2.1.all (fun f => !(f.1 == 7)) = true ∧ lYc_f_1029.2.2.2.1.all (fun f => !(f.1 == 7)) = true := by decide +kernel
def lYd0_f_1029 : sS := vZ (cvS zi lYc_f_1029 k_X15_appeal (cxi k_X15_appeal 0))
theorem lYd0_f_1029n : lYd0_f_1029.1.length = 21 ∧ (cvS zi lYc_f_1029 k_X15_appeal (cxi k_X15_appeal 0)).2.2.2.1.all (fun f => !(f.1 == 7)) = true := by decide +kernel
theorem lY3_f_1029_0 : chk zrx zi wT (wRo wSites_15) (wRo wTags_15) lC_f [] 0 0 15 3000 false [(27, lT_fza, [])] none 57 243 1052 lYd0_f_1029 (fun _ _ => false) = true := by decide +kernel
set_option maxRecDepth 20000 in
theorem lA_f_1029 {n : Nat} (ih : lIH n) {hb ub : Nat} {N : Int} {ρ : List Nat} {ν : List Value} {lv : List (Nat × Value)} {st : List Value} {h : List zC} {u : Nat} {i R C A : Int32} {F : Int} (hA : gA hb ub ρ ν lM_f lv st h u) (hH : tHeap wT N ρ h) (v4 : ν[4]? = some (.int i)) (v7 : ν[7]? = some (.int R)) (v9 : ν[9]? = some (.int C)) (v11 : ν[11]? = some (.int A))
    (i4 : i.toInt ≤ 4096) (acc : lAcc true hb ub i.toInt R.toInt C.toInt A.toInt F) (rm1 : (ub : Int) + 17920 ≤ zSN) (rm2 : (hb : Int) + 1152 ≤ zCM) (hn : 4104 - i.toInt ≤ (n + 1 : Nat)) (hR : lR ρ ν h) : zE zrx zi 57 243 1029 lv st h u lKK := by
  obtain ⟨dl1, dl2, dl3, dl4⟩ := lD_lo R.toInt C.toInt A.toInt
  obtain ⟨r0, ra, rb, rc⟩ := lYr_f_1029
  have q0 : (h.length : Int) - hb ≤ 0 := hA.2.2.2.2.1
  have q1 : (u : Int) - ub ≤ 0 := hA.2.2.2.2.2
  have hlen : ν.length ≤ 15 := by
    rw [← hA.1.1]
    exact Nat.le_of_eq rfl
  refine seg wT_ok lC_f_ok 3000 lY1_f_1029 (Nat.le_refl _) (nExt.refl ν) hlen (hA.reb r0) rfl rfl hH (by omega) (by omega) ?_
  intro x hx N1 ρ1 ν1 lv1 st1 h1 u1 x1 hA1 hH1 hF1 hP1
  rw [List.mem_singleton.mp hx] at hA1 ⊢
  clear hx x
  dsimp only at hA1 ⊢
  have hR1 := hR.fr hH hF1 hP1 x1 stW_nil rW_nil
  have b1 : (h1.length : Int) - h.length ≤ 0 := Int.le_trans (hA1.cost (by decide +kernel)).1 (by decide +kernel)
  have b2 : (u1 : Int) - u ≤ 0 := Int.le_trans (hA1.cost (by decide +kernel)).2 (by decide +kernel)
  have hT : gSt ν1 [3, 17, 1] st1 := hA1.2.2.1
  obtain ⟨w0, sa0, ea0, o0, ha0⟩ := hT.inv
  subst ea0
  rw [hR1.2.2.2.1] at o0
  cases o0
  obtain ⟨w1, sa1, ea1, o1, ha1⟩ := ha0.inv
  subst ea1
  obtain ⟨p17, rfl, -⟩ := hA1.int o1 rfl
  obtain ⟨w2, sa2, ea2, o2, ha2⟩ := ha1.inv
  subst ea2
  rw [hR1.2.1] at o2
  cases o2
  cases ha2.nil
  obtain ⟨cnt, el, Fk, pf⟩ := pk_at (hR1.2.2.2.2.2.1.2.1) (hR1.2.2.2.2.2.1.2.2.2)
  obtain ⟨cr, rl, pr⟩ : ∃ (cr : Int32) (rl : Nat), pkR h1 cr rl := hR1.2.2.2.2.2.2.1.1
  obtain ⟨cc, lc, pc⟩ : ∃ (cc : Int32) (lc : Nat), pkC h1 cc lc := hR1.2.2.2.2.2.2.1.2.1
  have kc := pk_kC pf pr (hR1.2.2.2.2.1)
  have hcd : ∀ k, k < cc.toNatClampNeg → CI h1 (189 + k) := fun k hk j hj => by
    obtain ⟨q, -, -, -, q4⟩ := pc.2.2.2.2.2.2 k hk
    obtain ⟨x, x1, -⟩ := q4 j (by omega)
    exact ⟨x, x1⟩
  have hwy : ∀ i, i < 4 → ∃ w : Int32, gF h1 25 i = some (.int w) := fun i hi => by
    obtain ⟨w, w1, -⟩ := (hR1.2.2.2.2.2.2.2.1.2.2) i hi
    exact ⟨w, w1⟩
  have hl1 := hR1.2.2.2.2.1.1
  obtain ⟨rv, rv1, rv2⟩ := id (hR1.2.2.2.2.2.2.2.2.2)
  refine call_val con_L_appeal vr_243_1037 lV1_f_1029 rfl rfl (hA1.reb ra) hH1 (by have : k_L_appeal.2.2.2.2.1 = 1 := rfl; omega) (by have : k_L_appeal.2.2.2.2.2.1 = 6 := rfl; omega) rfl (fun n => C_Lappeal n p17 h1 u1 kc pc.1 pc.2.2.2.2.2.1 hcd rv1) ?_
  intro N2 ρ2 ν2 v h2 u2 n2 x2 hA2 hH2 hF2 hP2 V1
  obtain ⟨k, hk, V1⟩ := V1
  cases hk
  have V1 : Q_Lappeal (exK h1) (geK h1 cnt) cnt cr cc rv p17 h1 (.inl (some (.int k))) h2 u2 := ⟨k, rfl, V1⟩
  have b3 : (h2.length : Int) - h1.length ≤ 1 := Int.le_trans (hA2.cost (by decide +kernel)).1 (by decide +kernel)
  have b4 : (u2 : Int) - u1 ≤ 6 := Int.le_trans (hA2.cost (by decide +kernel)).2 (by decide +kernel)
  have hTk : ν2[18]? = some (.int k) := gSt_hd hA2.2.2.1 (by decide +kernel)
  have hlen2 : ν2.length ≤ 19 := by
    rw [← hA2.1.1]
    exact Nat.le_of_eq lYn_f_1029
  have hS2 : Stc h2 := hR1.2.2.2.2.1.fr hR1.1 hF2 stW_L_appeal
  have hRo2 : Ro ρ2 := hR1.1.pre hP2
  show zE zrx zi 57 243 1040 lv1 _ h2 u2 lKK
  refine seg wT_ok lC_f_ok 3000 lY2_f_1029 (Nat.le_refl _) (nExt.refl ν2) hlen2 (hA2.reb rb) rfl rfl hH2 (by omega) (by omega) ?_
  intro x hx N3 ρ3 ν3 lv3 st3 h3 u3 x3 hA3 hH3 hF3 hP3
  rw [List.mem_singleton.mp hx] at hA3 ⊢
  clear hx x
  dsimp only at hA3 ⊢
  have hS3 : Stc h3 := hS2.fr hRo2 hF3 stW_nil
  have b5 : (h3.length : Int) - h2.length ≤ 0 := Int.le_trans (hA3.cost (by decide +kernel)).1 (by decide +kernel)
  have b6 : (u3 : Int) - u2 ≤ 0 := Int.le_trans (hA3.cost (by decide +kernel)).2 (by decide +kernel)
  have hE : ∀ p, p < h2.length → ∀ k, gF h3 p k = gF h2 p k := fun p hp k => gFr_F0 hF3 hH2.1 hp k
  have hT : gSt ν3 [17, 2] st3 := hA3.2.2.1
  obtain ⟨w0, sb0, eb0, c0, hb0⟩ := hT.inv
  subst eb0
  rw [x3 _ _ (x2 _ _ o1)] at c0
  cases c0
  obtain ⟨w1, sb1, eb1, c1, hb1⟩ := hb0.inv
  subst eb1
  rw [x3 _ _ (x2 _ _ hR1.2.2.1)] at c1
  cases c1
  cases hb1.nil
  have hl1 := hR1.2.2.2.2.1.1
  have hl2 := gFr_len hF2
  have hl3 := gFr_len hF3
  have ro3 : Ro ρ3 := hRo2.pre hP3
  have o3 : rfO h1 h3 := fun q j hq z => (hE q (by omega) j).trans (rf_appeal pc.2.2.2.2.2.1 V1 q j hq z)
  have mc := pk_mC pf pr hl1 hS3 o3
  obtain ⟨⟨nel, nrl⟩, nA, nR, ⟨hcs, hcl, nlc⟩, hq, hw, hj⟩ := pk_ref pf pr pc (hR1.2.2.2.2.2.2.1.2.2) (hR1.2.2.2.2.2.2.2.1.2.2) hl1 o3
  have rv3 := (hE 213 (by omega) 2).trans ((gFr_F hF2 (hR1.1 213 40 (by decide +kernel)) (by decide +kernel) (by omega)).trans rv2)
  refine call_val con_X15_appeal vr_243_1049 lV2_f_1029 rfl rfl (hA3.reb rc) hH3 (by have : k_X15_appeal.2.2.2.2.1 = 0 := rfl; omega) (by have : k_X15_appeal.2.2.2.2.2.1 = 0 := rfl; omega) rfl (fun n => C_mappeal n p17 h3 u3 mc nel nrl nA nR hcs hcl pc.2.2.2.2.1 nlc hq rv3 hj) ?_
  intro N4 ρ4 ν4 v h4 u4 n4 x4 hA4 hH4 hF4 hP4 V2
  obtain ⟨nd, rd⟩ := lYd0_f_1029n
  obtain ⟨r, hr⟩ : ∃ r : Int32, v = .int r := by
    first
      | (obtain ⟨r, h0, hr, -⟩ := V2; cases hr; exact ⟨r, rfl⟩)
      | (obtain ⟨r, hr, -⟩ := V2; cases hr; exact ⟨r, rfl⟩)
  subst hr
  have b7 : (h4.length : Int) - h3.length ≤ 0 := Int.le_trans (hA4.cost (by decide +kernel)).1 (by decide +kernel)
  have b8 : (u4 : Int) - u3 ≤ 0 := Int.le_trans (hA4.cost (by decide +kernel)).2 (by decide +kernel)
  have z1 := ((by
    obtain ⟨⟨y1, y5⟩, y2, y3, y4⟩ := sumV_appeal hl1 hH1 hR1.1 (hR1.2.2.2.2.1) pf pr (hR1.2.2.2.2.2.2.2.1.2.1) pc (hR1.2.2.2.2.2.2.1.2.2) rv1 rv2 hl2 V1 hE V2
    exact ⟨⟨⟨qFed.fr3 (hR1.2.2.2.2.2.1.1) hR1.2.2.2.2.1 hR1.1 hH1 hF2 (by decide +kernel) hS2 hRo2 hH2 hF3 hS3 (hRo2.pre hP3) hH3 hF4 (by decide +kernel), qAR.fr3 (hR1.2.2.2.2.2.1.2.1) hR1.2.2.2.2.1 hR1.1 hH1 hF2 (by decide +kernel) hS2 hRo2 hH2 hF3 hS3 (hRo2.pre hP3) hH3 hF4 (by decide +kernel), qHO.fr3 (hR1.2.2.2.2.2.1.2.2.1) hR1.2.2.2.2.1 hR1.1 hH1 hF2 (by decide +kernel) hS2 hRo2 hH2 hF3 hS3 (hRo2.pre hP3) hH3 hF4 (by decide +kernel), qEX.fr3 (hR1.2.2.2.2.2.1.2.2.2) hR1.2.2.2.2.1 hR1.1 hH1 hF2 (by decide +kernel) hS2 hRo2 hH2 hF3 hS3 (hRo2.pre hP3) hH3 hF4 (by decide +kernel)⟩, ⟨qRFu.fr3 (hR1.2.2.2.2.2.2.1.1) hR1.2.2.2.2.1 hR1.1 hH1 hF2 (by decide +kernel) hS2 hRo2 hH2 hF3 hS3 (hRo2.pre hP3) hH3 hF4 (by decide +kernel), qRCs.fr3 (hR1.2.2.2.2.2.2.1.2.1) hR1.2.2.2.2.1 hR1.1 hH1 hF2 (by decide +kernel) hS2 hRo2 hH2 hF3 hS3 (hRo2.pre hP3) hH3 hF4 (by decide +kernel), y1⟩, ⟨Rw.fr3 (hR1.2.2.2.2.2.2.2.1.1) hR1.2.2.2.2.1 hR1.1 hH1 hF2 (by decide +kernel) hS2 hRo2 hH2 hF3 hS3 (hRo2.pre hP3) hH3 hF4 (by decide +kernel), qSm.fr3T (hR1.2.2.2.2.2.2.2.1.2.1) hR1.2.2.2.2.1 hR1.1 hH1 hF2 (by decide +kernel) hS2 hRo2 hH2 hF3 hS3 (hRo2.pre hP3) hH3 hF4 (by decide +kernel), qSm.fr3Y (hR1.2.2.2.2.2.2.2.1.2.2) hR1.2.2.2.2.1 hR1.1 hH1 hF2 (by decide +kernel) hS2 hRo2 hH2 hF3 hS3 (hRo2.pre hP3) hH3 hF4 (by decide +kernel)⟩, qDz.fr3 (hR1.2.2.2.2.2.2.2.2.1) hR1.2.2.2.2.1 hR1.1 hH1 hF2 (by decide +kernel) hS2 hRo2 hH2 hF3 hS3 (hRo2.pre hP3) hH3 hF4 (by decide +kernel), y5⟩, trivial⟩ : qAll h4 ∧ True)).1
  have hR4 : lR ρ4 ν4 h4 := ⟨(hRo2.pre hP3).pre hP4, x4 _ _ (x3 _ _ (x2 _ _ hR1.2.1)), x4 _ _ (x3 _ _ (x2 _ _ hR1.2.2.1)), x4 _ _ (x3 _ _ (x2 _ _ hR1.2.2.2.1)), hS3.fr (hRo2.pre hP3) hF4 stW_X15_appeal, z1⟩
  have x14 : nExt ν ν4 := x1.trans (x2.trans (x3.trans x4))
  have hA4 := hA4.reb rd
  show zE zrx zi 57 243 1052 lv3 _ h4 u4 lKK
  refine seg wT_ok lC_f_ok 3000 lY3_f_1029_0 (Nat.le_refl _) x14 hlen hA4 rfl rfl hH4 (by omega) (by omega) ?_
  intro x hx N5 ρ5 ν5 lv5 st5 h5 u5 x5 hA5 hH5 hF5 hP5
  rw [List.mem_singleton.mp hx] at hA5 ⊢
  clear hx x
  dsimp only at hA5 ⊢
  have b9 : (h5.length : Int) - h4.length ≤ 0 := Int.le_trans (hA5.cost (by decide +kernel)).1 (by decide +kernel)
  have c1 : (u5 : Int) - u4 ≤ 0 := Int.le_trans (hA5.cost (by decide +kernel)).2 (by decide +kernel)
  obtain ⟨j, j1, j2⟩ := l_i hA5 rfl rfl (x5 _ _ v4)
  exact l_next (g := true) ih [0, 1, 2, 3, 15, 5, 6, 7, 8, 9, 10, 11, 12, 13, 14] (by decide +kernel) (by decide +kernel) hA5 rfl hH5 rfl rfl rfl rfl j1 (x5 _ _ v7) (x5 _ _ v9) (x5 _ _ v11) (acc.dear j2 (by omega) (by omega) true (fun z => z)) (by omega) rfl rfl rfl (lR.fr ⟨hR4.1, x5 _ _ (hR.2.1), x5 _ _ (hR.2.2.1), x5 _ _ (hR.2.2.2.1), hR4.2.2.2.2⟩ hH4 hF5 hP5 (nExt.refl ν5) stW_nil rW_nil)
def lYa_f_1057 : sS := ([(3, 0, 0), (3, 8, 0), (3, 40, 0), (3, 36, 0), (0, 0, 4088), (0, 8, 4096), (3, 45, 0), (0, 0, 40), (3, 48, 0), (0, 0, 24), (3, 51, 0), (0, 0, 24), (0, 0, 4088), (0, 0, 4088), (3, 56, 0), (0, 1, 1), (0, 1, 4089), (0, -2147483648, 2147483647)], [(0, 0), (1, 1), (2, 2), (3, 3), (4, 4)], [3, 17, 1], [(4, 0, 16, 17, 0), (0, 16, 4, 0, 1), (0, 4, 16, 0, -1), (0, 4, 5, 0, -8), (3, 0, 5, 0, 0), (2, 2, 7, 6, 0), (2, 6, 2, 7, 0), (2, 2, 8, 8, 0), (2, 8, 2, 9, 0), (2, 2, 9, 10, 0), (2, 10, 2, 11, 0), (2, 1, 1, 12, 0), (2, 2, 3, 13, 0), (0, 12, 13, 0, 0), (0, 13, 12, 0, 0), (2, 2, 10, 14, 0), (0, 12, 4, 0, 0), (0, 13, 4, 0, 0)], 0, 0, [])
def lYb_f_1057 : sS := vZ (cvS zi lYa_f_1057 k_L_pass (cx1 k_L_pass))
def lYc_f_1057 : sS := ([(3, 0, 0), (3, 8, 0), (3, 40, 0), (3, 36, 0), (0, 0, 4088), (0, 8, 4096), (3, 45, 0), (0, 0, 40), (3, 48, 0), (0, 0, 24), (3, 51, 0), (0, 0, 24), (0, 0, 4088), (0, 0, 4088), (3, 56, 0), (0, 1, 1), (0, 1, 4089), (0, -2147483648, 2147483647), (0, 0, 2), (0, 1, 1)], [(5, 18), (0, 0), (1, 1), (2, 2), (3, 3), (4, 4)], [17, 2], [(4, 0, 16, 17, 0), (0, 16, 4, 0, 1), (0, 4, 16, 0, -1), (0, 4, 5, 0, -8), (3, 0, 5, 0, 0), (2, 2, 7, 6, 0), (2, 6, 2, 7, 0), (2, 2, 8, 8, 0), (2, 8, 2, 9, 0), (2, 2, 9, 10, 0), (2, 10, 2, 11, 0), (2, 1, 1, 12, 0), (2, 2, 3, 13, 0), (0, 12, 13, 0, 0), (0, 13, 12, 0, 0), (2, 2, 10, 14, 0), (0, 12, 4, 0, 0), (0, 13, 4, 0, 0)], 0, 0, [])
theorem lY1_f_1057 : chk zrx zi wT (wRo wSites_15) (wRo wTags_15) lC_f [] 0 0 15 3000 false [(1065, lYa_f_1057, [])] none 57 243 1057 (vZ lM_f) (fun _ _ => false) = true := by decide +kernel
theorem lY2_f_1057 : chk zrx zi wT (wRo wSites_15) (wRo wTags_15) lC_f [] 0 0 19 3000 false [(1077, lYc_f_1057, [])] none 57 243 1068 lYb_f_1057 (fun _ _ => false) = true := by decide +kernel
theorem lV1_f_1057 : cvOk zrx zi wT 243 1065 56 lYa_f_1057 k_L_pass = true := by decide +kernel
theorem lV2_f_1057 : cvOk zrx zi wT 243 1077 56 lYc_f_1057 k_X15_pass = true := by decide +kernel
theorem lYn_f_1057 : lYb_f_1057.1.length = 19 := by decide +kernel
theorem lYr_f_1057 : (vZ lM_f).2.2.2.1.all (fun f => !(f.1 == 7)) = true ∧ lYa_f_1057.2.2.2.1.all (fun f => !(f.1 == 7)) = true ∧ (cvS zi lYa_f_1057 k_L_pass (cx1 k_L_pass)).2.2.2.1.all (fun f => !(f.1 == 7)) = true ∧ lYc_f_1057.2.2.2.1.all (fun f => !(f.1 == 7)) = true := by decide +kernel
def lYd0_f_1057 : sS := vZ (cvS zi lYc_f_1057 k_X15_pass (cxi k_X15_pass 0))
theorem lYd0_f_1057n : lYd0_f_1057.1.length = 21 ∧ (cvS zi lYc_f_1057 k_X15_pass (cxi k_X15_pass 0)).2.2.2.1.all (fun f => !(f.1 == 7)) = true := by decide +kernel
theorem lY3_f_1057_0 : chk zrx zi wT (wRo wSites_15) (wRo wTags_15) lC_f [] 0 0 15 3000 false [(27, lT_fza, [])] none 57 243 1080 lYd0_f_1057 (fun _ _ => false) = true := by decide +kernel
set_option maxRecDepth 20000 in
theorem lA_f_1057 {n : Nat} (ih : lIH n) {hb ub : Nat} {N : Int} {ρ : List Nat} {ν : List Value} {lv : List (Nat × Value)} {st : List Value} {h : List zC} {u : Nat} {i R C A : Int32} {F : Int} (hA : gA hb ub ρ ν lM_f lv st h u) (hH : tHeap wT N ρ h) (v4 : ν[4]? = some (.int i)) (v7 : ν[7]? = some (.int R)) (v9 : ν[9]? = some (.int C)) (v11 : ν[11]? = some (.int A))
    (i4 : i.toInt ≤ 4096) (acc : lAcc true hb ub i.toInt R.toInt C.toInt A.toInt F) (rm1 : (ub : Int) + 17920 ≤ zSN) (rm2 : (hb : Int) + 1152 ≤ zCM) (hn : 4104 - i.toInt ≤ (n + 1 : Nat)) (hR : lR ρ ν h) : zE zrx zi 57 243 1057 lv st h u lKK := by
  obtain ⟨dl1, dl2, dl3, dl4⟩ := lD_lo R.toInt C.toInt A.toInt
  obtain ⟨r0, ra, rb, rc⟩ := lYr_f_1057
  have q0 : (h.length : Int) - hb ≤ 0 := hA.2.2.2.2.1
  have q1 : (u : Int) - ub ≤ 0 := hA.2.2.2.2.2
  have hlen : ν.length ≤ 15 := by
    rw [← hA.1.1]
    exact Nat.le_of_eq rfl
  refine seg wT_ok lC_f_ok 3000 lY1_f_1057 (Nat.le_refl _) (nExt.refl ν) hlen (hA.reb r0) rfl rfl hH (by omega) (by omega) ?_
  intro x hx N1 ρ1 ν1 lv1 st1 h1 u1 x1 hA1 hH1 hF1 hP1
  rw [List.mem_singleton.mp hx] at hA1 ⊢
  clear hx x
  dsimp only at hA1 ⊢
  have hR1 := hR.fr hH hF1 hP1 x1 stW_nil rW_nil
  have b1 : (h1.length : Int) - h.length ≤ 0 := Int.le_trans (hA1.cost (by decide +kernel)).1 (by decide +kernel)
  have b2 : (u1 : Int) - u ≤ 0 := Int.le_trans (hA1.cost (by decide +kernel)).2 (by decide +kernel)
  have hT : gSt ν1 [3, 17, 1] st1 := hA1.2.2.1
  obtain ⟨w0, sa0, ea0, o0, ha0⟩ := hT.inv
  subst ea0
  rw [hR1.2.2.2.1] at o0
  cases o0
  obtain ⟨w1, sa1, ea1, o1, ha1⟩ := ha0.inv
  subst ea1
  obtain ⟨p17, rfl, -⟩ := hA1.int o1 rfl
  obtain ⟨w2, sa2, ea2, o2, ha2⟩ := ha1.inv
  subst ea2
  rw [hR1.2.1] at o2
  cases o2
  cases ha2.nil
  obtain ⟨T, L, fs, fa, fbd, t1, t3, fm1⟩ := hR1.2.2.2.2.2.1.1
  obtain ⟨cnt, el, c0, c2, c1, cel, h0c, h24, -⟩ := id (hR1.2.2.2.2.2.1.2.1)
  obtain ⟨dd, d1, d2, d3⟩ := id (hR1.2.2.2.2.2.2.2.2.1)
  have t2 : L ≤ 60 := fm1.l60
  refine call_val con_L_pass vr_243_1065 lV1_f_1057 rfl rfl (hA1.reb ra) hH1 (by have : k_L_pass.2.2.2.2.1 = 1 := rfl; omega) (by have : k_L_pass.2.2.2.2.2.1 = 6 := rfl; omega) rfl (fun n => C_Lpass n p17 h1 u1 d1) ?_
  intro N2 ρ2 ν2 v h2 u2 n2 x2 hA2 hH2 hF2 hP2 V1
  obtain ⟨k, hk, V1⟩ := V1
  cases hk
  have V1 : Q_Lpass dd p17 h1 (.inl (some (.int k))) h2 u2 := ⟨k, rfl, V1⟩
  have b3 : (h2.length : Int) - h1.length ≤ 1 := Int.le_trans (hA2.cost (by decide +kernel)).1 (by decide +kernel)
  have b4 : (u2 : Int) - u1 ≤ 6 := Int.le_trans (hA2.cost (by decide +kernel)).2 (by decide +kernel)
  have hTk : ν2[18]? = some (.int k) := gSt_hd hA2.2.2.1 (by decide +kernel)
  have hlen2 : ν2.length ≤ 19 := by
    rw [← hA2.1.1]
    exact Nat.le_of_eq lYn_f_1057
  have hS2 : Stc h2 := hR1.2.2.2.2.1.fr hR1.1 hF2 stW_L_pass
  have hRo2 : Ro ρ2 := hR1.1.pre hP2
  show zE zrx zi 57 243 1068 lv1 _ h2 u2 lKK
  refine seg wT_ok lC_f_ok 3000 lY2_f_1057 (Nat.le_refl _) (nExt.refl ν2) hlen2 (hA2.reb rb) rfl rfl hH2 (by omega) (by omega) ?_
  intro x hx N3 ρ3 ν3 lv3 st3 h3 u3 x3 hA3 hH3 hF3 hP3
  rw [List.mem_singleton.mp hx] at hA3 ⊢
  clear hx x
  dsimp only at hA3 ⊢
  have hS3 : Stc h3 := hS2.fr hRo2 hF3 stW_nil
  have b5 : (h3.length : Int) - h2.length ≤ 0 := Int.le_trans (hA3.cost (by decide +kernel)).1 (by decide +kernel)
  have b6 : (u3 : Int) - u2 ≤ 0 := Int.le_trans (hA3.cost (by decide +kernel)).2 (by decide +kernel)
  have hE : ∀ p, p < h2.length → ∀ k, gF h3 p k = gF h2 p k := fun p hp k => gFr_F0 hF3 hH2.1 hp k
  have hT : gSt ν3 [17, 2] st3 := hA3.2.2.1
  obtain ⟨w0, sb0, eb0, c0, hb0⟩ := hT.inv
  subst eb0
  rw [x3 _ _ (x2 _ _ o1)] at c0
  cases c0
  obtain ⟨w1, sb1, eb1, c1, hb1⟩ := hb0.inv
  subst eb1
  rw [x3 _ _ (x2 _ _ hR1.2.2.1)] at c1
  cases c1
  cases hb1.nil
  have hl1 := hR1.2.2.2.2.1.1
  have hl2 := gFr_len hF2
  have hl3 := gFr_len hF3
  have ro3 : Ro ρ3 := hRo2.pre hP3
  have d4 := (hE 213 (by omega) 1).trans ((gFr_F hF2 (hR1.1 213 40 (by decide +kernel)) (by decide +kernel) (by omega)).trans d2)
  refine call_val con_X15_pass vr_243_1077 lV2_f_1057 rfl rfl (hA3.reb rc) hH3 (by have : k_X15_pass.2.2.2.2.1 = 0 := rfl; omega) (by have : k_X15_pass.2.2.2.2.2.1 = 0 := rfl; omega) rfl (fun n => C_mpass n p17 h3 u3 d4) ?_
  intro N4 ρ4 ν4 v h4 u4 n4 x4 hA4 hH4 hF4 hP4 V2
  obtain ⟨nd, rd⟩ := lYd0_f_1057n
  obtain ⟨r, hr⟩ : ∃ r : Int32, v = .int r := by
    first
      | (obtain ⟨r, h0, hr, -⟩ := V2; cases hr; exact ⟨r, rfl⟩)
      | (obtain ⟨r, hr, -⟩ := V2; cases hr; exact ⟨r, rfl⟩)
  subst hr
  have b7 : (h4.length : Int) - h3.length ≤ 0 := Int.le_trans (hA4.cost (by decide +kernel)).1 (by decide +kernel)
  have b8 : (u4 : Int) - u3 ≤ 0 := Int.le_trans (hA4.cost (by decide +kernel)).2 (by decide +kernel)
  have z1 := ((⟨⟨⟨qFed.fr3 (hR1.2.2.2.2.2.1.1) hR1.2.2.2.2.1 hR1.1 hH1 hF2 (by decide +kernel) hS2 hRo2 hH2 hF3 hS3 (hRo2.pre hP3) hH3 hF4 (by decide +kernel), qAR.fr3 (hR1.2.2.2.2.2.1.2.1) hR1.2.2.2.2.1 hR1.1 hH1 hF2 (by decide +kernel) hS2 hRo2 hH2 hF3 hS3 (hRo2.pre hP3) hH3 hF4 (by decide +kernel), qHO.fr3 (hR1.2.2.2.2.2.1.2.2.1) hR1.2.2.2.2.1 hR1.1 hH1 hF2 (by decide +kernel) hS2 hRo2 hH2 hF3 hS3 (hRo2.pre hP3) hH3 hF4 (by decide +kernel), qEX.fr3 (hR1.2.2.2.2.2.1.2.2.2) hR1.2.2.2.2.1 hR1.1 hH1 hF2 (by decide +kernel) hS2 hRo2 hH2 hF3 hS3 (hRo2.pre hP3) hH3 hF4 (by decide +kernel)⟩, ⟨qRFu.fr3 (hR1.2.2.2.2.2.2.1.1) hR1.2.2.2.2.1 hR1.1 hH1 hF2 (by decide +kernel) hS2 hRo2 hH2 hF3 hS3 (hRo2.pre hP3) hH3 hF4 (by decide +kernel), qRCs.fr3 (hR1.2.2.2.2.2.2.1.2.1) hR1.2.2.2.2.1 hR1.1 hH1 hF2 (by decide +kernel) hS2 hRo2 hH2 hF3 hS3 (hRo2.pre hP3) hH3 hF4 (by decide +kernel), qVd.fr3 (hR1.2.2.2.2.2.2.1.2.2) hR1.2.2.2.2.1 hR1.1 hH1 hF2 (by decide +kernel) hS2 hRo2 hH2 hF3 hS3 (hRo2.pre hP3) hH3 hF4 (by decide +kernel)⟩, ⟨Rw.fr3 (hR1.2.2.2.2.2.2.2.1.1) hR1.2.2.2.2.1 hR1.1 hH1 hF2 (by decide +kernel) hS2 hRo2 hH2 hF3 hS3 (hRo2.pre hP3) hH3 hF4 (by decide +kernel), qSm.fr3T (hR1.2.2.2.2.2.2.2.1.2.1) hR1.2.2.2.2.1 hR1.1 hH1 hF2 (by decide +kernel) hS2 hRo2 hH2 hF3 hS3 (hRo2.pre hP3) hH3 hF4 (by decide +kernel), qSm.fr3Y (hR1.2.2.2.2.2.2.2.1.2.2) hR1.2.2.2.2.1 hR1.1 hH1 hF2 (by decide +kernel) hS2 hRo2 hH2 hF3 hS3 (hRo2.pre hP3) hH3 hF4 (by decide +kernel)⟩, sumZ_pass d1 d2 d3 hl1 hl2 V1 hE V2, qRv.fr3 (hR1.2.2.2.2.2.2.2.2.2) hR1.2.2.2.2.1 hR1.1 hH1 hF2 (by decide +kernel) hS2 hRo2 hH2 hF3 hS3 (hRo2.pre hP3) hH3 hF4 (by decide +kernel)⟩, trivial⟩ : qAll h4 ∧ True)).1
  have hR4 : lR ρ4 ν4 h4 := ⟨(hRo2.pre hP3).pre hP4, x4 _ _ (x3 _ _ (x2 _ _ hR1.2.1)), x4 _ _ (x3 _ _ (x2 _ _ hR1.2.2.1)), x4 _ _ (x3 _ _ (x2 _ _ hR1.2.2.2.1)), hS3.fr (hRo2.pre hP3) hF4 stW_X15_pass, z1⟩
  have x14 : nExt ν ν4 := x1.trans (x2.trans (x3.trans x4))
  have hA4 := hA4.reb rd
  show zE zrx zi 57 243 1080 lv3 _ h4 u4 lKK
  refine seg wT_ok lC_f_ok 3000 lY3_f_1057_0 (Nat.le_refl _) x14 hlen hA4 rfl rfl hH4 (by omega) (by omega) ?_
  intro x hx N5 ρ5 ν5 lv5 st5 h5 u5 x5 hA5 hH5 hF5 hP5
  rw [List.mem_singleton.mp hx] at hA5 ⊢
  clear hx x
  dsimp only at hA5 ⊢
  have b9 : (h5.length : Int) - h4.length ≤ 0 := Int.le_trans (hA5.cost (by decide +kernel)).1 (by decide +kernel)
  have c1 : (u5 : Int) - u4 ≤ 0 := Int.le_trans (hA5.cost (by decide +kernel)).2 (by decide +kernel)
  obtain ⟨j, j1, j2⟩ := l_i hA5 rfl rfl (x5 _ _ v4)
  exact l_next (g := true) ih [0, 1, 2, 3, 15, 5, 6, 7, 8, 9, 10, 11, 12, 13, 14] (by decide +kernel) (by decide +kernel) hA5 rfl hH5 rfl rfl rfl rfl j1 (x5 _ _ v7) (x5 _ _ v9) (x5 _ _ v11) (acc.dear j2 (by omega) (by omega) true (fun z => z)) (by omega) rfl rfl rfl (lR.fr ⟨hR4.1, x5 _ _ (hR.2.1), x5 _ _ (hR.2.2.1), x5 _ _ (hR.2.2.2.1), hR4.2.2.2.2⟩ hH4 hF5 hP5 (nExt.refl ν5) stW_nil rW_nil)
