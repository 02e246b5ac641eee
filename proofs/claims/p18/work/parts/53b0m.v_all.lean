/-! ===== the relation of all, on ===== -/
/-! all of it -/
def qRvW (Wr : List (Nat × Nat)) : Bool := !(wIn Wr 8 2) && !(wIn Wr 40 2)
theorem qRv.fr {Wr : List (Nat × Nat)} {ρ : List Nat} {h h' : List zC} (hr : qRv h) (hl : 239 ≤ h.length) (ro : Ro ρ) (hF : gFr Wr ρ h h') (hw : qRvW Wr = true) : qRv h' := by
  obtain ⟨d, d1, d2⟩ := hr
  obtain ⟨w1, w2⟩ := Bool.and_eq_true_iff.mp hw
  exact ⟨d, by rw [gFr_F hF (ro 16 8 (by decide +kernel)) (by simpa using w1) (by omega)]; exact d1, by rw [gFr_F hF (ro 213 40 (by decide +kernel)) (by simpa using w2) (by omega)]; exact d2⟩
theorem qSm.frT {Wr : List (Nat × Nat)} {ρ : List Nat} {h h' : List zC} (r : qSm 30 222 2 h) (hl : 239 ≤ h.length) (ro : Ro ρ) (hF : gFr Wr ρ h h') (hw : wSm 19 44 Wr = true) : qSm 30 222 2 h' := r.fr (ra := 19) (rb := 44) (by decide +kernel) (by decide +kernel) (by decide) hl ro hF hw
theorem qSm.frY {Wr : List (Nat × Nat)} {ρ : List Nat} {h h' : List zC} (r : qSm 25 237 3 h) (hl : 239 ≤ h.length) (ro : Ro ρ) (hF : gFr Wr ρ h h') (hw : wSm 12 64 Wr = true) : qSm 25 237 3 h' := r.fr (ra := 12) (rb := 64) (by decide +kernel) (by decide +kernel) (by decide) hl ro hF hw
def qAll (h : List zC) : Prop := (qFed h ∧ qAR h ∧ qHO h ∧ qEX h) ∧ (qRFu h ∧ qRCs h ∧ qVd h) ∧ (Rw h ∧ qSm 30 222 2 h ∧ qSm 25 237 3 h) ∧ qDz h ∧ qRv h
def wA1 (Wr : List (Nat × Nat)) : Bool := (wFd Wr && wAr Wr) && (wHo Wr && wEx Wr)
def wA2 (Wr : List (Nat × Nat)) : Bool := wFu Wr && (wCs Wr && wVd Wr)
def wA3 (Wr : List (Nat × Nat)) : Bool := wWd Wr && (wSm 19 44 Wr && wSm 12 64 Wr)
def wA4 (Wr : List (Nat × Nat)) : Bool := wDy Wr && qRvW Wr
def wAw (Wr : List (Nat × Nat)) : Bool := (wA1 Wr && wA2 Wr) && (wA3 Wr && wA4 Wr)
theorem qAll.fr {Wr : List (Nat × Nat)} {N : Int} {ρ : List Nat} {h h' : List zC} (hr : qAll h) (hS : Stc h) (ro : Ro ρ) (hH : tHeap wT N ρ h) (hF : gFr Wr ρ h h') (hw : wAw Wr = true) : qAll h' := by
  obtain ⟨w1, w2⟩ := Bool.and_eq_true_iff.mp hw
  obtain ⟨a1, a2⟩ := Bool.and_eq_true_iff.mp w1
  obtain ⟨a3, a4⟩ := Bool.and_eq_true_iff.mp w2
  obtain ⟨b1, b2⟩ := Bool.and_eq_true_iff.mp a1
  obtain ⟨c1, c2⟩ := Bool.and_eq_true_iff.mp b1
  obtain ⟨c3, c4⟩ := Bool.and_eq_true_iff.mp b2
  obtain ⟨d1, b3⟩ := Bool.and_eq_true_iff.mp a2
  obtain ⟨d2, d3⟩ := Bool.and_eq_true_iff.mp b3
  obtain ⟨e1, b4⟩ := Bool.and_eq_true_iff.mp a3
  obtain ⟨e2, e3⟩ := Bool.and_eq_true_iff.mp b4
  obtain ⟨f1, f2⟩ := Bool.and_eq_true_iff.mp a4
  obtain ⟨⟨r1, r2, r3, r4⟩, ⟨r5, r6, r7⟩, ⟨r8, r9, r10⟩, r11, r12⟩ := hr
  exact ⟨⟨r1.fr hS.1 ro hH hF c1, r2.fr hS.1 ro hH hF c2, r3.fr hS.1 ro hF c3, r4.fr hS.1 ro hH hF c4⟩, ⟨r5.fr hS ro hH hF d1, r6.fr hS ro hH hF d2, r7.fr hS.1 ro hH hF d3⟩, ⟨r8.fr hS.1 ro hF e1, r9.frT hS.1 ro hF e2, r10.frY hS.1 ro hF e3⟩, r11.fr hS.1 ro hF f1, r12.fr hS.1 ro hF f2⟩
section fr3a
variable {W2 W4 : List (Nat × Nat)} {N1 N2 N3 : Int} {ρ1 ρ2 ρ3 : List Nat} {h1 h2 h3 h4 : List zC}
theorem qVd.fr3 (hr : qVd h1) (S1 : Stc h1) (ro1 : Ro ρ1) (H1 : tHeap wT N1 ρ1 h1) (F2 : gFr W2 ρ1 h1 h2) (w2 : wVd W2 = true) (S2 : Stc h2) (ro2 : Ro ρ2) (H2 : tHeap wT N2 ρ2 h2) (F3 : gFr [] ρ2 h2 h3) (S3 : Stc h3) (ro3 : Ro ρ3) (H3 : tHeap wT N3 ρ3 h3) (F4 : gFr W4 ρ3 h3 h4) (w4 : wVd W4 = true) : qVd h4 := ((hr.fr S1.1 ro1 H1 F2 w2).fr S2.1 ro2 H2 F3 (by decide)).fr S3.1 ro3 H3 F4 w4
theorem qDz.fr3 (hr : qDz h1) (S1 : Stc h1) (ro1 : Ro ρ1) (H1 : tHeap wT N1 ρ1 h1) (F2 : gFr W2 ρ1 h1 h2) (w2 : wDy W2 = true) (S2 : Stc h2) (ro2 : Ro ρ2) (H2 : tHeap wT N2 ρ2 h2) (F3 : gFr [] ρ2 h2 h3) (S3 : Stc h3) (ro3 : Ro ρ3) (H3 : tHeap wT N3 ρ3 h3) (F4 : gFr W4 ρ3 h3 h4) (w4 : wDy W4 = true) : qDz h4 := ((hr.fr S1.1 ro1 F2 w2).fr S2.1 ro2 F3 rfl).fr S3.1 ro3 F4 w4
theorem qRv.fr3 (hr : qRv h1) (S1 : Stc h1) (ro1 : Ro ρ1) (H1 : tHeap wT N1 ρ1 h1) (F2 : gFr W2 ρ1 h1 h2) (w2 : qRvW W2 = true) (S2 : Stc h2) (ro2 : Ro ρ2) (H2 : tHeap wT N2 ρ2 h2) (F3 : gFr [] ρ2 h2 h3) (S3 : Stc h3) (ro3 : Ro ρ3) (H3 : tHeap wT N3 ρ3 h3) (F4 : gFr W4 ρ3 h3 h4) (w4 : qRvW W4 = true) : qRv h4 := ((hr.fr S1.1 ro1 F2 w2).fr S2.1 ro2 F3 rfl).fr S3.1 ro3 F4 w4
theorem qSm.fr3T (hr : qSm 30 222 2 h1) (S1 : Stc h1) (ro1 : Ro ρ1) (H1 : tHeap wT N1 ρ1 h1) (F2 : gFr W2 ρ1 h1 h2) (w2 : wSm 19 44 W2 = true) (S2 : Stc h2) (ro2 : Ro ρ2) (H2 : tHeap wT N2 ρ2 h2) (F3 : gFr [] ρ2 h2 h3) (S3 : Stc h3) (ro3 : Ro ρ3) (H3 : tHeap wT N3 ρ3 h3) (F4 : gFr W4 ρ3 h3 h4) (w4 : wSm 19 44 W4 = true) : qSm 30 222 2 h4 := ((hr.frT S1.1 ro1 F2 w2).frT S2.1 ro2 F3 rfl).frT S3.1 ro3 F4 w4
theorem qSm.fr3Y (hr : qSm 25 237 3 h1) (S1 : Stc h1) (ro1 : Ro ρ1) (H1 : tHeap wT N1 ρ1 h1) (F2 : gFr W2 ρ1 h1 h2) (w2 : wSm 12 64 W2 = true) (S2 : Stc h2) (ro2 : Ro ρ2) (H2 : tHeap wT N2 ρ2 h2) (F3 : gFr [] ρ2 h2 h3) (S3 : Stc h3) (ro3 : Ro ρ3) (H3 : tHeap wT N3 ρ3 h3) (F4 : gFr W4 ρ3 h3 h4) (w4 : wSm 12 64 W4 = true) : qSm 25 237 3 h4 := ((hr.frY S1.1 ro1 F2 w2).frY S2.1 ro2 F3 rfl).frY S3.1 ro3 F4 w4
end fr3a
/-- what is asked changes nothing of it -/
theorem qAll.fr2 {W : List (Nat × Nat)} {N1 N2 : Int} {ρ1 ρ2 : List Nat} {h1 h2 h3 : List zC} (hr : qAll h1) (S1 : Stc h1) (ro1 : Ro ρ1) (H1 : tHeap wT N1 ρ1 h1) (F2 : gFr W ρ1 h1 h2) (w2 : wAw W = true) (S2 : Stc h2) (ro2 : Ro ρ2) (H2 : tHeap wT N2 ρ2 h2) (F3 : gFr [] ρ2 h2 h3) : qAll h3 := (hr.fr S1 ro1 H1 F2 w2).fr S2 ro2 H2 F3 (by decide)

