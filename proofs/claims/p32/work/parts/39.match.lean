/-! ===== templates: a state is one of a template's ===== -/
def mAnch (S St : sS) (m : List Nat) (s : Nat) : Nat := match St.2.1.find? (fun e => e.2 == s) with
  | some e => (sLook S.2.1 e.1).getD 0
  | none => match St.2.2.1.findIdx? (fun t => t == s) with
    | some i => S.2.2.1.getD i 0
    | none => match St.2.2.2.1.find? (fun f => (f.1 == 2 && f.2.2.2.1 == s) || (f.1 == 3 && f.2.2.1 == s)) with
      | some f => if f.1 = 2 then (sFld S.2.2.2.1 (m.getD f.2.1 0) f.2.2.1).getD 0 else (sLen S.2.2.2.1 (m.getD f.2.1 0)).getD 0
      | none => 0
/-- the template's symbols told in the state's; the first n0 are the same -/
def mBuild (n0 : Nat) (S St : sS) : List Nat := (List.range (St.1.length - n0)).foldl (fun m i => m ++ [mAnch S St m (n0 + i)]) (List.range n0)
def mTys (E : List tT) : List Nat → List tT → Bool
  | [], [] => true
  | s :: m, t :: Et => decide (s < E.length) && (tSub (sGet E s) t && mTys E m Et)
  | _, _ => false
def mSym (m : List Nat) (s t : Nat) : Bool := match m[s]? with
  | some x => x == t
  | none => false
def fHas (S : sS) (m : List Nat) (f : sF) : Bool :=
  if f.1 = 0 then (match m[f.2.1]?, m[f.2.2.1]? with | some x, some y => (sGet S.1 x).1 == 0 && ((sGet S.1 y).1 == 0 && dOk S.1 S.2.2.2.1 5 x y f.2.2.2.2) | _, _ => false)
  else if f.1 = 1 then (match m[f.2.1]?, m[f.2.2.1]? with | some x, some y => (sGet S.1 x).1 == 0 && ((sGet S.1 y).1 == 0 && d1Ok S.1 S.2.2.2.1 x y f.2.2.2.2) | _, _ => false)
  else if f.1 = 5 then S.2.2.2.1.any (fun g => g.1 == 5 && (mSym m f.2.1 g.2.1 && (mSym m f.2.2.1 g.2.2.1 && (mSym m f.2.2.2.1 g.2.2.2.1 && decide (f.2.2.2.2 = g.2.2.2.2)))))
  else if f.1 = 6 then S.2.2.2.1.any (fun g => g.1 == 6 && (mSym m f.2.1 g.2.1 && decide (f.2.2.2.2 ≤ g.2.2.2.2))) || (decide (f.2.2.2.2 ≤ 0) && (match m[f.2.1]? with | some x => (sGet S.1 x).1 == 0 | none => false))
  else if f.1 = 2 then S.2.2.2.1.any (fun g => g.1 == 2 && (mSym m f.2.1 g.2.1 && (f.2.2.1 == g.2.2.1 && mSym m f.2.2.2.1 g.2.2.2.1)))
  else if f.1 = 3 then S.2.2.2.1.any (fun g => g.1 == 3 && (mSym m f.2.1 g.2.1 && mSym m f.2.2.1 g.2.2.1))
  else if f.1 = 4 then S.2.2.2.1.any (fun g => g.1 == 4 && (mSym m f.2.1 g.2.1 && (mSym m f.2.2.1 g.2.2.1 && mSym m f.2.2.2.1 g.2.2.2.1)))
  else if f.1 = 7 then S.2.2.2.1.any (fun g => g.1 == 7 && mSym m f.2.1 g.2.1)
  else if f.1 = 8 then false
  else if f.1 = 9 then S.2.2.2.1.any (fun g => g.1 == 9 && mSym m f.2.1 g.2.1)
  else if f.1 = 10 then S.2.2.2.1.any (fun g => g.1 == 10 && (mSym m f.2.1 g.2.1 && mSym m f.2.2.1 g.2.2.1))
  else if f.1 = 11 then S.2.2.2.1.any (fun g => g.1 == 11 && (mSym m f.2.1 g.2.1 && decide (f.2.2.2.2 = g.2.2.2.2)))
  else if f.1 = 12 then S.2.2.2.1.any (fun g => g.1 == 12 && (mSym m f.2.1 g.2.1 && (mSym m f.2.2.1 g.2.2.1 && mSym m f.2.2.2.1 g.2.2.2.1)))
  else if f.1 = 13 then S.2.2.2.1.any (fun g => g.1 == 13 && mSym m f.2.1 g.2.1)
  else if f.1 = 14 then (match m[f.2.1]?, m[f.2.2.1]?, m[f.2.2.2.1]? with
    | some a, some i, some n => (sGet S.1 i).1 == 0 && ((sGet S.1 n).1 == 0 && ((decide (sGet S.1 i = (0, 0, 0)) && (decide (sGet S.1 n = (0, 0, 0)) && S.2.2.2.1.any (fun g => g.1 == 15 && g.2.1 == a))) || S.2.2.2.1.any (fun g => g.1 == 14 && (g.2.1 == a && ((g.2.2.1 == i && g.2.2.2.1 == n) ||
        ((sGet S.1 g.2.2.1).1 == 0 && ((sGet S.1 g.2.2.2.1).1 == 0 && (dOk S.1 S.2.2.2.1 3 i g.2.2.1 1 && (dOk S.1 S.2.2.2.1 3 g.2.2.1 i (-1) && S.2.2.2.1.any (fun e => e.1 == 4 && (e.2.1 == a && (e.2.2.1 == g.2.2.1 && ((sGet S.1 e.2.2.2.1).1 == 0 &&
          ((decide (1 ≤ (sGet S.1 e.2.2.2.1).2.1) && (dOk S.1 S.2.2.2.1 3 n g.2.2.2.1 1 && dOk S.1 S.2.2.2.1 3 g.2.2.2.1 n (-1))) || (decide (sGet S.1 e.2.2.2.1 = (0, 0, 0)) && (dOk S.1 S.2.2.2.1 3 n g.2.2.2.1 0 && dOk S.1 S.2.2.2.1 3 g.2.2.2.1 n 0))))))))))))))))
    | _, _, _ => false)
  else if f.1 = 15 then S.2.2.2.1.any (fun g => g.1 == 15 && (mSym m f.2.1 g.2.1 && decide (g.2.2.2.2 ≤ f.2.2.2.2)))
  else if f.1 = 16 then S.2.2.2.1.any (fun g => (g.1 == 16 && (mSym m f.2.1 g.2.1 && (mSym m f.2.2.1 g.2.2.1 && decide (f.2.2.2.2 = g.2.2.2.2)))) || (g.1 == 14 && (mSym m f.2.1 g.2.1 && (mSym m f.2.2.1 g.2.2.2.1 && (decide (0 ≤ f.2.2.2.2) && decide (sGet S.1 g.2.2.1 = (0, f.2.2.2.2, f.2.2.2.2)))))))
  else if f.1 = 17 then S.2.2.2.1.any (fun g => g.1 == 17 && (mSym m f.2.1 g.2.1 && mSym m f.2.2.1 g.2.2.1))
  else if f.1 = 18 then S.2.2.2.1.any (fun g => g.1 == 18 && (mSym m f.2.1 g.2.1 && (mSym m f.2.2.1 g.2.2.1 && decide (f.2.2.2.2 = g.2.2.2.2))))
  else if f.1 = 19 then S.2.2.2.1.any (fun g => g.1 == 19 && ((mSym m f.2.1 g.2.1 && mSym m f.2.2.1 g.2.2.1) || (mSym m f.2.1 g.2.2.1 && mSym m f.2.2.1 g.2.1)))
  else true
/-- c is at most ct and the template's terms -/
def cOkT (S : sS) (m : List Nat) (sel : Int × Int × Nat → Int) : Int → Int → List (Int × Int × Nat) → Bool
  | c, ct, [] => decide (c ≤ ct)
  | c, ct, t :: ts => decide (0 ≤ sel t) && (match m[t.2.2]? with | some x => (sGet S.1 x).1 == 0 && cOkT S m sel (c - sel t * (sGet S.1 x).2.1) ct ts | none => false)
/-- c and the state's terms are at most ct and the template's terms -/
def cOk (S : sS) (m : List Nat) (sel : Int × Int × Nat → Int) : Int → List (Int × Int × Nat) → Int → List (Int × Int × Nat) → Bool
  | c, [], ct, ts => cOkT S m sel c ct ts
  | c, s :: ss, ct, [] => decide (0 ≤ sel s) && ((sGet S.1 s.2.2).1 == 0 && cOk S m sel (c + sel s * (sGet S.1 s.2.2).2.2) ss ct [])
  | c, s :: ss, ct, t :: ts => decide (0 ≤ sel s) && ((decide (sel s = sel t) && (match m[t.2.2]? with
      | some x => (sGet S.1 x).1 == 0 && (if dOk S.1 S.2.2.2.1 3 s.2.2 x (-1) = true then cOk S m sel (c - sel s) ss ct ts else dOk S.1 S.2.2.2.1 3 s.2.2 x 0 && cOk S m sel c ss ct ts)
      | none => false)) || ((sGet S.1 s.2.2).1 == 0 && cOk S m sel (c + sel s * (sGet S.1 s.2.2).2.2) ss ct (t :: ts)))
def mOk (m : List Nat) (S St : sS) : Bool := mTys S.1 m St.1 && (St.2.1.all (fun e => match sLook S.2.1 e.1 with | some x => mSym m e.2 x | none => false) && (decide (St.2.2.1.map (fun s => m[s]?) = S.2.2.1.map some) && (St.2.2.2.1.all (fHas S m) && (cOk S m (fun t => t.1) S.2.2.2.2.1 S.2.2.2.2.2.2 St.2.2.2.2.1 St.2.2.2.2.2.2 && cOk S m (fun t => t.2.1) S.2.2.2.2.2.1 S.2.2.2.2.2.2 St.2.2.2.2.2.1 St.2.2.2.2.2.2))))
def mv (ν : List Value) (m : List Nat) : List Value := m.map (fun s => ν.getD s .null)
section sMt
variable {hb ub : Nat} {ρ : List Nat} {ν : List Value} {S St : sS} {lv : List (Nat × Value)} {st : List Value} {h : List zC} {u : Nat} {m : List Nat}
theorem mTys_ok {E : List tT} (hE : gEn ρ ν E) : ∀ {m : List Nat} {Et : List tT}, mTys E m Et = true → gEn ρ (mv ν m) Et ∧ ∀ s x : Nat, m[s]? = some x → ∃ v : Value, ν[x]? = some v ∧ (mv ν m)[s]? = some v
  | [], [], _ => ⟨⟨rfl, fun s v q => by simp [mv] at q⟩, fun s x q => by simp at q⟩
  | x :: m, t :: Et, hm => by
    unfold mTys at hm
    obtain ⟨h1, h2⟩ := Bool.and_eq_true_iff.mp hm
    obtain ⟨h2, h3⟩ := Bool.and_eq_true_iff.mp h2
    have h1 := of_decide_eq_true h1
    obtain ⟨⟨e1, e2⟩, e3⟩ := mTys_ok hE h3
    have hx : ν[x]? = some (ν.getD x .null) := by
      rw [List.getD_eq_getElem?_getD, List.getElem?_eq_getElem (by rw [← hE.1]; exact h1)]
      rfl
    refine ⟨⟨by simp [mv] at e1 ⊢; exact e1, fun s v q => ?_⟩, fun s y q => ?_⟩
    · cases s with
      | zero =>
        cases q
        exact tSub_ok h2 (hE.2 _ _ hx)
      | succ s => exact e2 s v q
    · cases s with
      | zero =>
        cases q
        exact ⟨_, hx, rfl⟩
      | succ s => exact e3 s y q
  | [], _ :: _, hm => by cases hm
  | _ :: _, [], hm => by cases hm
theorem mSym_ok {s t : Nat} (hm : mSym m s t = true) : m[s]? = some t := by
  unfold mSym at hm
  split at hm
  · rename_i x e
    have : x = t := by simpa using hm
    rw [e, this]
  · cases hm
/-- what is known of the state, told of the template's symbols -/
theorem fHas_ok (hA : gA hb ub ρ ν S lv st h u) (H : ∀ s x : Nat, m[s]? = some x → ∃ v : Value, ν[x]? = some v ∧ (mv ν m)[s]? = some v) {f : sF} (hf : fHas S m f = true) : fHold hb (mv ν m) h f := by
  have back : ∀ {s x : Nat} {v : Value}, m[s]? = some x → ν[x]? = some v → (mv ν m)[s]? = some v := fun e1 e2 => by
    obtain ⟨w, w1, w2⟩ := H _ _ e1
    rw [e2] at w1
    cases w1
    exact w2
  unfold fHas at hf
  by_cases e0 : f.1 = 0
  · rw [if_pos e0] at hf
    split at hf
    · rename_i x y ex ey
      obtain ⟨h1, h2⟩ := Bool.and_eq_true_iff.mp hf
      obtain ⟨h2, h3⟩ := Bool.and_eq_true_iff.mp h2
      obtain ⟨v, v1, v2⟩ := H _ _ ex
      obtain ⟨w, w1, w2⟩ := H _ _ ey
      obtain ⟨p, rfl, -⟩ := hA.int v1 (by simpa using h1)
      obtain ⟨q, rfl, -⟩ := hA.int w1 (by simpa using h2)
      unfold fHold
      rw [e0]
      exact ⟨p, q, v2, w2, dOk_ok hA.1 hA.2.2.2.1 h3 v1 w1⟩
    · cases hf
  rw [if_neg e0] at hf
  have n0 := e0
  clear e0
  by_cases e0 : f.1 = 1
  · rw [if_pos e0] at hf
    split at hf
    · rename_i x y ex ey
      obtain ⟨h1, h2⟩ := Bool.and_eq_true_iff.mp hf
      obtain ⟨h2, h3⟩ := Bool.and_eq_true_iff.mp h2
      obtain ⟨v, v1, v2⟩ := H _ _ ex
      obtain ⟨w, w1, w2⟩ := H _ _ ey
      obtain ⟨p, rfl, -⟩ := hA.int v1 (by simpa using h1)
      obtain ⟨q, rfl, -⟩ := hA.int w1 (by simpa using h2)
      unfold fHold
      rw [e0]
      exact ⟨p, q, v2, w2, d1Ok_ok hA.1 hA.2.2.2.1 h3 v1 w1⟩
    · cases hf
  rw [if_neg e0] at hf
  have n1 := e0
  clear e0
  by_cases e0 : f.1 = 5
  · rw [if_pos e0] at hf
    obtain ⟨g, hg, hf⟩ := List.any_eq_true.mp hf
    obtain ⟨h1, hf⟩ := Bool.and_eq_true_iff.mp hf
    obtain ⟨h2, hf⟩ := Bool.and_eq_true_iff.mp hf
    obtain ⟨h3, hf⟩ := Bool.and_eq_true_iff.mp hf
    obtain ⟨h4, h5⟩ := Bool.and_eq_true_iff.mp hf
    have G := hA.2.2.2.1 g hg
    unfold fHold at G ⊢
    rw [show g.1 = 5 by simpa using h1] at G
    rw [e0]
    obtain ⟨x, y, e1, e2, e3⟩ := G
    exact ⟨x, y, back (mSym_ok h3) e1, back (mSym_ok h4) e2, by rw [of_decide_eq_true h5]; exact back (mSym_ok h2) e3⟩
  rw [if_neg e0] at hf
  have n5 := e0
  clear e0
  by_cases e0 : f.1 = 6
  · rw [if_pos e0] at hf
    rcases Bool.or_eq_true_iff.mp hf with hf | hf
    · obtain ⟨g, hg, hf⟩ := List.any_eq_true.mp hf
      obtain ⟨h1, hf⟩ := Bool.and_eq_true_iff.mp hf
      obtain ⟨h2, h3⟩ := Bool.and_eq_true_iff.mp hf
      have h3 := of_decide_eq_true h3
      have G := hA.2.2.2.1 g hg
      unfold fHold at G ⊢
      rw [show g.1 = 6 by simpa using h1] at G
      rw [e0]
      obtain ⟨x, e1, e2⟩ := G
      exact ⟨x, back (mSym_ok h2) e1, by omega⟩
    · obtain ⟨h1, h2⟩ := Bool.and_eq_true_iff.mp hf
      have h1 := of_decide_eq_true h1
      split at h2
      · rename_i x ex
        obtain ⟨v, v1, v2⟩ := H _ _ ex
        obtain ⟨p, rfl, -⟩ := hA.int v1 (by simpa using h2)
        unfold fHold
        rw [e0]
        exact ⟨p, v2, by omega⟩
      · cases h2
  rw [if_neg e0] at hf
  have n6 := e0
  clear e0
  by_cases e0 : f.1 = 2
  · rw [if_pos e0] at hf
    obtain ⟨g, hg, hf⟩ := List.any_eq_true.mp hf
    obtain ⟨h1, hf⟩ := Bool.and_eq_true_iff.mp hf
    obtain ⟨h2, hf⟩ := Bool.and_eq_true_iff.mp hf
    obtain ⟨h3, h4⟩ := Bool.and_eq_true_iff.mp hf
    have h3 : f.2.2.1 = g.2.2.1 := by simpa using h3
    have G := hA.2.2.2.1 g hg
    unfold fHold at G ⊢
    rw [show g.1 = 2 by simpa using h1] at G
    rw [e0]
    obtain ⟨a, c, v, e1, e2, e3, e4⟩ := G
    exact ⟨a, c, v, back (mSym_ok h2) e1, e2, by rw [h3]; exact e3, back (mSym_ok h4) e4⟩
  rw [if_neg e0] at hf
  have n2 := e0
  clear e0
  by_cases e0 : f.1 = 3
  · rw [if_pos e0] at hf
    obtain ⟨g, hg, hf⟩ := List.any_eq_true.mp hf
    obtain ⟨h1, hf⟩ := Bool.and_eq_true_iff.mp hf
    obtain ⟨h2, h3⟩ := Bool.and_eq_true_iff.mp hf
    have G := hA.2.2.2.1 g hg
    unfold fHold at G ⊢
    rw [show g.1 = 3 by simpa using h1] at G
    rw [e0]
    obtain ⟨a, c, x, e1, e2, e3, e4⟩ := G
    exact ⟨a, c, x, back (mSym_ok h2) e1, e2, back (mSym_ok h3) e3, e4⟩
  rw [if_neg e0] at hf
  have n3 := e0
  clear e0
  by_cases e0 : f.1 = 4
  · rw [if_pos e0] at hf
    obtain ⟨g, hg, hf⟩ := List.any_eq_true.mp hf
    obtain ⟨h1, hf⟩ := Bool.and_eq_true_iff.mp hf
    obtain ⟨h2, hf⟩ := Bool.and_eq_true_iff.mp hf
    obtain ⟨h3, h4⟩ := Bool.and_eq_true_iff.mp hf
    have G := hA.2.2.2.1 g hg
    unfold fHold at G ⊢
    rw [show g.1 = 4 by simpa using h1] at G
    rw [e0]
    obtain ⟨a, c, x, v, e1, e2, e3, e4, e5, e6⟩ := G
    exact ⟨a, c, x, v, back (mSym_ok h2) e1, e2, back (mSym_ok h3) e3, e4, e5, back (mSym_ok h4) e6⟩
  rw [if_neg e0] at hf
  have n4 := e0
  clear e0
  by_cases e0 : f.1 = 7
  · rw [if_pos e0] at hf
    obtain ⟨g, hg, hf⟩ := List.any_eq_true.mp hf
    obtain ⟨h1, h2⟩ := Bool.and_eq_true_iff.mp hf
    have G := hA.2.2.2.1 g hg
    unfold fHold at G ⊢
    rw [show g.1 = 7 by simpa using h1] at G
    rw [e0]
    obtain ⟨a, e1, e2⟩ := G
    exact ⟨a, back (mSym_ok h2) e1, e2⟩
  rw [if_neg e0] at hf
  have n7 := e0
  clear e0
  by_cases e0 : f.1 = 8
  · rw [if_pos e0] at hf
    cases hf
  rw [if_neg e0] at hf
  have n8 := e0
  clear e0
  by_cases e0 : f.1 = 9
  · rw [if_pos e0] at hf
    obtain ⟨g, hg, hf⟩ := List.any_eq_true.mp hf
    obtain ⟨h1, h2⟩ := Bool.and_eq_true_iff.mp hf
    have G := hA.2.2.2.1 g hg
    unfold fHold at G ⊢
    rw [show g.1 = 9 by simpa using h1] at G
    rw [e0]
    obtain ⟨x, e1, e2⟩ := G
    exact ⟨x, back (mSym_ok h2) e1, e2⟩
  rw [if_neg e0] at hf
  have n9 := e0
  clear e0
  by_cases e0 : f.1 = 10
  · rw [if_pos e0] at hf
    obtain ⟨g, hg, hf⟩ := List.any_eq_true.mp hf
    obtain ⟨h1, hf⟩ := Bool.and_eq_true_iff.mp hf
    obtain ⟨h2, h3⟩ := Bool.and_eq_true_iff.mp hf
    have G := hA.2.2.2.1 g hg
    unfold fHold at G ⊢
    rw [show g.1 = 10 by simpa using h1] at G
    rw [e0]
    obtain ⟨x, e1, e2⟩ := G
    exact ⟨x, back (mSym_ok h3) e1, back (mSym_ok h2) e2⟩
  rw [if_neg e0] at hf
  have n10 := e0
  clear e0
  by_cases e0 : f.1 = 11
  · rw [if_pos e0] at hf
    obtain ⟨g, hg, hf⟩ := List.any_eq_true.mp hf
    obtain ⟨h1, hf⟩ := Bool.and_eq_true_iff.mp hf
    obtain ⟨h2, h3⟩ := Bool.and_eq_true_iff.mp hf
    have G := hA.2.2.2.1 g hg
    unfold fHold at G ⊢
    rw [show g.1 = 11 by simpa using h1] at G
    rw [e0]
    rw [of_decide_eq_true h3]
    exact back (mSym_ok h2) G
  rw [if_neg e0] at hf
  have n11 := e0
  clear e0
  by_cases e0 : f.1 = 12
  · rw [if_pos e0] at hf
    obtain ⟨g, hg, hf⟩ := List.any_eq_true.mp hf
    obtain ⟨h1, hf⟩ := Bool.and_eq_true_iff.mp hf
    obtain ⟨h2, hf⟩ := Bool.and_eq_true_iff.mp hf
    obtain ⟨h3, h4⟩ := Bool.and_eq_true_iff.mp hf
    have G := hA.2.2.2.1 g hg
    unfold fHold at G ⊢
    rw [show g.1 = 12 by simpa using h1] at G
    rw [e0]
    obtain ⟨t, x, y, e1, e2, e3, e4⟩ := G
    exact ⟨t, x, y, back (mSym_ok h2) e1, back (mSym_ok h3) e2, back (mSym_ok h4) e3, e4⟩
  rw [if_neg e0] at hf
  have n12 := e0
  clear e0
  by_cases e0 : f.1 = 13
  · rw [if_pos e0] at hf
    obtain ⟨g, hg, hf⟩ := List.any_eq_true.mp hf
    obtain ⟨h1, h2⟩ := Bool.and_eq_true_iff.mp hf
    have G := hA.2.2.2.1 g hg
    unfold fHold at G ⊢
    rw [show g.1 = 13 by simpa using h1] at G
    rw [e0]
    obtain ⟨x, e1, e2⟩ := G
    exact ⟨x, back (mSym_ok h2) e1, e2⟩
  rw [if_neg e0] at hf
  have n13 := e0
  clear e0
  by_cases e0 : f.1 = 14
  · rw [if_pos e0] at hf
    split at hf
    · rename_i a i n ea ei en
      obtain ⟨h1, hf⟩ := Bool.and_eq_true_iff.mp hf
      obtain ⟨h2, hf⟩ := Bool.and_eq_true_iff.mp hf
      obtain ⟨vi, i1, i2⟩ := H _ _ ei
      obtain ⟨vn, j1, j2⟩ := H _ _ en
      obtain ⟨xi, rfl, p1, p2⟩ := hA.int i1 (by simpa using h1)
      obtain ⟨xn, rfl, r1, r2⟩ := hA.int j1 (by simpa using h2)
      unfold fHold
      rw [e0]
      rcases Bool.or_eq_true_iff.mp hf with hf | hf
      · obtain ⟨h3, hf⟩ := Bool.and_eq_true_iff.mp hf
        obtain ⟨h4, h5⟩ := Bool.and_eq_true_iff.mp hf
        have h3 := of_decide_eq_true h3
        have h4 := of_decide_eq_true h4
        rw [h3] at p1 p2
        rw [h4] at r1 r2
        obtain ⟨g, hg, h5⟩ := List.any_eq_true.mp h5
        obtain ⟨g1, g2⟩ := Bool.and_eq_true_iff.mp h5
        have G := hA.2.2.2.1 g hg
        unfold fHold at G
        rw [show g.1 = 15 by simpa using g1] at G
        obtain ⟨b, d, k1, k2, -⟩ := G
        rw [show g.2.1 = a by simpa using g2] at k1
        have z1 : xi.toInt = 0 := by dsimp only at p1 p2; omega
        have z2 : xn.toInt = 0 := by dsimp only at r1 r2; omega
        exact ⟨b, d, xi, xn, back ea k1, k2, i2, j2, by omega, by rw [z1, z2]; rfl⟩
      · obtain ⟨g, hg, hf⟩ := List.any_eq_true.mp hf
        obtain ⟨g1, hf⟩ := Bool.and_eq_true_iff.mp hf
        obtain ⟨g2, hf⟩ := Bool.and_eq_true_iff.mp hf
        have g2 : g.2.1 = a := by simpa using g2
        have G := hA.2.2.2.1 g hg
        unfold fHold at G
        rw [show g.1 = 14 by simpa using g1] at G
        obtain ⟨b, d, x, y, k1, k2, k3, k4, k5, k6⟩ := G
        rw [g2] at k1
        rcases Bool.or_eq_true_iff.mp hf with hf | hf
        · obtain ⟨h3, h4⟩ := Bool.and_eq_true_iff.mp hf
          rw [show g.2.2.1 = i by simpa using h3] at k3
          rw [show g.2.2.2.1 = n by simpa using h4] at k4
          exact ⟨b, d, x, y, back ea k1, k2, back ei k3, back en k4, k5, k6⟩
        · obtain ⟨h3, hf⟩ := Bool.and_eq_true_iff.mp hf
          obtain ⟨h4, hf⟩ := Bool.and_eq_true_iff.mp hf
          obtain ⟨h5, hf⟩ := Bool.and_eq_true_iff.mp hf
          obtain ⟨h6, hf⟩ := Bool.and_eq_true_iff.mp hf
          have d1 := dOk_ok hA.1 hA.2.2.2.1 h5 i1 k3
          have d2 := dOk_ok hA.1 hA.2.2.2.1 h6 k3 i1
          obtain ⟨e, he, hf⟩ := List.any_eq_true.mp hf
          obtain ⟨m1, hf⟩ := Bool.and_eq_true_iff.mp hf
          obtain ⟨m2, hf⟩ := Bool.and_eq_true_iff.mp hf
          obtain ⟨m3, hf⟩ := Bool.and_eq_true_iff.mp hf
          obtain ⟨m4, hf⟩ := Bool.and_eq_true_iff.mp hf
          have Em := hA.2.2.2.1 e he
          unfold fHold at Em
          rw [show e.1 = 4 by simpa using m1] at Em
          obtain ⟨b', d', x', v, t1, t2, t3, t4, t5, t6⟩ := Em
          rw [show e.2.1 = a by simpa using m2, k1] at t1
          cases t1
          rw [k2] at t2
          cases t2
          rw [show e.2.2.1 = g.2.2.1 by simpa using m3, k3] at t3
          cases t3
          obtain ⟨v2, w1, w2, w3⟩ := hA.int t6 (by simpa using m4)
          subst w1
          have s1 := zcnt_succ t5
          have e9 : xi.toInt.toNat = x.toInt.toNat + 1 := by omega
          refine ⟨b, d, xi, xn, back ea k1, k2, i2, j2, by omega, ?_⟩
          rw [e9, s1]
          rcases Bool.or_eq_true_iff.mp hf with hf | hf
          · obtain ⟨h7, hf⟩ := Bool.and_eq_true_iff.mp hf
            obtain ⟨h8, h9⟩ := Bool.and_eq_true_iff.mp hf
            have h7 := of_decide_eq_true h7
            have d3 := dOk_ok hA.1 hA.2.2.2.1 h8 j1 k4
            have d4 := dOk_ok hA.1 hA.2.2.2.1 h9 k4 j1
            have nz : zNz (.int v2) = true := by
              show (!(decide (v2 = 0))) = true
              have : v2 ≠ 0 := fun q => by
                have : v2.toInt = 0 := by rw [q]; rfl
                omega
              rw [decide_eq_false this]
              rfl
            rw [if_pos nz]
            omega
          · obtain ⟨h7, hf⟩ := Bool.and_eq_true_iff.mp hf
            obtain ⟨h8, h9⟩ := Bool.and_eq_true_iff.mp hf
            have h7 := of_decide_eq_true h7
            rw [h7] at w2 w3
            have d3 := dOk_ok hA.1 hA.2.2.2.1 h8 j1 k4
            have d4 := dOk_ok hA.1 hA.2.2.2.1 h9 k4 j1
            have e7 : v2 = 0 := Int32.toInt_inj.mp (by show v2.toInt = 0; dsimp only at w2 w3; omega)
            have nz : ¬ zNz (.int v2) = true := by rw [e7]; decide
            rw [if_neg nz]
            omega
    · cases hf
  rw [if_neg e0] at hf
  have n14 := e0
  clear e0
  by_cases e0 : f.1 = 15
  · rw [if_pos e0] at hf
    obtain ⟨g, hg, hf⟩ := List.any_eq_true.mp hf
    obtain ⟨h1, hf⟩ := Bool.and_eq_true_iff.mp hf
    obtain ⟨h2, h3⟩ := Bool.and_eq_true_iff.mp hf
    have h3 := of_decide_eq_true h3
    have G := hA.2.2.2.1 g hg
    unfold fHold at G ⊢
    rw [show g.1 = 15 by simpa using h1] at G
    rw [e0]
    obtain ⟨a, c, e1, e2, e3⟩ := G
    exact ⟨a, c, back (mSym_ok h2) e1, e2, by omega⟩
  rw [if_neg e0] at hf
  have n15 := e0
  clear e0
  by_cases e0 : f.1 = 16
  · rw [if_pos e0] at hf
    obtain ⟨g, hg, hf⟩ := List.any_eq_true.mp hf
    have G := hA.2.2.2.1 g hg
    rcases Bool.or_eq_true_iff.mp hf with hf | hf
    · obtain ⟨h1, hf⟩ := Bool.and_eq_true_iff.mp hf
      obtain ⟨h2, hf⟩ := Bool.and_eq_true_iff.mp hf
      obtain ⟨h3, h4⟩ := Bool.and_eq_true_iff.mp hf
      unfold fHold at G ⊢
      rw [show g.1 = 16 by simpa using h1] at G
      rw [e0]
      obtain ⟨a, c, y, e1, e2, e3, e4, e5⟩ := G
      rw [← of_decide_eq_true h4] at e4 e5
      exact ⟨a, c, y, back (mSym_ok h2) e1, e2, back (mSym_ok h3) e3, e4, e5⟩
    · obtain ⟨h1, hf⟩ := Bool.and_eq_true_iff.mp hf
      obtain ⟨h2, hf⟩ := Bool.and_eq_true_iff.mp hf
      obtain ⟨h3, hf⟩ := Bool.and_eq_true_iff.mp hf
      obtain ⟨h4, h5⟩ := Bool.and_eq_true_iff.mp hf
      have h4 := of_decide_eq_true h4
      have h5 := of_decide_eq_true h5
      unfold fHold at G ⊢
      rw [show g.1 = 14 by simpa using h1] at G
      rw [e0]
      obtain ⟨a, c, x, y, e1, e2, e3, e4, e5, e6⟩ := G
      obtain ⟨x2, w1, w2, w3⟩ := hA.int e3 (by rw [h5])
      cases w1
      rw [h5] at w2 w3
      have e9 : x.toInt = f.2.2.2.2 := by dsimp only at w2 w3; omega
      rw [e9] at e6
      exact ⟨a, c, y, back (mSym_ok h2) e1, e2, back (mSym_ok h3) e4, h4, e6⟩
  rw [if_neg e0] at hf
  have n16 := e0
  clear e0
  by_cases e0 : f.1 = 17
  · rw [if_pos e0] at hf
    obtain ⟨g, hg, hf⟩ := List.any_eq_true.mp hf
    obtain ⟨h1, hf⟩ := Bool.and_eq_true_iff.mp hf
    obtain ⟨h2, h3⟩ := Bool.and_eq_true_iff.mp hf
    have G := hA.2.2.2.1 g hg
    unfold fHold at G ⊢
    rw [show g.1 = 17 by simpa using h1] at G
    rw [e0]
    obtain ⟨x, e1, e2⟩ := G
    exact ⟨x, back (mSym_ok h3) e1, back (mSym_ok h2) e2⟩
  rw [if_neg e0] at hf
  have n17 := e0
  clear e0
  by_cases e0 : f.1 = 18
  · rw [if_pos e0] at hf
    obtain ⟨g, hg, hf⟩ := List.any_eq_true.mp hf
    obtain ⟨h1, hf⟩ := Bool.and_eq_true_iff.mp hf
    obtain ⟨h2, hf⟩ := Bool.and_eq_true_iff.mp hf
    obtain ⟨h3, h4⟩ := Bool.and_eq_true_iff.mp hf
    have G := hA.2.2.2.1 g hg
    unfold fHold at G ⊢
    rw [show g.1 = 18 by simpa using h1] at G
    rw [e0]
    obtain ⟨p, q, c, d, e1, e2, e3, e4, e5⟩ := G
    exact ⟨p, q, c, d, back (mSym_ok h2) e1, e2, back (mSym_ok h3) e3, e4, by rw [of_decide_eq_true h4]; exact e5⟩
  rw [if_neg e0] at hf
  have n18 := e0
  clear e0
  by_cases e0 : f.1 = 19
  · rw [if_pos e0] at hf
    obtain ⟨g, hg, hf⟩ := List.any_eq_true.mp hf
    obtain ⟨h1, hf⟩ := Bool.and_eq_true_iff.mp hf
    have G := hA.2.2.2.1 g hg
    unfold fHold at G ⊢
    rw [show g.1 = 19 by simpa using h1] at G
    rw [e0]
    obtain ⟨p, q, e1, e2, e3⟩ := G
    rcases Bool.or_eq_true_iff.mp hf with hf | hf
    · obtain ⟨h2, h3⟩ := Bool.and_eq_true_iff.mp hf
      exact ⟨p, q, back (mSym_ok h2) e1, back (mSym_ok h3) e2, e3⟩
    · obtain ⟨h2, h3⟩ := Bool.and_eq_true_iff.mp hf
      exact ⟨q, p, back (mSym_ok h2) e2, back (mSym_ok h3) e1, e3.symm⟩
  rw [if_neg e0] at hf
  have n19 := e0
  clear e0
  unfold fHold
  split
  · rename_i e; exact absurd e n0
  · rename_i e; exact absurd e n1
  · rename_i e; exact absurd e n2
  · rename_i e; exact absurd e n3
  · rename_i e; exact absurd e n4
  · rename_i e; exact absurd e n5
  · rename_i e; exact absurd e n6
  · rename_i e; exact absurd e n7
  · rename_i e; exact absurd e n8
  · rename_i e; exact absurd e n9
  · rename_i e; exact absurd e n10
  · rename_i e; exact absurd e n11
  · rename_i e; exact absurd e n12
  · rename_i e; exact absurd e n13
  · rename_i e; exact absurd e n14
  · rename_i e; exact absurd e n15
  · rename_i e; exact absurd e n16
  · rename_i e; exact absurd e n17
  · rename_i e; exact absurd e n18
  · rename_i e; exact absurd e n19
  · trivial
theorem cOkT_ok {sel : Int × Int × Nat → Int} (hA : gA hb ub ρ ν S lv st h u) (H : ∀ s x : Nat, m[s]? = some x → ∃ v : Value, ν[x]? = some v ∧ (mv ν m)[s]? = some v) : ∀ (ts : List (Int × Int × Nat)) (n c ct : Int), n ≤ c → cOkT S m sel c ct ts = true → cLe (mv ν m) sel n ct ts
  | [], n, c, ct, hn, hc => by
    unfold cOkT at hc
    unfold cLe
    have := of_decide_eq_true hc
    omega
  | t :: ts, n, c, ct, hn, hc => by
    unfold cOkT at hc
    obtain ⟨h1, h2⟩ := Bool.and_eq_true_iff.mp hc
    have h1 := of_decide_eq_true h1
    split at h2
    · rename_i x ex
      obtain ⟨h2, h3⟩ := Bool.and_eq_true_iff.mp h2
      obtain ⟨v, v1, v2⟩ := H _ _ ex
      obtain ⟨p, rfl, p1, -⟩ := hA.int v1 (by simpa using h2)
      have := Int.mul_le_mul_of_nonneg_left p1 h1
      have ih := cOkT_ok hA H ts (n - sel t * p.toInt) _ ct (by omega) h3
      unfold cLe
      exact ⟨p, v2, ih.mono (nExt.refl _) (by omega)⟩
    · cases h2
theorem cOk_ok {sel : Int × Int × Nat → Int} (hA : gA hb ub ρ ν S lv st h u) (H : ∀ s x : Nat, m[s]? = some x → ∃ v : Value, ν[x]? = some v ∧ (mv ν m)[s]? = some v) {n : Int} : ∀ (ss ts : List (Int × Int × Nat)) (c d ct : Int), d ≤ c → cOk S m sel c ss ct ts = true → cLe ν sel n d ss → ∀ k : Int, k = ct → cLe (mv ν m) sel n k ts
  | [], ts, c, d, ct, hd, hc, hn, k, hk => by
    unfold cOk at hc
    unfold cLe at hn
    subst hk
    exact cOkT_ok hA H ts n c k (by omega) hc
  | s :: ss, [], c, d, ct, hd, hc, hn, k, hk => by
    unfold cOk at hc
    obtain ⟨h1, h2⟩ := Bool.and_eq_true_iff.mp hc
    have h1 := of_decide_eq_true h1
    obtain ⟨h2, h3⟩ := Bool.and_eq_true_iff.mp h2
    unfold cLe at hn
    obtain ⟨x, ex, hn⟩ := hn
    obtain ⟨p, e, -, p2⟩ := hA.int ex (by simpa using h2)
    cases e
    have := Int.mul_le_mul_of_nonneg_left p2 h1
    exact cOk_ok hA H ss [] _ _ ct (by omega) h3 hn k hk
  | s :: ss, t :: ts, c, d, ct, hd, hc, hn, k, hk => by
    unfold cOk at hc
    obtain ⟨h1, h2⟩ := Bool.and_eq_true_iff.mp hc
    have h1 := of_decide_eq_true h1
    rcases Bool.or_eq_true_iff.mp h2 with h2 | h2
    · obtain ⟨h2, h3⟩ := Bool.and_eq_true_iff.mp h2
      have hst := of_decide_eq_true h2
      split at h3
      · rename_i x ex
        obtain ⟨h4, h5⟩ := Bool.and_eq_true_iff.mp h3
        obtain ⟨v, v1, v2⟩ := H _ _ ex
        obtain ⟨p, rfl, -⟩ := hA.int v1 (by simpa using h4)
        unfold cLe at hn
        obtain ⟨q, eq, hn⟩ := hn
        subst hk
        split at h5
        · rename_i hd1
          have := dOk_ok hA.1 hA.2.2.2.1 hd1 eq v1
          have h6 : q.toInt ≤ p.toInt - 1 := by omega
          have h7 := Int.mul_le_mul_of_nonneg_left h6 h1
          rw [Int.mul_sub, Int.mul_one] at h7
          have ih := cOk_ok hA H ss ts _ (c - sel s) k (Int.le_refl _) h5 (n := n - sel s * p.toInt) (hn.mono (nExt.refl _) (by omega)) k rfl
          unfold cLe
          exact ⟨p, v2, ih.mono (nExt.refl _) (by rw [← hst]; omega)⟩
        · obtain ⟨hd1, h5⟩ := Bool.and_eq_true_iff.mp h5
          have h6 := dOk_ok hA.1 hA.2.2.2.1 hd1 eq v1
          rw [Int.add_zero] at h6
          have h7 := Int.mul_le_mul_of_nonneg_left h6 h1
          have ih := cOk_ok hA H ss ts _ c k (Int.le_refl _) h5 (n := n - sel s * p.toInt) (hn.mono (nExt.refl _) (by omega)) k rfl
          unfold cLe
          exact ⟨p, v2, ih.mono (nExt.refl _) (by rw [← hst]; omega)⟩
      · cases h3
    · obtain ⟨h2, h3⟩ := Bool.and_eq_true_iff.mp h2
      unfold cLe at hn
      obtain ⟨x, ex, hn⟩ := hn
      obtain ⟨p, e, -, p2⟩ := hA.int ex (by simpa using h2)
      cases e
      have := Int.mul_le_mul_of_nonneg_left p2 h1
      exact cOk_ok hA H ss (t :: ts) _ _ ct (by omega) h3 hn k hk
theorem mOk_ok (hA : gA hb ub ρ ν S lv st h u) (hm : mOk m S St = true) : gA hb ub ρ (mv ν m) St lv st h u ∧ ∀ s x : Nat, m[s]? = some x → ∃ v : Value, ν[x]? = some v ∧ (mv ν m)[s]? = some v := by
  unfold mOk at hm
  obtain ⟨h1, hm⟩ := Bool.and_eq_true_iff.mp hm
  obtain ⟨h2, hm⟩ := Bool.and_eq_true_iff.mp hm
  obtain ⟨h3, hm⟩ := Bool.and_eq_true_iff.mp hm
  obtain ⟨h4, hm⟩ := Bool.and_eq_true_iff.mp hm
  obtain ⟨h5, h6⟩ := Bool.and_eq_true_iff.mp hm
  obtain ⟨hE, H⟩ := mTys_ok hA.1 h1
  refine ⟨⟨hE, fun e he => ?_, ?_, fun f hf => fHas_ok hA H (List.all_eq_true.mp h4 f hf), ?_, ?_⟩, H⟩
  · have h2 := List.all_eq_true.mp h2 e he
    split at h2
    · rename_i x ex
      obtain ⟨v, v1, v2⟩ := hA.2.1 _ (sLook_mem ex)
      obtain ⟨w, w1, w2⟩ := H _ _ (mSym_ok h2)
      rw [show ν[x]? = some v from v2] at w1
      cases w1
      exact ⟨v, v1, w2⟩
    · cases h2
  · have h3 := of_decide_eq_true h3
    have hT := hA.2.2.1
    unfold gSt at hT ⊢
    have key : ∀ (A B : List Nat) (st : List Value), A.map (fun s => m[s]?) = B.map some → B.map (fun s => ν[s]?) = st.map some → A.map (fun s => (mv ν m)[s]?) = st.map some := by
      intro A
      induction A with
      | nil =>
        intro B st e1 e2
        cases B with
        | nil => exact e2
        | cons => cases e1
      | cons a A ih =>
        intro B st e1 e2
        cases B with
        | nil => cases e1
        | cons b B =>
          cases st with
          | nil => cases e2
          | cons v st =>
            simp only [List.map_cons, List.cons.injEq] at e1 e2 ⊢
            obtain ⟨w, w1, w2⟩ := H _ _ e1.1
            rw [e2.1] at w1
            cases w1
            exact ⟨w2, ih B st e1.2 e2.2⟩
    exact key _ _ _ h3 hT
  · exact cOk_ok hA H _ _ _ _ _ (Int.le_refl _) h5 hA.2.2.2.2.1 _ rfl
  · exact cOk_ok hA H _ _ _ _ _ (Int.le_refl _) h6 hA.2.2.2.2.2 _ rfl
end sMt
