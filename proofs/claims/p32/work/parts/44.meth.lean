/-! ===== a method's contract, checked ===== -/
def exMat (n0 : Nat) (S St : sS) : Bool := pIds n0 (mBuild n0 S St) && mOk (mBuild n0 S St) S St
def cEndB (n0 : Nat) (xs : List cEx) (k : Nat) (S : sS) : Bool := xs.any (fun x => x.1 == k && exMat n0 S x.2)
def cCheck (zr : zRow) (zi : Nat → zI) (W : tWd) (ro tg : Nat → Nat → Nat) (Cs : List cCon) (f n : Nat) (Hs : List mHead) (c : cCon) : Bool :=
  chk zr zi W ro tg Cs c.2.2.2.1 c.2.2.2.2.1 c.2.2.2.2.2.1 c.2.2.1.1.length f false Hs none c.2.1 c.1 0 c.2.2.1 (cEndB c.2.2.1.1.length c.2.2.2.2.2.2) &&
  Hs.all (fun x => x.2.2.length == n && chk zr zi W ro tg Cs c.2.2.2.1 c.2.2.2.2.1 c.2.2.2.2.2.1 c.2.2.1.1.length f true Hs (some x.2.2) c.2.1 c.1 x.1 x.2.1 (cEndB c.2.2.1.1.length c.2.2.2.2.2.2))
def wOk (W : tWd) : Bool := wTop W (wA W) && (!(wLk W 999) && (wR W 999).isNone)
theorem pIds_ok {n0 : Nat} {ν νb : List Value} {m : List Nat} (hp : pIds n0 m = true) (H : ∀ s x : Nat, m[s]? = some x → ∃ v : Value, ν[x]? = some v ∧ (mv ν m)[s]? = some v) (hb2 : nExt νb ν) (hn0 : νb.length ≤ n0) : nExt νb (mv ν m) := fun s v hs => by
  have hlt : s < n0 := by
    have := (List.getElem?_eq_some_iff.mp hs).1
    omega
  have hm := mSym_ok (List.all_eq_true.mp hp s (List.mem_range.mpr hlt))
  obtain ⟨v2, e1, e2⟩ := H _ _ hm
  rw [hb2 _ _ hs] at e1
  cases e1
  exact e2
theorem cCheck_ok {zr : zRow} {zi : Nat → zI} {W : tWd} {ro tg : Nat → Nat → Nat} {Cs : List cCon} {c : cCon} (f n : Nat) (Hs : List mHead) (hW : wOk W = true) (hCs : ∀ c ∈ Cs, cHolds zr zi W c) (hc : cCheck zr zi W ro tg Cs f n Hs c = true) : cHolds zr zi W c := by
  intro dd hdd N ρ ν lv h u K hA hH hmc hms hend
  unfold wOk at hW
  obtain ⟨w1, w2⟩ := Bool.and_eq_true_iff.mp hW
  obtain ⟨w2, w3⟩ := Bool.and_eq_true_iff.mp w2
  have w2 : wLk W 999 = false := by simpa using w2
  have w3 : wR W 999 = none := by simpa using w3
  unfold cCheck at hc
  obtain ⟨c1, c2⟩ := Bool.and_eq_true_iff.mp hc
  have c2 := List.all_eq_true.mp c2
  have hlen : ν.length ≤ c.2.2.1.1.length := by rw [hA.1.1]; exact Nat.le_refl _
  have hP : gPre h.length ρ ρ := ⟨hH.1, fun _ _ e => e⟩
  have hE : gEnd W c.2.2.2.1 N h.length u ρ h ν (cEndB c.2.2.1.1.length c.2.2.2.2.2.2) K := by
    intro k S' hk N' ρ' ν' st' h' u' o n1 n2 n3 n4 n5 n6 n7
    unfold cEndB at hk
    obtain ⟨x, hx, hk⟩ := List.any_eq_true.mp hk
    obtain ⟨k1, k2⟩ := Bool.and_eq_true_iff.mp hk
    have k1 : x.1 = k := by simpa using k1
    unfold exMat at k2
    obtain ⟨k2, k3⟩ := Bool.and_eq_true_iff.mp k2
    obtain ⟨g1, g2⟩ := mOk_ok n3 k3
    exact hend x hx N' ρ' _ st' h' u' o n1 (pIds_ok k2 g2 n2 hlen) n6 n4 n5 g1 (by rw [k1]; exact n7)
  have key : ∀ v : List Nat, v.length = n → ∀ x ∈ Hs, ∀ (N' : Int) (ρ' : List Nat) (ν' : List Value) (lv' : List (Nat × Value)) (st' : List Value) (h' : List zC) (u' : Nat), N ≤ N' → nExt ν ν' → gA h.length u ρ' ν' x.2.1 lv' st' h' u' → tHeap W N' ρ' h' → gFr c.2.2.2.1 ρ h h' → gPre h.length ρ ρ' → vEv ν' x.2.2 v → zE zr zi dd c.1 x.1 lv' st' h' u' K := by
    refine vInd (P := fun v => ∀ x ∈ Hs, ∀ (N' : Int) (ρ' : List Nat) (ν' : List Value) (lv' : List (Nat × Value)) (st' : List Value) (h' : List zC) (u' : Nat), N ≤ N' → nExt ν ν' → gA h.length u ρ' ν' x.2.1 lv' st' h' u' → tHeap W N' ρ' h' → gFr c.2.2.2.1 ρ h h' → gPre h.length ρ ρ' → vEv ν' x.2.2 v → zE zr zi dd c.1 x.1 lv' st' h' u' K) n (fun v hv hlow => ?_)
    intro x hx N' ρ' ν' lv' st' h' u' n1 n2 n3 n4 n5 n6 n7
    obtain ⟨-, c3⟩ := Bool.and_eq_true_iff.mp (c2 x hx)
    refine chk_ok (ρ0 := ρ) (h0 := h) (N0 := N) w1 w3 w2 (by omega) (by omega) rfl hCs _ _ _ _ _ _ _ _ _ c3 dd hdd ν ν' K N' ρ' lv' st' h' u' (some v) n2 (Or.inr hlen) n3 n4 n5 n6 n1 ⟨v, rfl, n7⟩ ?_ hE
    intro y hy N2 ρ2 ν2 lv2 st2 h2 u2 w' m1 m2 m3 m4 m5 m6 m7 m8
    obtain ⟨c4, -⟩ := Bool.and_eq_true_iff.mp (c2 y hy)
    have c4 : y.2.2.length = n := by simpa using c4
    exact hlow w' (by rw [vEv_len m7]; exact c4) (m8 v rfl) y hy N2 ρ2 ν2 lv2 st2 h2 u2 m1 m2 m3 m4 m5 m6 m7
  refine chk_ok (ρ0 := ρ) (h0 := h) (N0 := N) w1 w3 w2 (by omega) (by omega) rfl hCs _ _ _ _ _ _ _ _ _ c1 dd hdd ν ν K N ρ lv [] h u none (nExt.refl ν) (Or.inr hlen) hA hH (gFr.refl _ _ _) hP (Int.le_refl _) rfl ?_ hE
  intro y hy N2 ρ2 ν2 lv2 st2 h2 u2 w' m1 m2 m3 m4 m5 m6 m7 m8
  obtain ⟨c4, -⟩ := Bool.and_eq_true_iff.mp (c2 y hy)
  have c4 : y.2.2.length = n := by simpa using c4
  exact key w' (by rw [vEv_len m7]; exact c4) y hy N2 ρ2 ν2 lv2 st2 h2 u2 m1 m2 m3 m4 m5 m6 m7
theorem cNil {zr : zRow} {zi : Nat → zI} {W : tWd} : ∀ c ∈ ([] : List cCon), cHolds zr zi W c := fun _ h => by cases h
theorem cAnd {zr : zRow} {zi : Nat → zI} {W : tWd} {c : cCon} {Cs : List cCon} (h1 : cHolds zr zi W c) (h2 : ∀ c ∈ Cs, cHolds zr zi W c) : ∀ d ∈ c :: Cs, cHolds zr zi W d := fun d hd => by
  rcases List.mem_cons.mp hd with rfl | hd
  · exact h1
  · exact h2 d hd
