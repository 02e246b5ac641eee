/-! ===== the value layer in the law's loop: pieces that write nothing, arms by hand ===== -/
/-- the end i of a contract -/
def cxi (c : cCon) (i : Nat) : sS := (c.2.2.2.2.2.2.getD i (0, ([], [], [], [], 0, 0, []))).2
/-- a piece of a method that writes nothing, from a state to others -/
theorem seg {ro tg : Nat → Nat → Nat} {Cs : List cCon} {n0 d dd j pc : Nat} {S : sS} {Hs : List mHead} {νb ν : List Value} {KK : zK} {N : Int} {ρ : List Nat} {lv : List (Nat × Value)} {st : List Value} {h : List zC} {u hb ub : Nat} (hW : wOk wT = true) (hCs : ∀ c ∈ Cs, cHolds zrx zi wT c) (f : Nat)
    (hc : chk zrx zi wT ro tg Cs [] 0 0 n0 f false Hs none d j pc S (fun _ _ => false) = true) (hdd : d ≤ dd) (hb2 : nExt νb ν) (hlen : νb.length ≤ n0) (hA : gA hb ub ρ ν S lv st h u) (hhb : h.length = hb) (hub : u = ub) (hH : tHeap wT N ρ h) (hr1 : (h.length : Int) ≤ zCM) (hr2 : (u : Int) ≤ zSN)
    (hx : ∀ x ∈ Hs, ∀ (N' : Int) (ρ' : List Nat) (ν' : List Value) (lv' : List (Nat × Value)) (st' : List Value) (h' : List zC) (u' : Nat), nExt νb ν' → gA hb ub ρ' ν' x.2.1 lv' st' h' u' → tHeap wT N' ρ' h' → gFr [] ρ h h' → gPre hb ρ ρ' → zE zrx zi dd j x.1 lv' st' h' u' KK) : zE zrx zi dd j pc lv st h u KK := by
  unfold wOk at hW
  obtain ⟨w1, w2⟩ := Bool.and_eq_true_iff.mp hW
  obtain ⟨w2, w3⟩ := Bool.and_eq_true_iff.mp w2
  have w2 : wLk wT 999 = false := by simpa using w2
  have w3 : wR wT 999 = none := by simpa using w3
  subst hhb
  subst hub
  refine chk_ok (ρ0 := ρ) (h0 := h) (N0 := N) w1 w3 w2 (by omega) (by omega) rfl hCs _ _ _ _ _ _ _ _ _ hc dd hdd νb ν KK N ρ lv st h u none hb2 (Or.inr hlen) hA hH (gFr.refl _ _ _) ⟨hH.1, fun _ _ e => e⟩ (Int.le_refl _) rfl ?_ (fun k S' z => by cases z)
  intro x hxm N2 ρ2 ν2 lv2 st2 h2 u2 w' m1 m2 m3 m4 m5 m6 m7 m8
  exact hx x hxm N2 ρ2 ν2 lv2 st2 h2 u2 m2 m3 m4 m5 m6
/-- some of the heads are gone on from by hand -/
theorem chk_thr {zr : zRow} {zi : Nat → zI} {W : tWd} {ro tg : Nat → Nat → Nat} {Cs : List cCon} {Wr : List (Nat × Nat)} {mc ms : Int} {n0 hb ub : Nat} {N0 : Int} {ρ0 : List Nat} {h0 : List zC} (hWk : wTop W (wA W) = true) (hJ : wR W 999 = none) (hJ2 : wLk W 999 = false) (hmc : (hb : Int) + mc ≤ zCM) (hms : (ub : Int) + ms ≤ zSN) (hh : h0.length = hb) (hCs : ∀ c ∈ Cs, cHolds zr zi W c)
    (f : Nat) (sk sk2 : Bool) (Hm Hs : List mHead) (d j pc : Nat) (S : sS) (K : Nat → sS → Bool) (h1 : chk zr zi W ro tg Cs Wr mc ms n0 f sk Hm none d j pc S K = true) (dd : Nat) (hdd : d ≤ dd) (νb ν : List Value) (KK : zK) (N : Int) (ρ : List Nat) (lv : List (Nat × Value)) (st : List Value) (h : List zC) (u : Nat) (hb2 : nExt νb ν) (hn0 : νb.length ≤ n0)
    (h2 : ∀ x ∈ Hm, (chk zr zi W ro tg Cs Wr mc ms n0 f sk2 Hs none d j x.1 x.2.1 K = true ∨ ∃ Hx : List mHead, chk zr zi W ro tg Cs Wr mc ms n0 f sk2 Hx none d j x.1 x.2.1 K = true ∧ ∀ y ∈ Hx, chk zr zi W ro tg Cs Wr mc ms n0 f sk2 Hs none d j y.1 y.2.1 K = true) ∨
      (∀ (N2 : Int) (ρ2 : List Nat) (ν2 : List Value) (lv2 : List (Nat × Value)) (st2 : List Value) (h2 : List zC) (u2 : Nat), nExt νb ν2 → gA hb ub ρ2 ν2 x.2.1 lv2 st2 h2 u2 → tHeap W N2 ρ2 h2 → gFr Wr ρ0 h0 h2 → gPre hb ρ0 ρ2 → zE zr zi dd j x.1 lv2 st2 h2 u2 KK)) :
    gA hb ub ρ ν S lv st h u → tHeap W N ρ h → gFr Wr ρ0 h0 h → gPre hb ρ0 ρ → N0 ≤ N → gHeads zr zi W Wr N0 hb ub ρ0 h0 νb dd j KK Hs none → gEnd W Wr N0 hb ub ρ0 h0 νb K KK → zE zr zi dd j pc lv st h u KK := by
  intro hA hH hF hP hN hHd hK
  refine chk_ok hWk hJ hJ2 hmc hms hh hCs f sk Hm none d j pc S K h1 dd hdd νb ν KK N ρ lv st h u none hb2 (Or.inr hn0) hA hH hF hP hN rfl ?_ hK
  intro y hy N2 ρ2 ν2 lv2 st2 h2' u2 w' m1 m2 m3 m4 m5 m6 m7 m8
  rcases h2 y hy with (q | ⟨Hx, q1, q2⟩) | q
  · exact chk_ok hWk hJ hJ2 hmc hms hh hCs f sk2 Hs none d j y.1 y.2.1 K q dd hdd νb ν2 KK N2 ρ2 lv2 st2 h2' u2 none m2 (Or.inr hn0) m3 m4 m5 m6 m1 rfl hHd hK
  · exact chk_two hWk hJ hJ2 hmc hms hh hCs f sk2 sk2 Hx Hs d j y.1 y.2.1 K q1 q2 dd hdd νb ν2 KK N2 ρ2 lv2 st2 h2' u2 m2 hn0 m3 m4 m5 m6 m1 hHd hK
  · exact q N2 ρ2 ν2 lv2 st2 h2' u2 m2 m3 m4 m5 m6
/-- another symbol on top, of the same value -/
def sTp (S : sS) (s : Nat) : sS := (S.1, S.2.1, s :: S.2.2.1.tail, S.2.2.2)
theorem gA.tp {hb ub : Nat} {ρ : List Nat} {ν : List Value} {S : sS} {lv : List (Nat × Value)} {v : Value} {st : List Value} {h : List zC} {u s : Nat} (hA : gA hb ub ρ ν S lv (v :: st) h u) (hv : ν[s]? = some v) : gA hb ub ρ ν (sTp S s) lv (v :: st) h u := by
  have hT := hA.2.2.1
  refine ⟨hA.1, hA.2.1, ?_, hA.2.2.2⟩
  show gSt ν (s :: S.2.2.1.tail) (v :: st)
  cases e : S.2.2.1 with
  | nil =>
    rw [e] at hT
    unfold gSt at hT
    simp at hT
  | cons x r =>
    rw [e] at hT
    obtain ⟨w, st', e2, h1, h2⟩ := hT.inv
    cases e2
    exact gSt.cons hv h2
