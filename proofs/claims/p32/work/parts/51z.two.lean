/-! ===== a check in two: up to the heads of the first part, and on from each of them ===== -/
theorem chk_two {zr : zRow} {zi : Nat → zI} {W : tWd} {ro tg : Nat → Nat → Nat} {Cs : List cCon} {Wr : List (Nat × Nat)} {mc ms : Int} {n0 hb ub : Nat} {N0 : Int} {ρ0 : List Nat} {h0 : List zC} (hWk : wTop W (wA W) = true) (hJ : wR W 999 = none) (hJ2 : wLk W 999 = false) (hmc : (hb : Int) + mc ≤ zCM) (hms : (ub : Int) + ms ≤ zSN) (hh : h0.length = hb) (hCs : ∀ c ∈ Cs, cHolds zr zi W c)
    (f : Nat) (sk sk2 : Bool) (Hm Hs : List mHead) (d j pc : Nat) (S : sS) (K : Nat → sS → Bool) (h1 : chk zr zi W ro tg Cs Wr mc ms n0 f sk Hm none d j pc S K = true) (h2 : ∀ x ∈ Hm, chk zr zi W ro tg Cs Wr mc ms n0 f sk2 Hs none d j x.1 x.2.1 K = true) :
    ∀ (dd : Nat), d ≤ dd → ∀ (νb ν : List Value) (KK : zK) (N : Int) (ρ : List Nat) (lv : List (Nat × Value)) (st : List Value) (h : List zC) (u : Nat), nExt νb ν → νb.length ≤ n0 →
    gA hb ub ρ ν S lv st h u → tHeap W N ρ h → gFr Wr ρ0 h0 h → gPre hb ρ0 ρ → N0 ≤ N → gHeads zr zi W Wr N0 hb ub ρ0 h0 νb dd j KK Hs none → gEnd W Wr N0 hb ub ρ0 h0 νb K KK → zE zr zi dd j pc lv st h u KK := by
  intro dd hdd νb ν KK N ρ lv st h u hb2 hn0 hA hH hF hP hN hHd hK
  refine chk_ok hWk hJ hJ2 hmc hms hh hCs f sk Hm none d j pc S K h1 dd hdd νb ν KK N ρ lv st h u none hb2 (Or.inr hn0) hA hH hF hP hN rfl ?_ hK
  intro y hy N2 ρ2 ν2 lv2 st2 h2' u2 w' m1 m2 m3 m4 m5 m6 m7 m8
  exact chk_ok hWk hJ hJ2 hmc hms hh hCs f sk2 Hs none d j y.1 y.2.1 K (h2 y hy) dd hdd νb ν2 KK N2 ρ2 lv2 st2 h2' u2 none m2 (Or.inr hn0) m3 m4 m5 m6 m1 rfl hHd hK
/-- some of the heads are gone on from in two pieces themselves -/
theorem chk_two2 {zr : zRow} {zi : Nat → zI} {W : tWd} {ro tg : Nat → Nat → Nat} {Cs : List cCon} {Wr : List (Nat × Nat)} {mc ms : Int} {n0 hb ub : Nat} {N0 : Int} {ρ0 : List Nat} {h0 : List zC} (hWk : wTop W (wA W) = true) (hJ : wR W 999 = none) (hJ2 : wLk W 999 = false) (hmc : (hb : Int) + mc ≤ zCM) (hms : (ub : Int) + ms ≤ zSN) (hh : h0.length = hb) (hCs : ∀ c ∈ Cs, cHolds zr zi W c)
    (f : Nat) (sk sk2 : Bool) (Hm Hs : List mHead) (d j pc : Nat) (S : sS) (K : Nat → sS → Bool) (h1 : chk zr zi W ro tg Cs Wr mc ms n0 f sk Hm none d j pc S K = true) (h2 : ∀ x ∈ Hm, chk zr zi W ro tg Cs Wr mc ms n0 f sk2 Hs none d j x.1 x.2.1 K = true ∨ ∃ Hx : List mHead, chk zr zi W ro tg Cs Wr mc ms n0 f sk2 Hx none d j x.1 x.2.1 K = true ∧ ∀ y ∈ Hx, chk zr zi W ro tg Cs Wr mc ms n0 f sk2 Hs none d j y.1 y.2.1 K = true) :
    ∀ (dd : Nat), d ≤ dd → ∀ (νb ν : List Value) (KK : zK) (N : Int) (ρ : List Nat) (lv : List (Nat × Value)) (st : List Value) (h : List zC) (u : Nat), nExt νb ν → νb.length ≤ n0 →
    gA hb ub ρ ν S lv st h u → tHeap W N ρ h → gFr Wr ρ0 h0 h → gPre hb ρ0 ρ → N0 ≤ N → gHeads zr zi W Wr N0 hb ub ρ0 h0 νb dd j KK Hs none → gEnd W Wr N0 hb ub ρ0 h0 νb K KK → zE zr zi dd j pc lv st h u KK := by
  intro dd hdd νb ν KK N ρ lv st h u hb2 hn0 hA hH hF hP hN hHd hK
  refine chk_ok hWk hJ hJ2 hmc hms hh hCs f sk Hm none d j pc S K h1 dd hdd νb ν KK N ρ lv st h u none hb2 (Or.inr hn0) hA hH hF hP hN rfl ?_ hK
  intro y hy N2 ρ2 ν2 lv2 st2 h2' u2 w' m1 m2 m3 m4 m5 m6 m7 m8
  rcases h2 y hy with q | ⟨Hx, q1, q2⟩
  · exact chk_ok hWk hJ hJ2 hmc hms hh hCs f sk2 Hs none d j y.1 y.2.1 K q dd hdd νb ν2 KK N2 ρ2 lv2 st2 h2' u2 none m2 (Or.inr hn0) m3 m4 m5 m6 m1 rfl hHd hK
  · exact chk_two hWk hJ hJ2 hmc hms hh hCs f sk2 sk2 Hx Hs d j y.1 y.2.1 K q1 q2 dd hdd νb ν2 KK N2 ρ2 lv2 st2 h2' u2 m2 hn0 m3 m4 m5 m6 m1 hHd hK
