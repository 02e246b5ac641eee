/-! ===== the value layer: what stays, and a call of which the values are known too ===== -/
/-- the roles of the start's cells -/
def rho0 : List Nat := [0, 1, 2, 3, 4, 5, 6, 7, 3, 3, 3, 3, 3, 3, 3, 3, 8, 9, 10, 11, 11, 11, 11, 11, 11, 12, 13, 14, 16, 17, 19, 18, 18, 18, 18, 18, 18, 18, 18, 18, 18, 18, 18, 18, 18, 18, 18, 18, 18, 18, 18, 18, 18, 18, 18, 18, 18, 18, 18, 18, 18, 18, 18, 18, 18, 18, 18, 18, 18, 18, 18, 20, 21, 22, 23, 24, 37, 22, 23, 24, 37, 22, 23, 24, 37, 22, 23, 24, 37, 22, 23, 24, 37, 22, 23, 24, 37, 22, 23, 24, 37, 22, 23, 24, 37, 22, 23, 24, 37, 22, 23, 24, 37, 22, 23, 24, 37, 22, 23, 24, 37, 22, 23, 24, 37, 22, 23, 24, 37, 22, 23, 24, 37, 22, 23, 24, 37, 22, 23, 24, 37, 22, 23, 24, 37, 22, 23, 24, 37, 22, 23, 24, 37, 22, 23, 24, 37, 22, 23, 24, 37, 22, 23, 24, 37, 22, 23, 24, 37, 25, 26, 27, 28, 29, 27, 28, 29, 27, 28, 29, 27, 28, 29, 30, 31, 32, 15, 33, 34, 15, 15, 15, 15, 15, 15, 15, 15, 15, 15, 15, 15, 15, 15, 15, 15, 15, 15, 15, 15, 15, 15, 15, 15, 40, 41, 42, 43, 43, 43, 43, 43, 43, 44, 45, 48, 51, 58, 59, 59, 59, 60, 61, 61, 61, 61, 62, 63, 64, 36]
def Ro (ρ : List Nat) : Prop := ∀ p r : Nat, rho0[p]? = some r → ρ[p]? = some r
theorem Ro.pre {hb : Nat} {ρ ρ' : List Nat} (H : Ro ρ) (hp : gPre hb ρ ρ') : Ro ρ' := fun p r e => hp.2 p r (H p r e)
/-- the pointers that are never written: cell, place, where to -/
def stL : List (Nat × Nat × Nat) := [(16, 4, 17), (16, 5, 18), (16, 6, 25), (16, 7, 26), (16, 8, 27), (16, 9, 28), (16, 10, 71), (16, 11, 169), (16, 12, 183), (16, 13, 185), (18, 0, 19), (18, 1, 20), (18, 2, 21), (18, 3, 22), (18, 4, 23), (18, 5, 24), (27, 0, 189), (27, 1, 190), (27, 2, 191), (27, 3, 192), (27, 4, 193), (27, 5, 194), (27, 6, 195), (27, 7, 196), (27, 8, 197), (27, 9, 198), (27, 10, 199), (27, 11, 200), (27, 12, 201), (27, 13, 202), (27, 14, 203), (27, 15, 204), (27, 16, 205), (27, 17, 206), (27, 18, 207), (27, 19, 208), (27, 20, 209), (27, 21, 210), (27, 22, 211), (27, 23, 212), (28, 0, 29), (28, 1, 30), (29, 0, 31), (29, 1, 32), (29, 2, 33), (29, 3, 34), (29, 4, 35), (29, 5, 36), (29, 6, 37), (29, 7, 38), (29, 8, 39), (29, 9, 40), (29, 10, 41), (29, 11, 42), (29, 12, 43), (29, 13, 44), (29, 14, 45), (29, 15, 46), (29, 16, 47), (29, 17, 48), (29, 18, 49), (29, 19, 50), (29, 20, 51), (29, 21, 52), (29, 22, 53), (29, 23, 54), (29, 24, 55), (29, 25, 56), (29, 26, 57), (29, 27, 58), (29, 28, 59), (29, 29, 60), (29, 30, 61), (29, 31, 62), (29, 32, 63), (29, 33, 64), (29, 34, 65), (29, 35, 66), (29, 36, 67), (29, 37, 68), (29, 38, 69), (29, 39, 70), (71, 0, 72), (71, 1, 28), (72, 0, 73), (72, 1, 77), (72, 2, 81), (72, 3, 85), (72, 4, 89), (72, 5, 93), (72, 6, 97), (72, 7, 101), (72, 8, 105), (72, 9, 109), (72, 10, 113), (72, 11, 117), (72, 12, 121), (72, 13, 125), (72, 14, 129), (72, 15, 133), (72, 16, 137), (72, 17, 141), (72, 18, 145), (72, 19, 149), (72, 20, 153), (72, 21, 157), (72, 22, 161), (72, 23, 165), (169, 0, 170), (170, 0, 171), (170, 1, 174), (170, 2, 177), (170, 3, 180), (171, 0, 172), (171, 1, 173), (174, 0, 175), (174, 1, 176), (177, 0, 178), (177, 1, 179), (180, 0, 181), (180, 1, 182), (183, 0, 184), (185, 0, 186), (185, 1, 187), (185, 2, 188), (213, 4, 214), (213, 5, 215), (213, 6, 222), (213, 7, 223), (213, 8, 224), (213, 9, 225), (213, 11, 226), (213, 12, 230), (213, 13, 235), (213, 14, 236), (213, 15, 237), (215, 0, 216), (215, 1, 217), (215, 2, 218), (215, 3, 219), (215, 4, 220), (215, 5, 221), (226, 0, 227), (226, 1, 228), (226, 2, 229), (230, 0, 231), (230, 1, 232), (230, 2, 233), (230, 3, 234)]
def Stc (h : List zC) : Prop := 239 ≤ h.length ∧ ∀ e ∈ stL, gF h e.1 e.2.1 = some (.ref e.2.2)
theorem gFr_F {Wr : List (Nat × Nat)} {ρ : List Nat} {h h' : List zC} {p k r : Nat} (H : gFr Wr ρ h h') (hr : ρ[p]? = some r) (hw : wIn Wr r k = false) (hp : p < h.length) : gF h' p k = gF h p k := by
  obtain ⟨c', e1, e2, e3, e4⟩ := H p h[p] (List.getElem?_eq_getElem hp)
  rw [gF_of e1, gF_of (List.getElem?_eq_getElem hp)]
  exact e4 r hr k hw
theorem gFr_T {Wr : List (Nat × Nat)} {ρ : List Nat} {h h' : List zC} {p : Nat} (H : gFr Wr ρ h h') (hp : p < h.length) : gT h' p = gT h p ∧ gN h' p = gN h p := by
  obtain ⟨c', e1, e2, e3, e4⟩ := H p h[p] (List.getElem?_eq_getElem hp)
  rw [gT_of e1, gT_of (List.getElem?_eq_getElem hp), gN_of e1, gN_of (List.getElem?_eq_getElem hp), e2, e3]
  exact ⟨rfl, rfl⟩
theorem gFr_len {Wr : List (Nat × Nat)} {ρ : List Nat} {h h' : List zC} (H : gFr Wr ρ h h') : h.length ≤ h'.length := by
  by_cases z : h.length = 0
  · omega
  · obtain ⟨c', e1, -⟩ := H (h.length - 1) h[h.length - 1] (List.getElem?_eq_getElem (by omega))
    have := (List.getElem?_eq_some_iff.mp e1).1
    omega
theorem Ro.at {ρ : List Nat} (H : Ro ρ) {p r : Nat} (e : rho0[p]? = some r) : ρ[p]? = some r := H p r e
theorem Stc.fr {Wr : List (Nat × Nat)} {ρ : List Nat} {h h' : List zC} (hS : Stc h) (hR : Ro ρ) (H : gFr Wr ρ h h') (hw : stL.all (fun e => match rho0[e.1]? with | some r => !(wIn Wr r e.2.1) | none => false) = true) : Stc h' := by
  refine ⟨Nat.le_trans hS.1 (gFr_len H), fun e he => ?_⟩
  have q := List.all_eq_true.mp hw e he
  split at q
  · rename_i r hr
    rw [gFr_F H (hR _ _ hr) (by simpa using q) (gF_lt (hS.2 e he))]
    exact hS.2 e he
  · cases q
theorem Stc.put {h h' : List zC} {q b : Nat} {v : Value} (hS : Stc h) (H : hPut h h' q b v) (hn : ∀ e ∈ stL, ¬ (e.1 = q ∧ e.2.1 = b)) : Stc h' := by
  refine ⟨by rw [H.1]; exact hS.1, fun e he => ?_⟩
  rw [H.2.1, if_neg (hn e he)]
  exact hS.2 e he
theorem Stc.at {h : List zC} (hS : Stc h) (e : Nat × Nat × Nat) (he : stL.contains e = true) : gF h e.1 e.2.1 = some (.ref e.2.2) := hS.2 e (by simpa using he)
/-- cells that are not among the pointers' -/
theorem stL_no {q b : Nat} (P : Nat → Bool) (hP : stL.all (fun e => !(P e.1)) = true) (hq : P q = true) : ∀ e ∈ stL, ¬ (e.1 = q ∧ e.2.1 = b) := fun e he z => by
  have := List.all_eq_true.mp hP e he
  rw [z.1, hq] at this
  cases this
theorem stL_no2 {q b : Nat} (h : stL.all (fun e => !(e.1 == q && e.2.1 == b)) = true) : ∀ e ∈ stL, ¬ (e.1 = q ∧ e.2.1 = b) := fun e he z => by
  have := List.all_eq_true.mp h e he
  simp [z.1, z.2] at this
/-- with no costs -/
def vZ (S : sS) : sS := (S.1, S.2.1, S.2.2.1, S.2.2.2.1, 0, 0, [])
theorem gA.reb {hb ub : Nat} {ρ : List Nat} {ν : List Value} {S : sS} {lv : List (Nat × Value)} {st : List Value} {h : List zC} {u : Nat} (h7 : S.2.2.2.1.all (fun f => !(f.1 == 7)) = true) (hA : gA hb ub ρ ν S lv st h u) : gA h.length u ρ ν (vZ S) lv st h u := by
  refine ⟨hA.1, hA.2.1, hA.2.2.1, fun f hf => ?_, ?_, ?_⟩
  · have h8 := List.all_eq_true.mp h7 f hf
    exact (hA.2.2.2.1 f hf).base (by simpa using h8)
  · show (h.length : Int) - h.length ≤ 0
    omega
  · show (u : Int) - u ≤ 0
    omega
/-- facts beside -/
def sFs (S : sS) (G : List sF) : sS := (S.1, S.2.1, S.2.2.1, G ++ S.2.2.2.1, S.2.2.2.2)
theorem gA.fs {hb ub : Nat} {ρ : List Nat} {ν : List Value} {S : sS} {lv : List (Nat × Value)} {st : List Value} {h : List zC} {u : Nat} (hA : gA hb ub ρ ν S lv st h u) {G : List sF} (hG : ∀ f ∈ G, fHold hb ν h f) : gA hb ub ρ ν (sFs S G) lv st h u := by
  refine ⟨hA.1, hA.2.1, hA.2.2.1, fun f hf => ?_, hA.2.2.2.2⟩
  rcases List.mem_append.mp hf with hf | hf
  · exact hG f hf
  · exact hA.2.2.2.1 f hf
/-- a number that is known better -/
def sNr (S : sS) (s : Nat) (lo hi : Int) : sS := (S.1.set s (0, lo, hi), S.2)
theorem gA.nr {hb ub : Nat} {ρ : List Nat} {ν : List Value} {S : sS} {lv : List (Nat × Value)} {st : List Value} {h : List zC} {u s : Nat} {lo hi : Int} {x : Int32} (hA : gA hb ub ρ ν S lv st h u) (hs : ν[s]? = some (.int x)) (h1 : lo ≤ x.toInt) (h2 : x.toInt ≤ hi) : gA hb ub ρ ν (sNr S s lo hi) lv st h u := by
  refine ⟨⟨by show (S.1.set s (0, lo, hi)).length = ν.length; rw [List.length_set]; exact hA.1.1, fun k v hv => ?_⟩, hA.2.1, hA.2.2.1, hA.2.2.2.1, hA.2.2.2.2⟩
  show tHas ρ (sGet (S.1.set s (0, lo, hi)) k) v
  have hk : k < S.1.length := by rw [hA.1.1]; exact (List.getElem?_eq_some_iff.mp hv).1
  unfold sGet
  rw [List.getD_eq_getElem?_getD]
  by_cases z : s = k
  · subst z
    rw [List.getElem?_set_self hk]
    rw [hs] at hv
    cases hv
    exact ⟨x, rfl, h1, h2⟩
  · rw [List.getElem?_set_ne z, ← List.getD_eq_getElem?_getD]
    exact hA.1.2 k v hv
/-- a symbol beside -/
def sNw (S : sS) (t : tT) (G : List sF) : sS := (S.1 ++ [t], S.2.1, S.2.2.1, G ++ S.2.2.2.1, S.2.2.2.2)
theorem gA.nw {hb ub : Nat} {ρ : List Nat} {ν : List Value} {S : sS} {lv : List (Nat × Value)} {st : List Value} {h : List zC} {u : Nat} {t : tT} {v : Value} (hA : gA hb ub ρ ν S lv st h u) (hv : tHas ρ t v) {G : List sF} (hG : ∀ f ∈ G, fHold hb (ν ++ [v]) h f) : gA hb ub ρ (ν ++ [v]) (sNw S t G) lv st h u :=
  hA.push hv hG (hA.2.1.ext (nExt_app _ _)) (hA.2.2.1.ext (nExt_app _ _))
/-- what is asked of a call by contract -/
def cvOk (zr : zRow) (zi : Nat → zI) (W : tWd) (j pc d : Nat) (S : sS) (c : cCon) : Bool := match zr j pc with
  | some (i, a, b) => decide (zKe i a b = 3 ∧ c.1 = a ∧ c.2.1 ≤ d ∧ zNp (zi a) ≤ S.2.2.1.length ∧ sCats S.1 (S.2.2.1.drop (zNp (zi a))) ≤ 8 ∧ sCats S.1 (S.2.2.1.take (zNp (zi a))) ≤ zMl (zi a) ∧ zMl (zi a) ≤ 40 ∧ sKnown S.1 (S.2.2.1.take (zNp (zi a))) = true ∧ sRc W b S (S.2.2.1.take (zNp (zi a))).reverse = true ∧ mOk (mBuild 0 (sCall S (S.2.2.1.take (zNp (zi a))).reverse) c.2.2.1) (sCall S (S.2.2.1.take (zNp (zi a))).reverse) c.2.2.1 = true)
  | none => false
/-- the state behind it -/
def cvS (zi : Nat → zI) (S : sS) (c : cCon) (x : sS) : sS := sBack S S.2.1 (S.2.2.1.drop (zNp (zi c.1))) c (mBuild 0 (sCall S (S.2.2.1.take (zNp (zi c.1))).reverse) c.2.2.1) x
theorem call_val {zr : zRow} {zi : Nat → zI} {W : tWd} {j pc dd b : Nat} {S : sS} {c : cCon} {i : Instr} {ρ : List Nat} {ν : List Value} {lv : List (Nat × Value)} {st : List Value} {h : List zC} {u hb ub : Nat} {N : Int} {KK Sv : zK} {x : sS} {s : Nat}
    (hC : cHolds zr zi W c) (hrow : zr j pc = some (i, c.1, b)) (hv : cvOk zr zi W j pc dd S c = true) (hx1 : c.2.2.2.2.2.2 = [(1, x)]) (hx2 : x.2.2.1 = [s]) (hA : gA hb ub ρ ν S lv st h u) (hH : tHeap W N ρ h) (hmc : (h.length : Int) + c.2.2.2.2.1 ≤ zCM) (hms : (u : Int) + c.2.2.2.2.2.1 ≤ zSN) (hhb : h.length = hb)
    (hval : ∀ n, zL zr zi n c.1 0 (lv_args 0 (st.take (zNp (zi c.1))).reverse) [] h u Sv)
    (hx : ∀ (N' : Int) (ρ' : List Nat) (ν' : List Value) (v : Value) (h' : List zC) (u' : Nat), N ≤ N' → nExt ν ν' → gA hb ub ρ' ν' (cvS zi S c x) lv (v :: st.drop (zNp (zi c.1))) h' u' → tHeap W N' ρ' h' → gFr c.2.2.2.1 ρ h h' → gPre hb ρ ρ' → Sv (.inl (some v)) h' u' → zE zr zi (dd + 1) j (pc + zLen i) lv (v :: st.drop (zNp (zi c.1))) h' u' KK) :
    zE zr zi (dd + 1) j pc lv st h u KK := by
  unfold cvOk at hv
  rw [hrow] at hv
  obtain ⟨hk, -, e2, c1, c2, c3, c4, c5, c6, m4⟩ := of_decide_eq_true hv
  have hT := hA.2.2.1
  have hTt := hT.take (zNp (zi c.1))
  have hTd := hT.drop (zNp (zi c.1))
  have k1 : zNp (zi c.1) ≤ st.length := by rw [← hT.len]; exact c1
  have k2 : ((st.drop (zNp (zi c.1))).map (fun v => v.category)).sum ≤ 8 := Nat.le_trans (sCats_ok hA.1 hTd) c2
  have k3 : (lg_sl (st.take (zNp (zi c.1))).reverse).length ≤ zMl (zi c.1) := by
    rw [lgs_len, List.map_reverse, sum_rev]
    exact Nat.le_trans (sCats_ok hA.1 hTt) c3
  have k5 : zRc b (st.take (zNp (zi c.1))).reverse h := sRc_ok hA hH hTt.rev c6
  have hkn : sKnown S.1 (S.2.2.1.take (zNp (zi c.1))).reverse = true := by
    unfold sKnown at c5 ⊢
    rw [List.all_reverse]
    exact c5
  have hLa := (sArgs_ok (S := S) hA.1 0 hTt.rev hkn).1
  have hS : gA h.length u ρ ν (sCall S (S.2.2.1.take (zNp (zi c.1))).reverse) (lv_args 0 (st.take (zNp (zi c.1))).reverse) [] h u := by
    refine ⟨hA.1, hLa, rfl, fun q hq => ?_, ?_, ?_⟩
    · obtain ⟨q1, q2⟩ := List.mem_filter.mp hq
      exact (hA.2.2.2.1 q q1).base (by simpa using q2)
    · show (h.length : Int) - h.length ≤ 0
      omega
    · show (u : Int) - u ≤ 0
      omega
  obtain ⟨g1, g2⟩ := mOk_ok hS m4
  have hP : gPre hb ρ ρ := ⟨by rw [← hhb]; exact hH.1, fun _ _ e => e⟩
  have hC := hC dd e2 N ρ _ _ h u (fun o h' u' => ∃ (N' : Int) (ρ' : List Nat) (ν' : List Value) (v : Value), o = .inl (some v) ∧ N ≤ N' ∧ nExt ν ν' ∧ gA hb ub ρ' ν' (cvS zi S c x) lv (v :: st.drop (zNp (zi c.1))) h' u' ∧ tHeap W N' ρ' h' ∧ gFr c.2.2.2.1 ρ h h' ∧ gPre hb ρ ρ') g1 hH hmc hms (fun y hy N' ρ' ν' st' h' u' o n1 n2 n3 n4 n5 n6 n7 => by
    rw [hx1] at hy
    simp only [List.mem_cons, List.not_mem_nil, or_false] at hy
    subst hy
    obtain ⟨ν2, t1, t2⟩ := sBack_ok (ρ0 := ρ) (S := S) (x := ((1, x) : cEx)) hA hH hP g2 (mOk_len m4) n2 n3 n5 n6
    obtain ⟨v, ev, est⟩ := exO_one n7
    subst est
    have hT' := t2.2.2.1
    have hx3 : (sBack S [] [] c (mBuild 0 (sCall S (S.2.2.1.take (zNp (zi c.1))).reverse) c.2.2.1) ((1, x) : cEx).2).2.2.1 = [mX c.2.2.1.1.length S.1.length (mBuild 0 (sCall S (S.2.2.1.take (zNp (zi c.1))).reverse) c.2.2.1) s] := by
      show x.2.2.1.map _ ++ [] = _
      rw [hx2]
      rfl
    rw [hx3] at hT'
    obtain ⟨v2, st2, e2, h1, h2⟩ := hT'.inv
    cases e2
    refine ⟨N', ρ', ν2, v, ev, n1, t1, ⟨t2.1, hA.2.1.ext t1, ?_, t2.2.2.2⟩, n4, n5, hP.trans n3.2⟩
    show gSt ν2 (x.2.2.1.map _ ++ S.2.2.1.drop (zNp (zi c.1))) _
    rw [hx2]
    exact gSt.cons h1 (hTd.ext t1))
  refine zE_3 hrow hk k1 k2 k3 c4 k5 (zE_K (zE_L hC hval) (fun o h' u' q => ?_))
  obtain ⟨⟨N', ρ', ν', v, rfl, q1, q2, q3, q4, q5, q6⟩, q7⟩ := q
  exact hx N' ρ' ν' v h' u' q1 q2 q3 q4 q5 q6 q7
theorem call_valn {zr : zRow} {zi : Nat → zI} {W : tWd} {j pc dd b : Nat} {S : sS} {c : cCon} {i : Instr} {ρ : List Nat} {ν : List Value} {lv : List (Nat × Value)} {st : List Value} {h : List zC} {u hb ub : Nat} {N : Int} {KK Sv : zK} 
    (hC : cHolds zr zi W c) (hrow : zr j pc = some (i, c.1, b)) (hv : cvOk zr zi W j pc dd S c = true) (hx1 : c.2.2.2.2.2.2.all (fun y => y.1 == 1 && y.2.2.2.1.length == 1) = true) (hA : gA hb ub ρ ν S lv st h u) (hH : tHeap W N ρ h) (hmc : (h.length : Int) + c.2.2.2.2.1 ≤ zCM) (hms : (u : Int) + c.2.2.2.2.2.1 ≤ zSN) (hhb : h.length = hb)
    (hval : ∀ n, zL zr zi n c.1 0 (lv_args 0 (st.take (zNp (zi c.1))).reverse) [] h u Sv)
    (hx : ∀ y ∈ c.2.2.2.2.2.2, ∀ (N' : Int) (ρ' : List Nat) (ν' : List Value) (v : Value) (h' : List zC) (u' : Nat), N ≤ N' → nExt ν ν' → gA hb ub ρ' ν' (cvS zi S c y.2) lv (v :: st.drop (zNp (zi c.1))) h' u' → tHeap W N' ρ' h' → gFr c.2.2.2.1 ρ h h' → gPre hb ρ ρ' → Sv (.inl (some v)) h' u' → zE zr zi (dd + 1) j (pc + zLen i) lv (v :: st.drop (zNp (zi c.1))) h' u' KK) :
    zE zr zi (dd + 1) j pc lv st h u KK := by
  unfold cvOk at hv
  rw [hrow] at hv
  obtain ⟨hk, -, e2, c1, c2, c3, c4, c5, c6, m4⟩ := of_decide_eq_true hv
  have hT := hA.2.2.1
  have hTt := hT.take (zNp (zi c.1))
  have hTd := hT.drop (zNp (zi c.1))
  have k1 : zNp (zi c.1) ≤ st.length := by rw [← hT.len]; exact c1
  have k2 : ((st.drop (zNp (zi c.1))).map (fun v => v.category)).sum ≤ 8 := Nat.le_trans (sCats_ok hA.1 hTd) c2
  have k3 : (lg_sl (st.take (zNp (zi c.1))).reverse).length ≤ zMl (zi c.1) := by
    rw [lgs_len, List.map_reverse, sum_rev]
    exact Nat.le_trans (sCats_ok hA.1 hTt) c3
  have k5 : zRc b (st.take (zNp (zi c.1))).reverse h := sRc_ok hA hH hTt.rev c6
  have hkn : sKnown S.1 (S.2.2.1.take (zNp (zi c.1))).reverse = true := by
    unfold sKnown at c5 ⊢
    rw [List.all_reverse]
    exact c5
  have hLa := (sArgs_ok (S := S) hA.1 0 hTt.rev hkn).1
  have hS : gA h.length u ρ ν (sCall S (S.2.2.1.take (zNp (zi c.1))).reverse) (lv_args 0 (st.take (zNp (zi c.1))).reverse) [] h u := by
    refine ⟨hA.1, hLa, rfl, fun q hq => ?_, ?_, ?_⟩
    · obtain ⟨q1, q2⟩ := List.mem_filter.mp hq
      exact (hA.2.2.2.1 q q1).base (by simpa using q2)
    · show (h.length : Int) - h.length ≤ 0
      omega
    · show (u : Int) - u ≤ 0
      omega
  obtain ⟨g1, g2⟩ := mOk_ok hS m4
  have hP : gPre hb ρ ρ := ⟨by rw [← hhb]; exact hH.1, fun _ _ e => e⟩
  have hC := hC dd e2 N ρ _ _ h u (fun o h' u' => ∃ (y : cEx) (N' : Int) (ρ' : List Nat) (ν' : List Value) (v : Value), y ∈ c.2.2.2.2.2.2 ∧ o = .inl (some v) ∧ N ≤ N' ∧ nExt ν ν' ∧ gA hb ub ρ' ν' (cvS zi S c y.2) lv (v :: st.drop (zNp (zi c.1))) h' u' ∧ tHeap W N' ρ' h' ∧ gFr c.2.2.2.1 ρ h h' ∧ gPre hb ρ ρ') g1 hH hmc hms (fun y hy N' ρ' ν' st' h' u' o n1 n2 n3 n4 n5 n6 n7 => by
    obtain ⟨y1, y2⟩ := Bool.and_eq_true_iff.mp (List.all_eq_true.mp hx1 y hy)
    have y1 : y.1 = 1 := by simpa using y1
    have y2 : y.2.2.2.1.length = 1 := by simpa using y2
    obtain ⟨s, hx2⟩ := List.length_eq_one_iff.mp y2
    rw [y1] at n7
    obtain ⟨ν2, t1, t2⟩ := sBack_ok (ρ0 := ρ) (S := S) (x := y) hA hH hP g2 (mOk_len m4) n2 n3 n5 n6
    obtain ⟨v, ev, est⟩ := exO_one n7
    subst est
    have hT' := t2.2.2.1
    have hx3 : (sBack S [] [] c (mBuild 0 (sCall S (S.2.2.1.take (zNp (zi c.1))).reverse) c.2.2.1) y.2).2.2.1 = [mX c.2.2.1.1.length S.1.length (mBuild 0 (sCall S (S.2.2.1.take (zNp (zi c.1))).reverse) c.2.2.1) s] := by
      show y.2.2.2.1.map _ ++ [] = _
      rw [hx2]
      rfl
    rw [hx3] at hT'
    obtain ⟨v2, st2, e2, h1, h2⟩ := hT'.inv
    cases e2
    refine ⟨y, N', ρ', ν2, v, hy, ev, n1, t1, ⟨t2.1, hA.2.1.ext t1, ?_, t2.2.2.2⟩, n4, n5, hP.trans n3.2⟩
    show gSt ν2 (y.2.2.2.1.map _ ++ S.2.2.1.drop (zNp (zi c.1))) _
    rw [hx2]
    exact gSt.cons h1 (hTd.ext t1))
  refine zE_3 hrow hk k1 k2 k3 c4 k5 (zE_K (zE_L hC hval) (fun o h' u' q => ?_))
  obtain ⟨⟨y, N', ρ', ν', v, hy, rfl, q1, q2, q3, q4, q5, q6⟩, q7⟩ := q
  exact hx y hy N' ρ' ν' v h' u' q1 q2 q3 q4 q5 q6 q7
theorem ends2 {l : List cEx} {P : cEx → Prop} {a b : cEx} (e : l = [a, b]) (h1 : P a) (h2 : P b) : ∀ y ∈ l, P y := fun y hy => by
  rw [e] at hy
  rcases List.mem_cons.mp hy with rfl | hy
  · exact h1
  · rw [List.mem_singleton.mp hy]
    exact h2
theorem ends3 {l : List cEx} {P : cEx → Prop} {a b c : cEx} (e : l = [a, b, c]) (h1 : P a) (h2 : P b) (h3 : P c) : ∀ y ∈ l, P y := fun y hy => by
  rw [e] at hy
  rcases List.mem_cons.mp hy with rfl | hy
  · exact h1
  · exact ends2 rfl h2 h3 y hy
theorem gFr_F0 {ρ : List Nat} {h h' : List zC} (H : gFr [] ρ h h') (hl : ρ.length = h.length) {p : Nat} (hp : p < h.length) (k : Nat) : gF h' p k = gF h p k :=
  gFr_F H (List.getElem?_eq_getElem (by rw [hl]; exact hp)) rfl hp
theorem gSt.nil {ν : List Value} {st : List Value} (h : gSt ν [] st) : st = [] := by
  unfold gSt at h
  cases st with
  | nil => rfl
  | cons x r => simp at h
theorem gSt_hd {ν : List Value} {T : List Nat} {st : List Value} {v : Value} {s : Nat} (h : gSt ν T (v :: st)) (e : T.head? = some s) : ν[s]? = some v := by
  cases T with
  | nil => cases e
  | cons x r =>
    cases e
    obtain ⟨w, st', e2, h1, -⟩ := h.inv
    cases e2
    exact h1
theorem fH2 {hb o k s a : Nat} {ν : List Value} {h : List zC} {v : Value} (h1 : ν[o]? = some (.ref a)) (h2 : gF h a k = some v) (h3 : ν[s]? = some v) : fHold hb ν h (2, o, k, s, 0) := by
  unfold gF at h2
  split at h2
  · rename_i c hc
    exact ⟨a, c, v, h1, hc, h2, h3⟩
  · cases h2
theorem gA.cost {hb ub : Nat} {ρ : List Nat} {ν : List Value} {S : sS} {lv : List (Nat × Value)} {st : List Value} {h : List zC} {u : Nat} (hA : gA hb ub ρ ν S lv st h u) (e : S.2.2.2.2.2.2 = []) : (h.length : Int) - hb ≤ S.2.2.2.2.1 ∧ (u : Int) - ub ≤ S.2.2.2.2.2.1 := by
  obtain ⟨a, b⟩ := hA.2.2.2.2
  rw [e] at a b
  exact ⟨a, b⟩
/-- the end of a contract that has but one -/
def cx1 (c : cCon) : sS := match c.2.2.2.2.2.2 with
  | [x] => x.2
  | _ => ([], [], [], [], 0, 0, [])
