/-! ===== the abstract machine: what reads or writes the heap is right ===== -/
section sHok2
variable {W : tWd} {Wr : List (Nat × Nat)} {hb ub : Nat} {ρ ρ0 : List Nat} {ν : List Value} {S : sS} {lv : List (Nat × Value)} {st : List Value} {h h0 : List zC} {u : Nat} {succ : List (Nat × sS)} {pc a k : Nat} {N : Int}
theorem fSet {f : sF} {q k : Nat} {c : zC} {v : Value} (H : fHold hb ν h f) (hq : h[q]? = some c) (h2 : f.1 = 2 → ν[f.2.1]? = some (.ref q) → f.2.2.1 ≠ k) (h4 : f.1 = 4 → ν[f.2.1]? = some (.ref q) → False) : fHold hb ν (h.set q (c.1, c.2.set k v)) f := by
  have hlt := (List.getElem?_eq_some_iff.mp hq).1
  unfold fHold at H ⊢
  split at H
  · exact H
  · exact H
  · rename_i e0
    obtain ⟨b, d, w, e1, e2, e3, e4⟩ := H
    by_cases e : q = b
    · subst e
      rw [hq] at e2
      cases e2
      refine ⟨q, _, w, e1, List.getElem?_set_self hlt, ?_, e4⟩
      show (c.2.set k v)[f.2.2.1]? = some w
      rw [List.getElem?_set_ne (fun z => h2 e0 e1 z.symm)]
      exact e3
    · exact ⟨b, d, w, e1, by rw [List.getElem?_set_ne e]; exact e2, e3, e4⟩
  · obtain ⟨b, d, x, e1, e2, e3, e4⟩ := H
    by_cases e : q = b
    · subst e
      rw [hq] at e2
      cases e2
      exact ⟨q, _, x, e1, List.getElem?_set_self hlt, e3, by rw [List.length_set]; exact e4⟩
    · exact ⟨b, d, x, e1, by rw [List.getElem?_set_ne e]; exact e2, e3, e4⟩
  · rename_i e0
    obtain ⟨b, d, x, w, e1, e2, e3⟩ := H
    by_cases e : q = b
    · subst e
      exact (h4 e0 e1).elim
    · exact ⟨b, d, x, w, e1, by rw [List.getElem?_set_ne e]; exact e2, e3⟩
  · exact H
  · exact H
  · exact H
  · trivial
theorem sNot_ok {o r q : Nat} (hA : gA hb ub ρ ν S lv st h u) (hn : sNot S.1 o r = true) (ho : ν[o]? = some (.ref q)) (hr : ρ[q]? = some r) : False := by
  unfold sNot at hn
  obtain ⟨h1, h2⟩ := Bool.and_eq_true_iff.mp hn
  obtain ⟨i, e1, e2⟩ := hA.ref ho (by simpa using h1)
  cases e1
  rw [hr] at e2
  cases e2
  simp at h2
theorem keepF {q r k : Nat} {c : zC} {v : Value} (hA : gA hb ub ρ ν S lv st h u) (hq : h[q]? = some c) (hr : ρ[q]? = some r) : ∀ f ∈ S.2.2.2.1.filter (fKeepF S.1 r k), fHold hb ν (h.set q (c.1, c.2.set k v)) f := by
  intro f hf
  obtain ⟨hf, hk⟩ := List.mem_filter.mp hf
  unfold fKeepF at hk
  refine fSet (hA.2.2.2.1 f hf) hq (fun e1 e2 e3 => ?_) (fun e1 e2 => ?_)
  · rw [if_pos e1] at hk
    rcases Bool.or_eq_true_iff.mp hk with hk | hk
    · simp [e3] at hk
    · exact sNot_ok hA hk e2 hr
  · rw [if_neg (by omega), if_pos e1] at hk
    exact sNot_ok hA hk e2 hr
theorem keepA {q r k : Nat} {c : zC} {v : Value} (hA : gA hb ub ρ ν S lv st h u) (hq : h[q]? = some c) (hr : ρ[q]? = some r) : ∀ f ∈ S.2.2.2.1.filter (fKeepA S.1 r), fHold hb ν (h.set q (c.1, c.2.set k v)) f := by
  intro f hf
  obtain ⟨hf, hk⟩ := List.mem_filter.mp hf
  unfold fKeepA at hk
  refine fSet (hA.2.2.2.1 f hf) hq (fun e1 e2 e3 => ?_) (fun e1 e2 => ?_)
  · rw [if_pos e1] at hk
    exact sNot_ok hA hk e2 hr
  · rw [if_neg (by omega), if_pos e1] at hk
    exact sNot_ok hA hk e2 hr
/-- the roles of the cells that there were when the method began -/
def gPre (hb : Nat) (ρ0 ρ : List Nat) : Prop := ρ0.length = hb ∧ ∀ i r : Nat, ρ0[i]? = some r → ρ[i]? = some r
theorem sW1_ok {o q r k : Nat} (hA : gA hb ub ρ ν S lv st h u) (hP : gPre hb ρ0 ρ) (hh : h0.length = hb) (hw : sW1 W Wr S o r k = true) (ho : ν[o]? = some (.ref q)) (hr : ρ[q]? = some r) : wLk W r = false ∧ wW W ≤ r ∧ (h0.length ≤ q ∨ ∃ r, ρ0[q]? = some r ∧ wIn Wr r k = true) := by
  unfold sW1 at hw
  obtain ⟨h1, h2⟩ := Bool.and_eq_true_iff.mp hw
  obtain ⟨h2, h3⟩ := Bool.and_eq_true_iff.mp h2
  refine ⟨by simpa using h1, of_decide_eq_true h2, ?_⟩
  rcases Bool.or_eq_true_iff.mp h3 with h3 | h3
  · have := sNew_ok hA h3 ho
    exact Or.inl (by omega)
  · rcases Nat.lt_or_ge q hb with e | e
    · have e1 : ρ0[q]? = some (ρ0[q]'(by rw [hP.1]; exact e)) := List.getElem?_eq_getElem (by rw [hP.1]; exact e)
      have e2 := hP.2 _ _ e1
      rw [hr] at e2
      cases e2
      exact Or.inr ⟨_, e1, h3⟩
    · exact Or.inl (by omega)
theorem wAll {r k : Nat} (h : wIn Wr r 999 = true) : wIn Wr r k = true := by
  unfold wIn at h ⊢
  obtain ⟨w, hw, h⟩ := List.any_eq_true.mp h
  refine List.any_eq_true.mpr ⟨w, hw, ?_⟩
  obtain ⟨h1, h2⟩ := Bool.and_eq_true_iff.mp h
  have h2 : w.2 = 999 := by simpa using h2
  simp only [Bool.and_eq_true]
  exact ⟨h1, by simp [h2]⟩
theorem low_ok {q r : Nat} (hH : tHeap W N ρ h) (hr : ρ[q]? = some r) (hw : wW W ≤ r) : zro ≤ q := by
  rcases Nat.lt_or_ge q zro with e | e
  · have := hH.2.2.2.1 q r e hr
    omega
  · exact e
theorem len_ok {R : tR} {c : zC} (hC : tCell N ρ R c) {k : Nat} (hl : tLn R k = true) : k < c.2.length := by
  unfold tLn at hl
  split at hl
  · rename_i n e
    rw [hC.2.1 n e]
    exact of_decide_eq_true hl
  · cases hl
theorem sGetF_ok (ha : sGetF W a k pc S = some succ) (hA : gA hb ub ρ ν S lv st h u) (hH : tHeap W N ρ h) (hF : gFr Wr ρ0 h0 h) : sHd (h := h) W Wr N hb ub ρ0 ρ ν h0 lv u succ (zGet a k pc st h) := by
  unfold sGetF at ha
  split at ha
  · rename_i o r hs
    split at ha
    · rename_i hc
      obtain ⟨c1, c2⟩ := hc
      split at ha
      · rename_i R hR
        split at ha
        · rename_i hd
          obtain ⟨d1, d2⟩ := hd
          have hT0 := hA.2.2.1
          rw [hs] at hT0
          obtain ⟨vo, st1, rfl, eo, hT⟩ := hT0.inv
          obtain ⟨q, rfl, hr⟩ := hA.ref eo c1
          obtain ⟨c, hq⟩ := hH.role hr
          have hC := hH.2.2.1 q c _ R hq hr hR
          have hk := len_ok hC d2
          have hv : c.2[k]? = some c.2[k] := List.getElem?_eq_getElem hk
          have hz : zGet a k pc (.ref q :: st1) h = some (pc + 3, c.2[k] :: st1, h) := by
            unfold zGet
            dsimp only
            rw [hq]
            dsimp only
            rw [if_pos ⟨by rw [hC.1]; exact d1, c2⟩, hv]
          rw [hz]
          split at ha
          · rename_i s hf
            cases ha
            obtain ⟨a2, c2, v2, e1, e2, e3, e4⟩ := sFld_ok hA hf
            rw [eo] at e1
            cases e1
            rw [hq] at e2
            cases e2
            rw [hv] at e3
            cases e3
            exact ⟨_, _, _, rfl, rfl, ν, _, List.mem_cons_self, nExt.refl ν, ⟨hA.1, hA.2.1, gSt.cons e4 hT, hA.2.2.2⟩, hH, hF⟩
          · unfold sPush at ha
            cases ha
            have hV := hC.2.2 k _ hv
            refine ⟨_, _, _, rfl, rfl, ν ++ [c.2[k]], _, List.mem_cons_self, nExt_app _ _, hA.push hV.1 (fun f hf => ?_) (hA.2.1.ext (nExt_app _ _)) (gSt.cons (hA.new _) (hT.ext (nExt_app _ _))), hH, hF⟩
            rcases List.mem_cons.mp hf with rfl | hf
            · exact ⟨q, c, c.2[k], nExt_app _ _ _ _ eo, hq, hv, hA.new _⟩
            · exact gGh_ok hA hH hV.2 f hf
        · cases ha
      · cases ha
    · cases ha
  · cases ha
theorem sPutF_ok (hlk : wLk W (wA W) = true) (ha : sPutF W Wr a k pc S = some succ) (hA : gA hb ub ρ ν S lv st h u) (hH : tHeap W N ρ h) (hF : gFr Wr ρ0 h0 h) (hP : gPre hb ρ0 ρ) (hh : h0.length = hb) : sHd (h := h) W Wr N hb ub ρ0 ρ ν h0 lv u succ (zPut a k pc st h) := by
  unfold sPutF at ha
  split at ha
  · rename_i v o r hs
    split at ha
    · rename_i hc
      obtain ⟨c1, c2⟩ := hc
      split at ha
      · rename_i R hR
        split at ha
        · rename_i hd
          obtain ⟨d1, d2, d3, d4, d5⟩ := hd
          cases ha
          have hT0 := hA.2.2.1
          rw [hs] at hT0
          obtain ⟨vv, st1, rfl, ev, hT1⟩ := hT0.inv
          obtain ⟨vo, st2, rfl, eo, hT⟩ := hT1.inv
          obtain ⟨q, rfl, hr⟩ := hA.ref eo c1
          obtain ⟨c, hq⟩ := hH.role hr
          have hC := hH.2.2.1 q c _ R hq hr hR
          have hk := len_ok hC d2
          obtain ⟨w1, w2, w3⟩ := sW1_ok (h0 := h0) hA hP hh d3 eo hr
          have hz := low_ok hH hr w2
          have hV := sMay_ok hA hH d5 ev
          have hfit := tFit_ok d4 (hA.1.2 _ _ ev)
          have hzz : zPut a k pc (vv :: .ref q :: st2) h = some (pc + 3, st2, h.set q (c.1, c.2.set k vv)) := by
            unfold zPut
            dsimp only
            rw [hq]
            dsimp only
            rw [if_pos ⟨by rw [hC.1]; exact d1, c2, hz, hk, hfit⟩]
          rw [hzz]
          refine ⟨_, _, _, rfl, by rw [List.length_set], ν, _, List.mem_cons_self, nExt.refl ν, ⟨hA.1, hA.2.1, hT, fun f hf => ?_, ?_⟩, hH.set hlk hq hr w1 (fun R2 e => by rw [hR] at e; cases e; exact hV), hF.set hq w3⟩
          · rcases List.mem_cons.mp hf with rfl | hf
            · exact ⟨q, _, vv, eo, List.getElem?_set_self (List.getElem?_eq_some_iff.mp hq).1, List.getElem?_set_self hk, ev⟩
            · exact keepF hA hq hr f hf
          · have := hA.2.2.2.2
            unfold gCo at this ⊢
            rw [List.length_set]
            exact this
        · cases ha
      · cases ha
    · cases ha
  · cases ha
theorem sLenA_ok (ha : sLenA W pc S = some succ) (hA : gA hb ub ρ ν S lv st h u) (hH : tHeap W N ρ h) (hF : gFr Wr ρ0 h0 h) : sHd (h := h) W Wr N hb ub ρ0 ρ ν h0 lv u succ (zLenA pc st h) := by
  unfold sLenA at ha
  split at ha
  · rename_i o r hs
    split at ha
    · rename_i c1
      split at ha
      · rename_i R hR
        split at ha
        · rename_i d1
          have hT0 := hA.2.2.1
          rw [hs] at hT0
          obtain ⟨vo, st1, rfl, eo, hT⟩ := hT0.inv
          obtain ⟨q, rfl, hr⟩ := hA.ref eo c1
          obtain ⟨c, hq⟩ := hH.role hr
          have hC := hH.2.2.1 q c _ R hq hr hR
          have hL := hH.2.2.2.2.2.2 q c hq
          have hz : zLenA pc (.ref q :: st1) h = some (pc + 1, .int (Int32.ofNat c.2.length) :: st1, h) := by
            unfold zLenA
            dsimp only
            rw [hq]
            dsimp only
            rw [hC.1, if_pos d1]
          have e5 : (Int32.ofNat c.2.length).toInt = c.2.length := Int32.toInt_ofNat_of_lt (by unfold tMax at hL; omega)
          rw [hz]
          split at ha
          · rename_i s hf
            cases ha
            obtain ⟨a2, c2, x2, e1, e2, e3, e4⟩ := sLen_ok hA hf
            rw [eo] at e1
            cases e1
            rw [hq] at e2
            cases e2
            have e6 : x2 = Int32.ofNat c.2.length := Int32.toInt_inj.mp (by omega)
            subst e6
            exact ⟨_, _, _, rfl, rfl, ν, _, List.mem_cons_self, nExt.refl ν, ⟨hA.1, hA.2.1, gSt.cons e3 hT, hA.2.2.2⟩, hH, hF⟩
          · have fin : ∀ t : tT, tHas ρ t (.int (Int32.ofNat c.2.length)) → sPush S (pc + 1) t r [(3, o, S.1.length, 0, 0)] = some succ → sHd (h := h) W Wr N hb ub ρ0 ρ ν h0 lv u succ (some (pc + 1, .int (Int32.ofNat c.2.length) :: st1, h)) := fun t ht ha => by
              unfold sPush at ha
              cases ha
              refine ⟨_, _, _, rfl, rfl, ν ++ [.int (Int32.ofNat c.2.length)], _, List.mem_cons_self, nExt_app _ _, hA.push ht (fun f hf => ?_) (hA.2.1.ext (nExt_app _ _)) (gSt.cons (hA.new _) (hT.ext (nExt_app _ _))), hH, hF⟩
              simp only [List.mem_cons, List.not_mem_nil, or_false] at hf
              subst hf
              exact ⟨q, c, _, nExt_app _ _ _ _ eo, hq, hA.new _, e5⟩
            split at ha
            · rename_i n hn
              have := hC.2.1 n hn
              exact fin (0, n, n) ⟨_, rfl, by dsimp only; omega, by dsimp only; omega⟩ ha
            · exact fin (0, 0, tMax) ⟨_, rfl, by dsimp only; omega, by dsimp only; omega⟩ ha
        · cases ha
      · cases ha
    · cases ha
  · cases ha
theorem ix_nat {j : Int32} (h0 : 0 ≤ j.toInt) : ¬ j < 0 ∧ j.toNatClampNeg = j.toInt.toNat := by
  refine ⟨fun q => ?_, rfl⟩
  have := Int32.lt_iff_toInt_lt.mp q
  have e : (0 : Int32).toInt = 0 := rfl
  omega
theorem sIx_ok {R : tR} {o j q : Nat} {x : Int32} {c : zC} (hA : gA hb ub ρ ν S lv st h u) (hi : sIx S R o j = true) (ej : ν[j]? = some (.int x)) (eo : ν[o]? = some (.ref q)) (hq : h[q]? = some c) (hC : tCell N ρ R c) : 0 ≤ x.toInt ∧ x.toInt.toNat < c.2.length := by
  unfold sIx at hi
  obtain ⟨h1, h2⟩ := Bool.and_eq_true_iff.mp hi
  obtain ⟨h2, h3⟩ := Bool.and_eq_true_iff.mp h2
  have h2 := of_decide_eq_true h2
  obtain ⟨y, e1, e2, e3⟩ := hA.int ej (by simpa using h1)
  cases e1
  refine ⟨by omega, ?_⟩
  rcases Bool.or_eq_true_iff.mp h3 with h3 | h3
  · unfold tLt at h3
    split at h3
    · rename_i n hn
      have h3 := of_decide_eq_true h3
      rw [hC.2.1 n hn]
      omega
    · cases h3
  · unfold sIn at h3
    split at h3
    · rename_i s hf
      obtain ⟨a2, c2, x2, f1, f2, f3, f4⟩ := sLen_ok hA hf
      rw [eo] at f1
      cases f1
      rw [hq] at f2
      cases f2
      have := dOk_ok hA.1 hA.2.2.2.1 h3 ej f3
      omega
    · cases h3
theorem fd_nil {R : tR} {n : Nat} (h : R.2.2.1.isEmpty = true) : tFd R n = R.2.2.2 := by
  unfold tFd
  rw [List.isEmpty_iff.mp h]
  rfl
theorem sLdA_ok {ok : Nat → Bool} (ha : sLdA W ok pc S = some succ) (hA : gA hb ub ρ ν S lv st h u) (hH : tHeap W N ρ h) (hF : gFr Wr ρ0 h0 h) : sHd (h := h) W Wr N hb ub ρ0 ρ ν h0 lv u succ (zLdA ok pc st h) := by
  unfold sLdA at ha
  split at ha
  · rename_i j o r hs
    split at ha
    · rename_i c1
      split at ha
      · rename_i R hR
        split at ha
        · rename_i hd
          obtain ⟨d1, d2, d3⟩ := hd
          have hT0 := hA.2.2.1
          rw [hs] at hT0
          obtain ⟨vj, st1, rfl, ej, hT1⟩ := hT0.inv
          obtain ⟨vo, st2, rfl, eo, hT⟩ := hT1.inv
          obtain ⟨q, rfl, hr⟩ := hA.ref eo c1
          obtain ⟨c, hq⟩ := hH.role hr
          have hC := hH.2.2.1 q c _ R hq hr hR
          have hji : (sGet S.1 j).1 = 0 := by
            unfold sIx at d3
            simpa using (Bool.and_eq_true_iff.mp d3).1
          obtain ⟨x, rfl, -⟩ := hA.int ej hji
          obtain ⟨x1, x2⟩ := sIx_ok hA d3 ej eo hq hC
          obtain ⟨x3, x4⟩ := ix_nat x1
          have hv : c.2[x.toInt.toNat]? = some c.2[x.toInt.toNat] := List.getElem?_eq_getElem x2
          have hz : zLdA ok pc (.int x :: .ref q :: st2) h = some (pc + 1, c.2[x.toInt.toNat] :: st2, h) := by
            unfold zLdA
            dsimp only
            rw [hq]
            dsimp only
            rw [if_pos ⟨by rw [hC.1]; exact d1, x3⟩, x4, hv]
          rw [hz]
          unfold sPush at ha
          cases ha
          have hV := hC.2.2 _ _ hv
          rw [fd_nil d2] at hV
          refine ⟨_, _, _, rfl, rfl, ν ++ [c.2[x.toInt.toNat]], _, List.mem_cons_self, nExt_app _ _, hA.push hV.1 (fun f hf => ?_) (hA.2.1.ext (nExt_app _ _)) (gSt.cons (hA.new _) (hT.ext (nExt_app _ _))), hH, hF⟩
          rcases List.mem_cons.mp hf with rfl | hf
          · exact ⟨q, c, x, _, nExt_app _ _ _ _ eo, hq, nExt_app _ _ _ _ ej, x1, hv, hA.new _⟩
          · exact gGh_ok hA hH hV.2 f hf
        · cases ha
      · cases ha
    · cases ha
  · cases ha
theorem sStA_ok {ok : Nat → tT → Bool} {ok2 : Nat → Bool} {g : Nat → Int32 → Value} (hlk : wLk W (wA W) = true) (hok : ∀ n t x, ok n t = true → tHas ρ t (.int x) → ok2 n = true ∧ g n x = .int x) (ha : sStA W Wr ok pc S = some succ) (hA : gA hb ub ρ ν S lv st h u) (hH : tHeap W N ρ h) (hF : gFr Wr ρ0 h0 h) (hP : gPre hb ρ0 ρ) (hh : h0.length = hb) : sHd (h := h) W Wr N hb ub ρ0 ρ ν h0 lv u succ (zStA ok2 g pc st h) := by
  unfold sStA at ha
  split at ha
  · rename_i v j o r hs
    split at ha
    · rename_i hc
      obtain ⟨c1, c2⟩ := hc
      split at ha
      · rename_i R hR
        split at ha
        · rename_i hd
          obtain ⟨d1, d2, d3, d4, d5⟩ := hd
          cases ha
          have hT0 := hA.2.2.1
          rw [hs] at hT0
          obtain ⟨vv, st1, rfl, ev, hT1⟩ := hT0.inv
          obtain ⟨vj, st2, rfl, ej, hT2⟩ := hT1.inv
          obtain ⟨vo, st3, rfl, eo, hT⟩ := hT2.inv
          obtain ⟨q, rfl, hr⟩ := hA.ref eo c1
          obtain ⟨c, hq⟩ := hH.role hr
          have hC := hH.2.2.1 q c _ R hq hr hR
          have hji : (sGet S.1 j).1 = 0 := by
            unfold sIx at d3
            simpa using (Bool.and_eq_true_iff.mp d3).1
          obtain ⟨x, rfl, -⟩ := hA.int ej hji
          obtain ⟨y, rfl, -⟩ := hA.int ev c2
          obtain ⟨x1, x2⟩ := sIx_ok hA d3 ej eo hq hC
          obtain ⟨x3, x4⟩ := ix_nat x1
          obtain ⟨w1, w2, w3⟩ := sW1_ok (h0 := h0) hA hP hh d4 eo hr
          have w3 : h0.length ≤ q ∨ ∃ r, ρ0[q]? = some r ∧ wIn Wr r x.toInt.toNat = true := by
            rcases w3 with w3 | ⟨r2, w4, w5⟩
            · exact Or.inl w3
            · exact Or.inr ⟨r2, w4, wAll w5⟩
          have hz := low_ok hH hr w2
          have hV := sMay_ok hA hH d5 ev
          obtain ⟨k1, k2⟩ := hok _ _ _ d1 (hA.1.2 _ _ ev)
          have hzz : zStA ok2 g pc (.int y :: .int x :: .ref q :: st3) h = some (pc + 1, st3, h.set q (c.1, c.2.set x.toInt.toNat (.int y))) := by
            unfold zStA
            dsimp only
            rw [hq]
            dsimp only
            rw [x4, if_pos ⟨by rw [hC.1]; exact k1, hz, x3, x2⟩, hC.1, k2]
          rw [hzz]
          refine ⟨_, _, _, rfl, by rw [List.length_set], ν, _, List.mem_cons_self, nExt.refl ν, ⟨hA.1, hA.2.1, hT, fun f hf => ?_, ?_⟩, hH.set hlk hq hr w1 (fun R2 e => by rw [hR] at e; cases e; rw [fd_nil d2]; exact hV), hF.set hq w3⟩
          · rcases List.mem_cons.mp hf with rfl | hf
            · exact ⟨q, _, x, .int y, eo, List.getElem?_set_self (List.getElem?_eq_some_iff.mp hq).1, ej, x1, List.getElem?_set_self x2, ev⟩
            · exact keepA hA hq hr f hf
          · have := hA.2.2.2.2
            unfold gCo at this ⊢
            rw [List.length_set]
            exact this
        · cases ha
      · cases ha
    · cases ha
  · cases ha
theorem sStR_ok (hlk : wLk W (wA W) = true) (ha : sStR W Wr pc S = some succ) (hA : gA hb ub ρ ν S lv st h u) (hH : tHeap W N ρ h) (hF : gFr Wr ρ0 h0 h) (hP : gPre hb ρ0 ρ) (hh : h0.length = hb) : sHd (h := h) W Wr N hb ub ρ0 ρ ν h0 lv u succ (zStR pc st h) := by
  unfold sStR at ha
  split at ha
  · rename_i v j o r hs
    split at ha
    · rename_i hc
      obtain ⟨c1, c2⟩ := hc
      split at ha
      · rename_i R V hR hVr
        split at ha
        · rename_i hd
          obtain ⟨d1, d6, d7, d2, d3, d4, d5⟩ := hd
          cases ha
          have hT0 := hA.2.2.1
          rw [hs] at hT0
          obtain ⟨vv, st1, rfl, ev, hT1⟩ := hT0.inv
          obtain ⟨vj, st2, rfl, ej, hT2⟩ := hT1.inv
          obtain ⟨vo, st3, rfl, eo, hT⟩ := hT2.inv
          obtain ⟨q, rfl, hr⟩ := hA.ref eo c1
          obtain ⟨c, hq⟩ := hH.role hr
          have hC := hH.2.2.1 q c _ R hq hr hR
          have hji : (sGet S.1 j).1 = 0 := by
            unfold sIx at d3
            simpa using (Bool.and_eq_true_iff.mp d3).1
          obtain ⟨x, rfl, -⟩ := hA.int ej hji
          obtain ⟨y, rfl, hyr⟩ := hA.ref ev c2
          obtain ⟨cv, hcv⟩ := hH.role hyr
          have hCv := hH.2.2.1 y cv _ V hcv hyr hVr
          obtain ⟨x1, x2⟩ := sIx_ok hA d3 ej eo hq hC
          obtain ⟨x3, x4⟩ := ix_nat x1
          obtain ⟨w1, w2, w3⟩ := sW1_ok (h0 := h0) hA hP hh d4 eo hr
          have w3 : h0.length ≤ q ∨ ∃ r, ρ0[q]? = some r ∧ wIn Wr r x.toInt.toNat = true := by
            rcases w3 with w3 | ⟨r2, w4, w5⟩
            · exact Or.inl w3
            · exact Or.inr ⟨r2, w4, wAll w5⟩
          have hz := low_ok hH hr w2
          have hV := sMay_ok hA hH d5 ev
          have hzz : zStR pc (.ref y :: .int x :: .ref q :: st3) h = some (pc + 1, st3, h.set q (c.1, c.2.set x.toInt.toNat (.ref y))) := by
            unfold zStR
            dsimp only
            rw [hq, hcv]
            dsimp only
            rw [x4, if_pos ⟨by rw [hC.1]; exact d1, hz, x3, x2, by rw [hCv.1]; exact d6, by rw [hC.1, hCv.1]; exact d7⟩]
          rw [hzz]
          refine ⟨_, _, _, rfl, by rw [List.length_set], ν, _, List.mem_cons_self, nExt.refl ν, ⟨hA.1, hA.2.1, hT, fun f hf => ?_, ?_⟩, hH.set hlk hq hr w1 (fun R2 e => by rw [hR] at e; cases e; rw [fd_nil d2]; exact hV), hF.set hq w3⟩
          · rcases List.mem_cons.mp hf with rfl | hf
            · exact ⟨q, _, x, .ref y, eo, List.getElem?_set_self (List.getElem?_eq_some_iff.mp hq).1, ej, x1, List.getElem?_set_self x2, ev⟩
            · exact keepA hA hq hr f hf
          · have := hA.2.2.2.2
            unfold gCo at this ⊢
            rw [List.length_set]
            exact this
        · cases ha
      · cases ha
    · cases ha
  · cases ha
theorem sCk_ok (ha : sCk W a pc S = some succ) (hA : gA hb ub ρ ν S lv st h u) (hH : tHeap W N ρ h) (hF : gFr Wr ρ0 h0 h) : sHd (h := h) W Wr N hb ub ρ0 ρ ν h0 lv u succ (zCk a pc st h) := by
  unfold sCk at ha
  split at ha
  · rename_i o r hs
    split at ha
    · rename_i hc
      obtain ⟨c1, c2⟩ := hc
      split at ha
      · rename_i R hR
        split at ha
        · rename_i d1
          cases ha
          have hT0 := hA.2.2.1
          rw [hs] at hT0
          obtain ⟨vo, st1, rfl, eo, hT⟩ := hT0.inv
          obtain ⟨q, rfl, hr⟩ := hA.ref eo c1
          obtain ⟨c, hq⟩ := hH.role hr
          have hC := hH.2.2.1 q c _ R hq hr hR
          have hz : zCk a pc (.ref q :: st1) h = some (pc + 3, .ref q :: st1, h) := by
            unfold zCk
            dsimp only
            rw [hq]
            dsimp only
            rw [if_pos ⟨by rw [hC.1]; exact d1, c2⟩]
          rw [hz]
          exact ⟨_, _, _, rfl, rfl, ν, _, List.mem_cons_self, nExt.refl ν, hA, hH, hF⟩
        · cases ha
      · cases ha
    · cases ha
  · cases ha
theorem sG_ok {i : Instr} {b : Nat} (hlk : wLk W (wA W) = true) (ha : sG W Wr i a b pc S = some succ) (hA : gA hb ub ρ ν S lv st h u) (hH : tHeap W N ρ h) (hF : gFr Wr ρ0 h0 h) (hP : gPre hb ρ0 ρ) (hh : h0.length = hb) : sHd (h := h) W Wr N hb ub ρ0 ρ ν h0 lv u succ (zG i a b pc st h) := by
  unfold sG at ha
  split at ha
  · exact sGetF_ok ha hA hH hF
  · exact sPutF_ok hlk ha hA hH hF hP hh
  · exact sLenA_ok ha hA hH hF
  · exact sLdA_ok ha hA hH hF
  · exact sLdA_ok ha hA hH hF
  · exact sLdA_ok ha hA hH hF
  · exact sStA_ok (ok := fun k _ => k == 100) (ok2 := fun k => k == 100) (g := fun _ x => .int x) hlk (fun n t x h1 _ => ⟨h1, rfl⟩) ha hA hH hF hP hh
  · refine sStA_ok (ok := fun k t => (k == 101 && tFit .byte t) || (k == 102 && tFit .boolean t)) (ok2 := fun k => k == 101 || k == 102) (g := fun k x => if k = 101 then narrow .byte (.int x) else narrow .boolean (.int x)) hlk (fun n t x h1 h2 => ?_) ha hA hH hF hP hh
    rcases Bool.or_eq_true_iff.mp h1 with h1 | h1
    · obtain ⟨g1, g2⟩ := Bool.and_eq_true_iff.mp h1
      have g1 : n = 101 := by simpa using g1
      have g3 := tFit_ok g2 h2
      subst g1
      refine ⟨rfl, ?_⟩
      rw [if_pos rfl]
      exact of_decide_eq_true (Bool.and_eq_true_iff.mp g3).1
    · obtain ⟨g1, g2⟩ := Bool.and_eq_true_iff.mp h1
      have g1 : n = 102 := by simpa using g1
      have g3 := tFit_ok g2 h2
      subst g1
      refine ⟨rfl, ?_⟩
      rw [if_neg (by decide)]
      exact of_decide_eq_true (Bool.and_eq_true_iff.mp g3).1
  · exact sStR_ok hlk ha hA hH hF hP hh
  · exact sCk_ok ha hA hH hF
  · cases ha
end sHok2
