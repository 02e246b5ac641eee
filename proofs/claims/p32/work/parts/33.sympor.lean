/-! ===== the abstract machine: bits, and every pure instruction ===== -/
theorem pFil {P : Nat → Bool} {i : Nat} (hP : P i = false) : ∀ l : List Nat, l.Nodup → (l.filter (fun j => P j || j == i)).length = (l.filter P).length + (if i ∈ l then 1 else 0)
  | [], _ => rfl
  | j :: l, hn => by
    have ih := pFil hP l (List.nodup_cons.mp hn).2
    have hj := (List.nodup_cons.mp hn).1
    by_cases e : j = i
    · subst e
      rw [List.filter_cons, List.filter_cons, if_pos (by simp), if_neg (by simp [hP]), if_pos List.mem_cons_self, List.length_cons, ih, if_neg hj]
    · have e2 : (i ∈ j :: l) ↔ i ∈ l := by
        rw [List.mem_cons]
        exact ⟨fun q => q.resolve_left (fun z => e z.symm), Or.inr⟩
      have e3 : (j == i) = false := by simpa using e
      rw [List.filter_cons, List.filter_cons, e3, Bool.or_false]
      simp only [e2]
      split
      · rw [List.length_cons, List.length_cons, ih]; omega
      · exact ih
theorem pSh : ∀ i : Fin 24, ∀ j : Fin 24, ((1 : Int32) <<< (Int32.ofNat i.val &&& 31)).toBitVec.getLsbD j.val = (j.val == i.val) := by decide +kernel
theorem pMd : ∀ i : Fin 24, (Int32.ofNat i.val &&& 31).toBitVec.smod 32 = BitVec.ofNat 32 i.val := by decide +kernel
theorem pNat {p : Int32} (h1 : 0 ≤ p.toInt) (h2 : p.toInt ≤ 23) : ∃ i : Fin 24, p = Int32.ofNat i.val := by
  refine ⟨⟨p.toInt.toNat, by omega⟩, ?_⟩
  apply Int32.toInt_inj.mp
  have e : (Int32.ofNat p.toInt.toNat).toInt = (p.toInt.toNat : Int) := Int32.toInt_ofNat_of_lt (by omega)
  rw [e]
  omega
theorem pSs (x y : BitVec 32) : x.sshiftRight' y = x.sshiftRight y.toNat := rfl
theorem pBit {x p : Int32} {i : Fin 24} (hp : p = Int32.ofNat i.val) (h : ((x >>> (p &&& 31)) &&& 1).toInt = 0) : x.toBitVec.getLsbD i.val = false := by
  have e0 : (x >>> (p &&& 31)) &&& 1 = 0 := Int32.toInt_inj.mp (by rw [h]; rfl)
  have e1 : ((x >>> (p &&& 31)) &&& 1).toBitVec.getLsbD 0 = false := by rw [e0]; rfl
  rw [Int32.toBitVec_and, BitVec.getLsbD_and, Int32.toBitVec_shiftRight, hp, pMd i, pSs, BitVec.getLsbD_sshiftRight] at e1
  have e2 : (BitVec.ofNat 32 i.val).toNat = i.val := by
    rw [BitVec.toNat_ofNat]
    exact Nat.mod_eq_of_lt (by omega)
  rw [e2] at e1
  have e3 : (1 : Int32).toBitVec.getLsbD 0 = true := by decide
  rw [e3, Bool.and_true] at e1
  have e4 : i.val + 0 < 32 := by omega
  simp only [Nat.add_zero] at e1
  simpa [show i.val < 32 by omega] using e1
theorem pOr {x p : Int32} {k : Int} (h1 : 0 ≤ p.toInt) (h2 : p.toInt ≤ 23) (h : ((x >>> (p &&& 31)) &&& 1).toInt = 0) (hk : k ≤ pop24 x) : k + 1 ≤ pop24 (x ||| ((1 : Int32) <<< (p &&& 31))) := by
  obtain ⟨i, hp⟩ := pNat h1 h2
  have hb := pBit hp h
  have e : pop24 (x ||| ((1 : Int32) <<< (p &&& 31))) = pop24 x + 1 := by
    unfold pop24
    have e1 := pFil (P := fun j => x.toBitVec.getLsbD j) hb (List.range 24) List.nodup_range
    rw [if_pos (List.mem_range.mpr i.isLt)] at e1
    rw [← e1]
    congr 1
    apply List.filter_congr
    intro j hj
    rw [Int32.toBitVec_or, BitVec.getLsbD_or, hp]
    congr 1
    exact pSh i ⟨j, List.mem_range.mp hj⟩
  rw [e]
  omega
theorem pTop (x : Int32) : pop24 x ≤ 24 := by
  unfold pop24
  have := List.length_filter_le (fun i => x.toBitVec.getLsbD i) (List.range 24)
  rw [List.length_range] at this
  exact this
section sPokk
variable {hb ub : Nat} {ρ : List Nat} {ν : List Value} {S : sS} {lv : List (Nat × Value)} {st : List Value} {h : List zC} {u : Nat} {succ : List (Nat × sS)} {pc : Nat}
theorem sCst {s : Nat} {a : Int32} {n : Int} (hA : gA hb ub ρ ν S lv st h u) (hs : ν[s]? = some (.int a)) (ht : sGet S.1 s = (0, n, n)) : a.toInt = n := by
  obtain ⟨b, e, h1, h2⟩ := hA.int hs (by rw [ht])
  cases e
  rw [ht] at h1 h2
  exact Int.le_antisymm h2 h1
theorem sOne_eq {s : Nat} {a : Int32} (hA : gA hb ub ρ ν S lv st h u) (hs : ν[s]? = some (.int a)) (ht : sGet S.1 s = (0, 1, 1)) : a = 1 := Int32.toInt_inj.mp (by rw [sCst hA hs ht]; rfl)
theorem sBit_ok {x y : Nat} {a b : Int32} {k : Int} (hA : gA hb ub ρ ν S lv st h u) (ex : ν[x]? = some (.int a)) (ey : ν[y]? = some (.int b)) (hk : sBit S x y = some k) : k ≤ pop24 (a ||| b) := by
  unfold sBit at hk
  obtain ⟨f, hf, hk⟩ := List.exists_of_findSome?_eq_some hk
  split at hk
  · rename_i c
    obtain ⟨c1, c2, c3, c4, c5, c6, c7⟩ := c
    split at hk
    · rename_i d
      obtain ⟨z, hz, d⟩ := List.any_eq_true.mp d
      obtain ⟨d, d6⟩ := Bool.and_eq_true_iff.mp d
      obtain ⟨d, d5⟩ := Bool.and_eq_true_iff.mp d
      obtain ⟨d, d4⟩ := Bool.and_eq_true_iff.mp d
      obtain ⟨d1, d2⟩ := Bool.and_eq_true_iff.mp d
      obtain ⟨w, hw, g⟩ := List.any_eq_true.mp d6
      obtain ⟨g, g5⟩ := Bool.and_eq_true_iff.mp g
      obtain ⟨g, g4⟩ := Bool.and_eq_true_iff.mp g
      obtain ⟨g, g3⟩ := Bool.and_eq_true_iff.mp g
      obtain ⟨g1, g2⟩ := Bool.and_eq_true_iff.mp g
      obtain ⟨q, hq, hk⟩ := List.exists_of_findSome?_eq_some hk
      split at hk
      · rename_i r
        cases hk
        have d1 : z.1 = 5 := by simpa using d1
        have g1 : w.1 = 5 := by simpa using g1
        have g2 : w.2.1 = z.2.2.1 := by simpa using g2
        have g4 : w.2.2.1 = x := by simpa using g4
        have g5 : w.2.2.2.1 = f.2.2.2.1 := by simpa using g5
        have d2 := of_decide_eq_true d2
        have d4 := of_decide_eq_true d4
        have d5 := of_decide_eq_true d5
        have g3 := of_decide_eq_true g3
        have F := hA.2.2.2.1 f hf
        have Z := hA.2.2.2.1 z hz
        have W := hA.2.2.2.1 w hw
        have Q := hA.2.2.2.1 q hq
        unfold fHold at F Z W Q
        rw [c1] at F
        rw [d1] at Z
        rw [g1] at W
        rw [r.1] at Q
        obtain ⟨o, p, f1, f2, f3⟩ := F
        obtain ⟨m, n, z1, z2, z3⟩ := Z
        obtain ⟨x2, p2, w1, w2, w3⟩ := W
        obtain ⟨x3, q1, q2⟩ := Q
        rw [r.2, ex] at q1
        cases q1
        rw [g4, ex] at w1
        cases w1
        rw [g5, f2] at w2
        cases w2
        rw [c2, ey] at f3
        cases f3
        rw [g2, z1] at w3
        have ho := sOne_eq hA f1 c4
        have hn := sOne_eq hA z2 d5
        have hz0 := sCst hA z3 d4
        have hp := hA.int f2 c7
        obtain ⟨p3, e3, p4, p5⟩ := hp
        cases e3
        rw [c3]
        rw [d2] at hz0
        rw [g3] at w3
        injection w3 with w3
        injection w3 with w3
        subst ho
        subst hn
        rw [w3] at hz0
        exact pOr (by omega) (by omega) hz0 q2
      · cases hk
    · cases hk
  · cases hk
theorem tOr_ok {x y : tT} {a b : Int32} (ha : x.2.1 ≤ a.toInt ∧ a.toInt ≤ x.2.2) (hb : y.2.1 ≤ b.toInt ∧ b.toInt ≤ y.2.2) : tHas ρ (tOr x y) (.int (a ||| b)) := by
  unfold tOr
  split
  · rename_i c
    obtain ⟨c1, c2, c3, c4⟩ := c
    have bit : ∀ z : Int32, 0 ≤ z.toInt → z.toInt ≤ 1 → z = 0 ∨ z = 1 := fun z h1 h2 => by
      rcases (show z.toInt = 0 ∨ z.toInt = 1 by omega) with e | e
      · exact Or.inl (Int32.toInt_inj.mp (by rw [e]; rfl))
      · exact Or.inr (Int32.toInt_inj.mp (by rw [e]; rfl))
    have z0 : (0 : Int32).toInt = 0 := rfl
    have z1 : (1 : Int32).toInt = 1 := rfl
    have m1 := iMx_ok x.2.1 y.2.1
    have m2 := iMx_ok x.2.2 y.2.2
    rcases bit a (by omega) (by omega) with rfl | rfl <;> rcases bit b (by omega) (by omega) with rfl | rfl
    · exact ⟨0, rfl, by dsimp only; omega, by dsimp only; omega⟩
    · exact ⟨1, rfl, by dsimp only; omega, by dsimp only; omega⟩
    · exact ⟨1, rfl, by dsimp only; omega, by dsimp only; omega⟩
    · exact ⟨1, rfl, by dsimp only; omega, by dsimp only; omega⟩
  · exact tFull _
theorem sOr_ok (ha : sOr S pc = some succ) (hA : gA hb ub ρ ν S lv st h u) : sGd hb ub ρ ν h u succ (z2 pc lv st (fun x y => .int (x ||| y))) := by
  unfold sOr at ha
  split at ha
  · rename_i y x r hs
    split at ha
    · rename_i hc
      have hT0 := hA.2.2.1
      rw [hs] at hT0
      obtain ⟨vy, st1, rfl, ey, hT1⟩ := hT0.inv
      obtain ⟨vx, st2, rfl, ex, hT⟩ := hT1.inv
      obtain ⟨b, rfl, hb1, hb2⟩ := hA.int ey hc.2
      obtain ⟨a, rfl, ha1, ha2⟩ := hA.int ex hc.1
      split at ha
      · rename_i k hk
        have hk := sBit_ok hA ex ey hk
        split at ha
        · have := pTop (a ||| b)
          omega
        · refine sPush_ok ha hA hT (tFull _) (fun q hq => ?_)
          simp only [List.mem_cons, List.not_mem_nil, or_false] at hq
          subst hq
          exact ⟨a ||| b, hA.new _, hk⟩
      · exact sPush_ok ha hA hT (tOr_ok ⟨ha1, ha2⟩ ⟨hb1, hb2⟩) (fun q hq => by cases hq)
    · cases ha
  · cases ha
theorem gAdd_ok {x y : Nat} {a b : Int32} (hA : gA hb ub ρ ν S lv st h u) (ex : ν[x]? = some (.int a)) (ey : ν[y]? = some (.int b)) (hx : tIn (sGet S.1 x) a) (hy : tIn (sGet S.1 y) b) : ∀ q ∈ gAdd S x y, fHold hb (ν ++ [.int (a + b)]) h q := by
  intro q hq
  unfold gAdd at hq
  split at hq
  · rename_i c
    obtain ⟨x1, x2⟩ := hx
    obtain ⟨y1, y2⟩ := hy
    have e : (a + b).toInt = a.toInt + b.toInt := by rw [Int32.toInt_add, tBmod (by omega) (by omega)]
    have hn := hA.new (.int (a + b))
    have fx := nExt_app ν [.int (a + b)] _ _ ex
    have fy := nExt_app ν [.int (a + b)] _ _ ey
    rcases List.mem_append.mp hq with hq | hq
    rcases List.mem_append.mp hq with hq | hq
    · split at hq
      · rename_i d
        have d := of_decide_eq_true d
        simp only [List.mem_cons, List.not_mem_nil, or_false] at hq
        rcases hq with rfl | rfl
        · exact fLe hn fx (by omega)
        · exact fLe fx hn (by omega)
      · cases hq
    · split at hq
      · rename_i d
        have d := of_decide_eq_true d
        simp only [List.mem_cons, List.not_mem_nil, or_false] at hq
        rcases hq with rfl | rfl
        · exact fLe hn fy (by omega)
        · exact fLe fy hn (by omega)
      · cases hq
    · split at hq
      · cases hq
      · simp only [List.mem_cons, List.not_mem_nil, or_false] at hq
        subst hq
        exact ⟨a, a + b, b, fx, hn, fy, e⟩
  · cases hq
theorem gSubt_ok {x y : Nat} {a b : Int32} (hA : gA hb ub ρ ν S lv st h u) (ex : ν[x]? = some (.int a)) (ey : ν[y]? = some (.int b)) (hx : tIn (sGet S.1 x) a) (hy : tIn (sGet S.1 y) b) : ∀ q ∈ gSubt S x y, fHold hb (ν ++ [.int (a - b)]) h q := by
  intro q hq
  unfold gSubt at hq
  split at hq
  · rename_i c
    obtain ⟨x1, x2⟩ := hx
    obtain ⟨y1, y2⟩ := hy
    have e : (a - b).toInt = a.toInt - b.toInt := by rw [Int32.toInt_sub, tBmod (by omega) (by omega)]
    have hn := hA.new (.int (a - b))
    have fx := nExt_app ν [.int (a - b)] _ _ ex
    have fy := nExt_app ν [.int (a - b)] _ _ ey
    rcases List.mem_append.mp hq with hq | hq
    rcases List.mem_append.mp hq with hq | hq
    · split at hq
      · rename_i d
        have d := of_decide_eq_true d
        simp only [List.mem_cons, List.not_mem_nil, or_false] at hq
        rcases hq with rfl | rfl
        · exact fLe hn fx (by omega)
        · exact fLe fx hn (by omega)
      · cases hq
    · split at hq
      · rename_i d
        have d := of_decide_eq_true d
        obtain ⟨f, hf, hq⟩ := List.mem_filterMap.mp hq
        have F := hA.2.2.2.1 f hf
        unfold fHold at F
        split at hq
        · rename_i z
          cases hq
          rw [z.1, z.2] at F
          obtain ⟨b2, w, e1, e2, e3⟩ := F
          rw [ey] at e1
          cases e1
          exact ⟨a - b, w, hn, nExt_app _ _ _ _ e2, by dsimp only; omega⟩
        · split at hq
          · rename_i z
            cases hq
            rw [z.1, z.2] at F
            obtain ⟨b2, w, e1, e2, e3⟩ := F
            rw [ey] at e1
            cases e1
            exact ⟨a - b, w, hn, nExt_app _ _ _ _ e2, by dsimp only; omega⟩
          · cases hq
      · cases hq
    · split at hq
      · cases hq
      · simp only [List.mem_cons, List.not_mem_nil, or_false] at hq
        subst hq
        exact ⟨a - b, a, b, hn, fx, fy, by omega⟩
  · cases hq
theorem gOp_ok {n : Int} {x y : Nat} {a b c : Int32} (hA : gA hb ub ρ ν S lv st h u) (ex : ν[x]? = some (.int a)) (ey : ν[y]? = some (.int b)) (hc : c = sOp n a b) : ∀ q ∈ gOp S n x y, fHold hb (ν ++ [.int c]) h q := by
  intro q hq
  unfold gOp at hq
  simp only [List.mem_cons, List.not_mem_nil, or_false] at hq
  subst hq
  subst hc
  exact ⟨a, b, nExt_app _ _ _ _ ex, nExt_app _ _ _ _ ey, hA.new _⟩
theorem gSame_ok {lo hi : Int} {x : Nat} {a c : Int32} (hA : gA hb ub ρ ν S lv st h u) (ex : ν[x]? = some (.int a)) (hx : tIn (sGet S.1 x) a) (hc : lo ≤ a.toInt → a.toInt ≤ hi → c.toInt = a.toInt) : ∀ q ∈ gSame S lo hi x, fHold hb (ν ++ [.int c]) h q := by
  intro q hq
  unfold gSame at hq
  split at hq
  · rename_i d
    have e := hc (by have := hx.1; omega) (by have := hx.2; omega)
    have hn := hA.new (.int c)
    have fx := nExt_app ν [.int c] _ _ ex
    simp only [List.mem_cons, List.not_mem_nil, or_false] at hq
    rcases hq with rfl | rfl
    · exact fLe hn fx (by omega)
    · exact fLe fx hn (by omega)
  · cases hq
end sPokk
