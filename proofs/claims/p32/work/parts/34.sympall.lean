/-! ===== the abstract machine: every pure instruction ===== -/
section sPall
variable {hb ub : Nat} {ρ : List Nat} {ν : List Value} {S : sS} {lv : List (Nat × Value)} {st : List Value} {h : List zC} {u : Nat} {succ : List (Nat × sS)} {pc : Nat}
theorem tCst_ok {x : Int32} {n : Int} (e : x.toInt = n) : tHas ρ (0, n, n) (.int x) := ⟨x, rfl, by dsimp only; omega, by dsimp only; omega⟩
theorem nil_ok {ν2 : List Value} {h2 : List zC} : ∀ f ∈ ([] : List sF), fHold hb ν2 h2 f := fun _ q => by cases q
def zDv (pc : Nat) (lv : List (Nat × Value)) (st : List Value) (f : Int32 → Int32 → Value) : zO := match st with
  | .int y :: _ => if y = 0 then none else z2 pc lv st f
  | _ => none
theorem sDiv_ok {t : tT → tT → tT} {g : Nat → Nat → List sF} {f : Int32 → Int32 → Value} (ha : (match S.2.2.1 with
    | y :: _ => if 0 < (sGet S.1 y).2.1 ∨ (sGet S.1 y).2.2 < 0 then sBin pc S t g else none
    | _ => none) = some succ) (hA : gA hb ub ρ ν S lv st h u)
    (hf : ∀ (x y : Nat) (a b : Int32), ν[x]? = some (.int a) → ν[y]? = some (.int b) → tIn (sGet S.1 x) a → tIn (sGet S.1 y) b → ¬ b = 0 → tHas ρ (t (sGet S.1 x) (sGet S.1 y)) (f a b) ∧ ∀ q ∈ g x y, fHold hb (ν ++ [f a b]) h q) : sGd hb ub ρ ν h u succ (zDv pc lv st f) := by
  split at ha
  · rename_i y0 r0 hs0
    split at ha
    · rename_i hd
      unfold sBin at ha
      split at ha
      · rename_i y x r hs
        rw [hs] at hs0
        cases hs0
        split at ha
        · rename_i hc
          have hT0 := hA.2.2.1
          rw [hs] at hT0
          obtain ⟨vy, st1, rfl, ey, hT1⟩ := hT0.inv
          obtain ⟨vx, st2, rfl, ex, hT⟩ := hT1.inv
          obtain ⟨b, rfl, hb1, hb2⟩ := hA.int ey hc.2
          obtain ⟨a, rfl, ha1, ha2⟩ := hA.int ex hc.1
          have hb0 : ¬ b = 0 := fun e => by
            subst e
            have e0 : (0 : Int32).toInt = 0 := rfl
            omega
          obtain ⟨q1, q2⟩ := hf x _ a b ex ey ⟨ha1, ha2⟩ ⟨hb1, hb2⟩ hb0
          unfold zDv
          dsimp only
          rw [if_neg hb0]
          exact sPush_ok ha hA hT q1 q2
        · cases ha
      · cases ha
    · cases ha
  · cases ha
theorem tDiv_pos {a b : Int32} (h1 : 0 ≤ a.toInt) (h2 : 1 ≤ b.toInt) : 0 ≤ (a / b).toInt ∧ (a / b).toInt ≤ a.toInt ∧ (1 ≤ a.toInt → 2 ≤ b.toInt → (a / b).toInt ≤ a.toInt - 1) := by
  have hle : a.toInt.tdiv b.toInt ≤ a.toInt := by
    rw [Int.tdiv_eq_ediv_of_nonneg h1]
    exact Int.ediv_le_self _ h1
  have h0 : 0 ≤ a.toInt.tdiv b.toInt := Int.tdiv_nonneg h1 (by omega)
  have hx := tBnd a
  have e : (a / b).toInt = a.toInt.tdiv b.toInt := by
    rw [Int32.toInt_div, tBmod (by unfold tMin; omega) (by omega)]
  refine ⟨by omega, by omega, fun h3 h4 => ?_⟩
  rw [e, Int.tdiv_eq_ediv_of_nonneg h1]
  have : a.toInt / b.toInt < a.toInt := by
    apply Int.ediv_lt_of_lt_mul (by omega)
    have : a.toInt * 2 ≤ a.toInt * b.toInt := Int.mul_le_mul_of_nonneg_left h4 (by omega)
    omega
  omega
theorem tShr_ok {a b : Int32} (h1 : 0 ≤ a.toInt) : 0 ≤ (a >>> (b &&& 31)).toInt ∧ (a >>> (b &&& 31)).toInt ≤ a.toInt := by
  have e : (a >>> (b &&& 31)).toInt = a.toInt >>> ((b &&& 31).toBitVec.smod 32).toNat := by
    show (a >>> (b &&& 31)).toBitVec.toInt = _
    rw [Int32.toBitVec_shiftRight, pSs, BitVec.toInt_sshiftRight]
    rfl
  rw [e, Int.shiftRight_eq_div_pow]
  exact ⟨Int.ediv_nonneg h1 (Int.natCast_nonneg _), Int.ediv_le_self _ h1⟩
theorem pMd32 : ∀ i : Fin 32, ((Int32.ofNat i.val &&& 31).toBitVec.smod 32).toNat = i.val := by decide +kernel
theorem tShr_cst {a b : Int32} {n : Nat} (hn : b.toInt = n) (h31 : n ≤ 31) : (a >>> (b &&& 31)).toInt = a.toInt / ((2 ^ n : Nat) : Int) := by
  have e : (a >>> (b &&& 31)).toInt = a.toInt >>> ((b &&& 31).toBitVec.smod 32).toNat := by
    show (a >>> (b &&& 31)).toBitVec.toInt = _
    rw [Int32.toBitVec_shiftRight, pSs, BitVec.toInt_sshiftRight]
    rfl
  have hb : b = Int32.ofNat n := Int32.toInt_inj.mp (by rw [hn, Int32.toInt_ofNat_of_lt (by omega)])
  rw [e, hb, pMd32 ⟨n, by omega⟩, Int.shiftRight_eq_div_pow]
theorem tShr_all {x y : tT} {a b : Int32} (hx : tIn x a) (hy : tIn y b) : tHas ρ (tShr x y) (.int (a >>> (b &&& 31))) := by
  unfold tShr
  split
  · rename_i q
    obtain ⟨q1, q2, q3⟩ := q
    have q3 := of_decide_eq_true q3
    have hb : b.toInt = (y.2.1.toNat : Int) := by have := hy.1; have := hy.2; omega
    have hp : (0 : Int) < ((2 ^ y.2.1.toNat : Nat) : Int) := by exact_mod_cast Nat.pow_pos (by decide)
    refine ⟨_, rfl, ?_, ?_⟩
    · rw [tShr_cst hb (by omega)]
      exact Int.ediv_le_ediv hp hx.1
    · rw [tShr_cst hb (by omega)]
      exact Int.ediv_le_ediv hp hx.2
  · split
    · obtain ⟨e1, e2⟩ := tShr_ok (a := a) (b := b) (by have := hx.1; omega)
      exact ⟨_, rfl, by dsimp only; omega, by dsimp only; have := hx.2; omega⟩
    · exact tFull _
theorem sShf_ok {t : tT → tT → tT} {g : Nat → Nat → List sF} {f : Int32 → Int32 → Value} (h0 : ∀ a : Int32, f a 0 = .int a) (ha : sShf S pc t g = some succ) (hA : gA hb ub ρ ν S lv st h u)
    (hf : ∀ (x y : Nat) (a b : Int32), ν[x]? = some (.int a) → ν[y]? = some (.int b) → tIn (sGet S.1 x) a → tIn (sGet S.1 y) b → tHas ρ (t (sGet S.1 x) (sGet S.1 y)) (f a b) ∧ ∀ q ∈ g x y, fHold hb (ν ++ [f a b]) h q) : sGd hb ub ρ ν h u succ (z2 pc lv st f) := by
  unfold sShf at ha
  split at ha
  · rename_i y x r hs
    split at ha
    · rename_i hc
      cases ha
      have hT0 := hA.2.2.1
      rw [hs] at hT0
      obtain ⟨vy, st1, rfl, ey, hT1⟩ := hT0.inv
      obtain ⟨vx, st2, rfl, ex, hT⟩ := hT1.inv
      obtain ⟨b, rfl, hb1, hb2⟩ := hA.int ey (by rw [hc.1])
      obtain ⟨a, rfl, ha1, ha2⟩ := hA.int ex hc.2
      rw [hc.1] at hb1 hb2
      have e0 : b = 0 := Int32.toInt_inj.mp (by show b.toInt = 0; dsimp only at hb1 hb2; omega)
      subst e0
      refine ⟨_, _, _, rfl, ν, _, List.mem_cons_self, nExt.refl ν, hA.1, hA.2.1, ?_, hA.2.2.2⟩
      rw [h0]
      exact gSt.cons ex hT
    · exact sBin_ok ha hA hf
  · cases ha
theorem sId_ok {lo hi : Int} {o : sO} {f : Int32 → Value} (h0 : ∀ a : Int32, lo ≤ a.toInt → a.toInt ≤ hi → f a = .int a) (ha : sId S pc lo hi o = some succ) (hA : gA hb ub ρ ν S lv st h u)
    (ho : o = some succ → sGd hb ub ρ ν h u succ (z1 pc lv st f)) : sGd hb ub ρ ν h u succ (z1 pc lv st f) := by
  unfold sId at ha
  split at ha
  · rename_i x r hs
    split at ha
    · rename_i hc
      cases ha
      have hT0 := hA.2.2.1
      rw [hs] at hT0
      obtain ⟨vx, st2, rfl, ex, hT⟩ := hT0.inv
      obtain ⟨a, rfl, ha1, ha2⟩ := hA.int ex hc.1
      refine ⟨_, _, _, rfl, ν, _, List.mem_cons_self, nExt.refl ν, hA.1, hA.2.1, ?_, hA.2.2.2⟩
      rw [h0 a (by omega) (by omega)]
      exact gSt.cons ex hT
    · exact ho ha
  · exact ho ha
theorem pA255 {a : Int32} (h1 : 0 ≤ a.toInt) (h2 : a.toInt ≤ 255) : a &&& 255 = a := by
  apply Int32.toBitVec_inj.mp
  rw [Int32.toBitVec_and]
  apply BitVec.eq_of_toNat_eq
  rw [BitVec.toNat_and]
  have e : a.toBitVec.toNat &&& (255 : Int32).toBitVec.toNat = a.toBitVec.toNat % 2 ^ 8 := Nat.and_two_pow_sub_one_eq_mod _ 8
  rw [e]
  have e0 : a.toInt = (a.toBitVec.toNat : Int) := by
    have e : a.toInt = a.toBitVec.toInt := rfl
    rw [e] at h1 ⊢
    rw [BitVec.toInt_eq_toNat_cond] at h1 ⊢
    have := a.toBitVec.isLt
    split at h1
    · rename_i q; rw [if_pos q]
    · omega
  omega
theorem sAn_ok {o : sO} (ha : sAn S pc o = some succ) (hA : gA hb ub ρ ν S lv st h u)
    (ho : o = some succ → sGd hb ub ρ ν h u succ (z2 pc lv st (fun x y => .int (x &&& y)))) : sGd hb ub ρ ν h u succ (z2 pc lv st (fun x y => .int (x &&& y))) := by
  unfold sAn at ha
  split at ha
  · rename_i y x r hs
    split at ha
    · rename_i hc
      cases ha
      have hT0 := hA.2.2.1
      rw [hs] at hT0
      obtain ⟨vy, st1, rfl, ey, hT1⟩ := hT0.inv
      obtain ⟨vx, st2, rfl, ex, hT⟩ := hT1.inv
      obtain ⟨b, rfl, hb1, hb2⟩ := hA.int ey (by rw [hc.1])
      obtain ⟨a, rfl, ha1, ha2⟩ := hA.int ex hc.2.1
      rw [hc.1] at hb1 hb2
      have e0 : b = 255 := Int32.toInt_inj.mp (by show b.toInt = 255; dsimp only at hb1 hb2; omega)
      subst e0
      refine ⟨_, _, _, rfl, ν, _, List.mem_cons_self, nExt.refl ν, hA.1, hA.2.1, ?_, hA.2.2.2⟩
      show gSt ν (x :: r) (Value.int (a &&& 255) :: st2)
      rw [pA255 (by omega) (by omega)]
      exact gSt.cons ex hT
    · exact ho ha
  · exact ho ha
theorem sAd_ok {o : sO} (ha : sAd S pc o = some succ) (hA : gA hb ub ρ ν S lv st h u)
    (ho : o = some succ → sGd hb ub ρ ν h u succ (z2 pc lv st (fun x y => .int (x + y)))) : sGd hb ub ρ ν h u succ (z2 pc lv st (fun x y => .int (x + y))) := by
  unfold sAd at ha
  split at ha
  · rename_i y x r hs
    split at ha
    · rename_i f hf
      cases ha
      have hT0 := hA.2.2.1
      rw [hs] at hT0
      obtain ⟨vy, st1, rfl, ey, hT1⟩ := hT0.inv
      obtain ⟨vx, st2, rfl, ex, hT⟩ := hT1.inv
      have hp := List.find?_some hf
      obtain ⟨p1, p2⟩ := Bool.and_eq_true_iff.mp hp
      obtain ⟨p2, p3⟩ := Bool.and_eq_true_iff.mp p2
      have F := hA.2.2.2.1 f (List.mem_of_find?_eq_some hf)
      unfold fHold at F
      rw [show f.1 = 12 by simpa using p1] at F
      obtain ⟨a, z, b, e1, e2, e3, e4⟩ := F
      rw [show f.2.1 = x by simpa using p2, ex] at e1
      rw [show f.2.2.2.1 = y by simpa using p3, ey] at e3
      cases e1
      cases e3
      have e5 : a + b = z := by
        apply Int32.toInt_inj.mp
        have h1 := z.toInt_lt
        have h2 := z.le_toInt
        rw [Int32.toInt_add, ← e4]
        exact tBmod (by unfold tMin; omega) (by unfold tMax; omega)
      refine ⟨_, _, _, rfl, ν, _, List.mem_cons_self, nExt.refl ν, hA.1, hA.2.1, ?_, hA.2.2.2⟩
      show gSt ν (f.2.2.1 :: r) (Value.int (a + b) :: st2)
      rw [e5]
      exact gSt.cons e2 hT
    · split at ha
      · rename_i hc
        split at ha
        · rename_i f hf
          cases ha
          have hT0 := hA.2.2.1
          rw [hs] at hT0
          obtain ⟨vy, st1, rfl, ey, hT1⟩ := hT0.inv
          obtain ⟨vx, st2, rfl, ex, hT⟩ := hT1.inv
          obtain ⟨b, rfl, hb1, hb2⟩ := hA.int ey hc.1
          have hcb := hc.2
          unfold tCst at hcb
          have hcb := of_decide_eq_true hcb
          have hp := List.find?_some hf
          obtain ⟨p1, hp⟩ := Bool.and_eq_true_iff.mp hp
          obtain ⟨p2, hp⟩ := Bool.and_eq_true_iff.mp hp
          obtain ⟨p3, hp⟩ := Bool.and_eq_true_iff.mp hp
          have p3 := of_decide_eq_true p3
          obtain ⟨g, hg, hp⟩ := List.any_eq_true.mp hp
          obtain ⟨r1, hp⟩ := Bool.and_eq_true_iff.mp hp
          obtain ⟨r2, hp⟩ := Bool.and_eq_true_iff.mp hp
          obtain ⟨r3, r4⟩ := Bool.and_eq_true_iff.mp hp
          have r4 := of_decide_eq_true r4
          have F := hA.2.2.2.1 f (List.mem_of_find?_eq_some hf)
          have G := hA.2.2.2.1 g hg
          unfold fHold at F G
          rw [show f.1 = 0 by simpa using p1] at F
          rw [show g.1 = 0 by simpa using r1] at G
          obtain ⟨z, a, e1, e2, e3⟩ := F
          obtain ⟨a2, z2, g1, g2, g3⟩ := G
          rw [show f.2.2.1 = x by simpa using p2, ex] at e2
          rw [show g.2.1 = x by simpa using r2, ex] at g1
          rw [show g.2.2.1 = f.2.1 by simpa using r3, e1] at g2
          cases e2
          cases g1
          cases g2
          have e5 : a + b = z := by
            apply Int32.toInt_inj.mp
            have h1 := z.toInt_lt
            have h2 := z.le_toInt
            have e4 : z.toInt = a.toInt + b.toInt := by omega
            rw [Int32.toInt_add, ← e4]
            exact tBmod (by unfold tMin; omega) (by unfold tMax; omega)
          refine ⟨_, _, _, rfl, ν, _, List.mem_cons_self, nExt.refl ν, hA.1, hA.2.1, ?_, hA.2.2.2⟩
          show gSt ν (f.2.1 :: r) (Value.int (a + b) :: st2)
          rw [e5]
          exact gSt.cons e1 hT
        · exact ho ha
      · exact ho ha
  · exact ho ha
theorem sA0_ok {o : sO} (ha : sA0 S pc o = some succ) (hA : gA hb ub ρ ν S lv st h u)
    (ho : o = some succ → sGd hb ub ρ ν h u succ (z2 pc lv st (fun x y => .int (x + y)))) : sGd hb ub ρ ν h u succ (z2 pc lv st (fun x y => .int (x + y))) := by
  unfold sA0 at ha
  split at ha
  · rename_i y x r hs
    split at ha
    · rename_i hc
      cases ha
      have hT0 := hA.2.2.1
      rw [hs] at hT0
      obtain ⟨vy, st1, rfl, ey, hT1⟩ := hT0.inv
      obtain ⟨vx, st2, rfl, ex, hT⟩ := hT1.inv
      obtain ⟨b, rfl, hb1, hb2⟩ := hA.int ey hc.2
      obtain ⟨a, rfl, ha1, ha2⟩ := hA.int ex (by rw [hc.1])
      rw [hc.1] at ha1 ha2
      have ha1 : (0 : Int) ≤ a.toInt := ha1
      have ha2 : a.toInt ≤ (0 : Int) := ha2
      have e0 : a = 0 := Int32.toInt_inj.mp (show a.toInt = 0 by omega)
      refine ⟨_, _, _, rfl, ν, _, List.mem_cons_self, nExt.refl ν, hA.1, hA.2.1, ?_, hA.2.2.2⟩
      show gSt ν (y :: r) (Value.int (a + b) :: st2)
      rw [e0, Int32.zero_add]
      exact gSt.cons ey hT
    · exact ho ha
  · exact ho ha
theorem sSb_ok {o : sO} (ha : sSb S pc o = some succ) (hA : gA hb ub ρ ν S lv st h u)
    (ho : o = some succ → sGd hb ub ρ ν h u succ (z2 pc lv st (fun x y => .int (x - y)))) : sGd hb ub ρ ν h u succ (z2 pc lv st (fun x y => .int (x - y))) := by
  unfold sSb at ha
  split at ha
  · rename_i y x r hs
    split at ha
    · rename_i hc
      split at ha
      · rename_i f hf
        cases ha
        have hT0 := hA.2.2.1
        rw [hs] at hT0
        obtain ⟨vy, st1, rfl, ey, hT1⟩ := hT0.inv
        obtain ⟨vx, st2, rfl, ex, hT⟩ := hT1.inv
        obtain ⟨b, rfl, hb1, hb2⟩ := hA.int ey hc.1
        have hcb := hc.2
        unfold tCst at hcb
        have hcb := of_decide_eq_true hcb
        have hp := List.find?_some hf
        obtain ⟨p1, hp⟩ := Bool.and_eq_true_iff.mp hp
        obtain ⟨p2, hp⟩ := Bool.and_eq_true_iff.mp hp
        obtain ⟨p3, hp⟩ := Bool.and_eq_true_iff.mp hp
        have p3 := of_decide_eq_true p3
        obtain ⟨g, hg, hp⟩ := List.any_eq_true.mp hp
        obtain ⟨r1, hp⟩ := Bool.and_eq_true_iff.mp hp
        obtain ⟨r2, hp⟩ := Bool.and_eq_true_iff.mp hp
        obtain ⟨r3, r4⟩ := Bool.and_eq_true_iff.mp hp
        have r4 := of_decide_eq_true r4
        have F := hA.2.2.2.1 f (List.mem_of_find?_eq_some hf)
        have G := hA.2.2.2.1 g hg
        unfold fHold at F G
        rw [show f.1 = 0 by simpa using p1] at F
        rw [show g.1 = 0 by simpa using r1] at G
        obtain ⟨z, a, e1, e2, e3⟩ := F
        obtain ⟨a2, z2, g1, g2, g3⟩ := G
        rw [show f.2.2.1 = x by simpa using p2, ex] at e2
        rw [show g.2.1 = x by simpa using r2, ex] at g1
        rw [show g.2.2.1 = f.2.1 by simpa using r3, e1] at g2
        cases e2
        cases g1
        cases g2
        have e5 : a - b = z := by
          apply Int32.toInt_inj.mp
          have h1 := z.toInt_lt
          have h2 := z.le_toInt
          have e4 : z.toInt = a.toInt - b.toInt := by omega
          rw [Int32.toInt_sub, ← e4]
          exact tBmod (by unfold tMin; omega) (by unfold tMax; omega)
        refine ⟨_, _, _, rfl, ν, _, List.mem_cons_self, nExt.refl ν, hA.1, hA.2.1, ?_, hA.2.2.2⟩
        show gSt ν (f.2.1 :: r) (Value.int (a - b) :: st2)
        rw [e5]
        exact gSt.cons e1 hT
      · exact ho ha
    · exact ho ha
  · exact ho ha
theorem sHc_ok {o : sO} {n : Int} {f : Int32 → Int32 → Value} (hn : ∀ a b, f a b = .int (sOp n a b)) (ha : sHc S pc n o = some succ) (hA : gA hb ub ρ ν S lv st h u)
    (ho : o = some succ → sGd hb ub ρ ν h u succ (z2 pc lv st f)) : sGd hb ub ρ ν h u succ (z2 pc lv st f) := by
  unfold sHc at ha
  split at ha
  · rename_i y x r hs
    split at ha
    · rename_i q hq
      cases ha
      have hT0 := hA.2.2.1
      rw [hs] at hT0
      obtain ⟨vy, st1, rfl, ey, hT1⟩ := hT0.inv
      obtain ⟨vx, st2, rfl, ex, hT⟩ := hT1.inv
      have hp := List.find?_some hq
      obtain ⟨p1, p2⟩ := Bool.and_eq_true_iff.mp hp
      obtain ⟨p2, p3⟩ := Bool.and_eq_true_iff.mp p2
      obtain ⟨p3, p4⟩ := Bool.and_eq_true_iff.mp p3
      have F := hA.2.2.2.1 q (List.mem_of_find?_eq_some hq)
      unfold fHold at F
      rw [show q.1 = 5 by simpa using p1] at F
      obtain ⟨a, b, e1, e2, e3⟩ := F
      rw [show q.2.2.1 = x by simpa using p2, ex] at e1
      rw [show q.2.2.2.1 = y by simpa using p3, ey] at e2
      cases e1
      cases e2
      rw [of_decide_eq_true p4, ← hn] at e3
      refine ⟨_, _, _, rfl, ν, _, List.mem_cons_self, nExt.refl ν, hA.1, hA.2.1, ?_, hA.2.2.2⟩
      exact gSt.cons e3 hT
    · exact ho ha
  · exact ho ha
theorem sEq_ok {x y : Nat} {a b : Int32} (hA : gA hb ub ρ ν S lv st h u) (he : sEq S x y = true) (ex : ν[x]? = some (.int a)) (ey : ν[y]? = some (.int b)) : a = b := by
  unfold sEq at he
  rcases Bool.or_eq_true_iff.mp he with he | he
  · obtain ⟨h1, h2⟩ := Bool.and_eq_true_iff.mp he
    have h1 := sK_ok hA ex ey h1
    have h2 := sK_ok hA ey ex h2
    exact Int32.toInt_inj.mp (by omega)
  · obtain ⟨h1, he⟩ := Bool.and_eq_true_iff.mp he
    obtain ⟨h2, he⟩ := Bool.and_eq_true_iff.mp he
    obtain ⟨h3, he⟩ := Bool.and_eq_true_iff.mp he
    obtain ⟨h4, h5⟩ := Bool.and_eq_true_iff.mp he
    unfold tCst at h3 h4
    have h3 := of_decide_eq_true h3
    have h4 := of_decide_eq_true h4
    have h5 := of_decide_eq_true h5
    obtain ⟨a2, q1, q2, q3⟩ := hA.int ex (by simpa using h1)
    obtain ⟨b2, r1, r2, r3⟩ := hA.int ey (by simpa using h2)
    cases q1
    cases r1
    exact Int32.toInt_inj.mp (by omega)
theorem sLc_ok (ha : sLc S pc = some succ) (hA : gA hb ub ρ ν S lv st h u) : sGd hb ub ρ ν h u succ (zl2 pc lv st (fun x y => .int (lg_cmp x y))) := by
  unfold sLc at ha
  split at ha
  · rename_i y x r hs
    split at ha
    · rename_i hc
      have hT0 := hA.2.2.1
      rw [hs] at hT0
      obtain ⟨vy, st1, rfl, ey, hT1⟩ := hT0.inv
      obtain ⟨vx, st2, rfl, ex, hT⟩ := hT1.inv
      obtain ⟨b, rfl⟩ := tHas_long (hA.1.2 _ _ ey) hc.2
      obtain ⟨a, rfl⟩ := tHas_long (hA.1.2 _ _ ex) hc.1
      refine sPush_ok ha hA hT ?_ (fun q hq => by cases hq)
      split
      · rename_i f g hf hg
        split
        · rename_i he
          have kind : ∀ (q : sF) (w : Nat), S.2.2.2.1.find? (fun f => f.1 == 17 && f.2.1 == w) = some q → ∃ n : Int32, ν[q.2.2.1]? = some (.int n) ∧ ν[w]? = some (.long n.toInt64) := fun q w hq => by
            have hp := List.find?_some hq
            obtain ⟨p1, p2⟩ := Bool.and_eq_true_iff.mp hp
            have F := hA.2.2.2.1 q (List.mem_of_find?_eq_some hq)
            unfold fHold at F
            rw [show q.1 = 17 by simpa using p1] at F
            obtain ⟨n, e1, e2⟩ := F
            rw [show q.2.1 = w by simpa using p2] at e2
            exact ⟨n, e1, e2⟩
          obtain ⟨n1, f1, f2⟩ := kind f x hf
          obtain ⟨n2, g1, g2⟩ := kind g y hg
          have e := sEq_ok hA he f1 g1
          subst e
          rw [ex] at f2
          rw [ey] at g2
          cases f2
          cases g2
          refine ⟨0, ?_, by decide, by decide⟩
          show Value.int (lg_cmp n1.toInt64 n1.toInt64) = Value.int 0
          unfold lg_cmp
          rw [if_neg (by simp), if_pos rfl]
        · exact tFull _
      · exact tFull _
    · cases ha
  · cases ha
set_option maxHeartbeats 4000000 in
theorem sP_ok {nL : Nat} {i : Instr} (ha : sP nL i pc S = some succ) (hA : gA hb ub ρ ν S lv st h u) : sGd hb ub ρ ν h u succ (zP nL i pc lv st) := by
  unfold sP at ha
  split at ha
  · split at ha
    · rename_i hc
      exact sPush_ok ha hA hA.2.2.1 (tCst_ok (tOfInt hc.1 hc.2)) nil_ok
    · cases ha
  · split at ha
    · rename_i hc
      exact sPush_ok ha hA hA.2.2.1 (tCst_ok (by rw [Int8.toInt_toInt32]; exact Int8.toInt_ofInt_of_le (by omega) (by omega))) nil_ok
    · cases ha
  · split at ha
    · rename_i hc
      exact sPush_ok ha hA hA.2.2.1 (tCst_ok (by rw [Int16.toInt_toInt32]; exact Int16.toInt_ofInt_of_le (by omega) (by omega))) nil_ok
    · cases ha
  · exact sPush_ok ha hA hA.2.2.1 ⟨_, rfl⟩ nil_ok
  · split at ha
    · rename_i hc
      subst hc
      refine sPush_ok ha hA hA.2.2.1 ⟨_, rfl⟩ (fun f hf => ?_)
      simp only [List.mem_cons, List.not_mem_nil, or_false] at hf
      subst hf
      exact ⟨_, hA.new _, by decide +kernel⟩
    · cases ha
  · exact sPush_ok ha hA hA.2.2.1 rfl nil_ok
  · exact sLd_zLI ha hA
  · exact sLd_zLI ha hA
  · exact sLd_zLL ha hA
  · exact sLd_zLL ha hA
  · exact sLd_zLD ha hA
  · exact sLd_zLD ha hA
  · exact sLd_zLA ha hA
  · exact sLd_zLA ha hA
  · exact sSt1_zSI ha hA
  · exact sSt1_zSI ha hA
  · exact sSt2_zSL ha hA
  · exact sSt2_zSL ha hA
  · exact sSt2_zSD ha hA
  · exact sSt2_zSD ha hA
  · exact sSt1_zSA ha hA
  · exact sSt1_zSA ha hA
  · exact sInc_ok ha hA
  · exact sA0_ok ha hA (fun ha => sAd_ok ha hA (fun ha => sBin_ok ha hA (fun x y a b ex ey hx hy => ⟨tRng_ok (n := a.toInt + b.toInt) (by have := hx.1; have := hy.1; omega) (by have := hx.2; have := hy.2; omega) (Int32.toInt_add a b), gAdd_ok hA ex ey hx hy⟩)))
  · exact sSb_ok ha hA (fun ha => sBin2_ok ha hA (fun x y a b ex ey hx hy => ⟨tNar_ok hA ex ey hx hy, gSubt_ok hA ex ey hx hy⟩))
  · refine sBin_ok ha hA (fun x y a b ex ey hx hy => ⟨?_, nil_ok⟩)
    unfold tMul
    split
    · rename_i q
      have e1 : (sGet S.1 x).2.1 * (sGet S.1 y).2.1 ≤ a.toInt * b.toInt := Int.mul_le_mul hx.1 hy.1 q.2 (by have := hx.1; omega)
      have e2 : a.toInt * b.toInt ≤ (sGet S.1 x).2.2 * (sGet S.1 y).2.2 := Int.mul_le_mul hx.2 hy.2 (by have := hy.1; omega) (by have := hx.1; have := hx.2; omega)
      exact tRng_ok e1 e2 (Int32.toInt_mul a b)
    · split
      · rename_i q
        have q := of_decide_eq_true q
        have hbc : b.toInt = (sGet S.1 y).2.1 := by have := hy.1; have := hy.2; omega
        split
        · rename_i q2
          rw [← hbc] at q2
          refine tRng_ok (n := a.toInt * b.toInt) ?_ ?_ (Int32.toInt_mul a b)
          · rw [← hbc]; exact Int.mul_le_mul_of_nonneg_right hx.1 q2
          · rw [← hbc]; exact Int.mul_le_mul_of_nonneg_right hx.2 q2
        · rename_i q2
          rw [← hbc] at q2
          refine tRng_ok (n := a.toInt * b.toInt) ?_ ?_ (Int32.toInt_mul a b)
          · rw [← hbc]; exact Int.mul_le_mul_of_nonpos_right hx.2 (by omega)
          · rw [← hbc]; exact Int.mul_le_mul_of_nonpos_right hx.1 (by omega)
      · exact tFull _
  · refine sAn_ok ha hA (fun ha => sHc_ok (fun _ _ => rfl) ha hA (fun ha => sBin_ok ha hA (fun x y a b ex ey hx hy => ⟨?_, gOp_ok hA ex ey rfl⟩)))
    unfold tAnd
    split
    · obtain ⟨e1, e2⟩ := tAnd_nn a b (by have := hy.1; omega)
      exact ⟨_, rfl, by dsimp only; omega, by dsimp only; have := hy.2; omega⟩
    · split
      · obtain ⟨e1, e2⟩ := tAnd_nn b a (by have := hx.1; omega)
        have e3 : a &&& b = b &&& a := Int32.and_comm a b
        exact ⟨_, rfl, by rw [e3]; dsimp only; omega, by rw [e3]; dsimp only; have := hx.2; omega⟩
      · exact tFull _
  · exact sOr_ok ha hA
  · exact sBin_ok ha hA (fun x y a b ex ey hx hy => ⟨tFull _, nil_ok⟩)
  · refine sShf_ok (fun a => ?_) ha hA (fun x y a b ex ey hx hy => ⟨tFull _, gOp_ok hA ex ey rfl⟩)
    rw [show ((0 : Int32) &&& 31) = 0 by decide, Int32.shiftLeft_zero]
  · refine sShf_ok (fun a => ?_) ha hA (fun x y a b ex ey hx hy => ⟨tShr_all hx hy, gOp_ok hA ex ey rfl⟩)
    rw [show ((0 : Int32) &&& 31) = 0 by decide, Int32.shiftRight_zero]
  · exact sBin_ok ha hA (fun x y a b ex ey hx hy => ⟨tFull _, nil_ok⟩)
  · show sGd hb ub ρ ν h u succ (zDv pc lv st (fun x y => .int (x / y)))
    refine sDiv_ok ha hA (fun x y a b ex ey hx hy hb0 => ⟨?_, ?_⟩)
    · unfold tDiv
      split
      · rename_i q
        obtain ⟨q1, q2⟩ := q
        have q2 := of_decide_eq_true q2
        have hbc : b.toInt = (sGet S.1 y).2.1 := by have := hy.1; have := hy.2; omega
        rw [← hbc]
        exact tRng_ok (n := a.toInt.tdiv b.toInt) (Int.tdiv_le_tdiv (by omega) hx.1) (Int.tdiv_le_tdiv (by omega) hx.2) (Int32.toInt_div a b)
      split
      · obtain ⟨e1, e2, -⟩ := tDiv_pos (a := a) (b := b) (by have := hx.1; omega) (by have := hy.1; omega)
        exact ⟨_, rfl, by dsimp only; omega, by dsimp only; have := hx.2; omega⟩
      · exact tFull _
    · intro q hq
      unfold gDiv at hq
      split at hq
      · rename_i c
        simp only [List.mem_cons, List.not_mem_nil, or_false] at hq
        subst hq
        obtain ⟨-, -, e3⟩ := tDiv_pos (a := a) (b := b) (by have := hx.1; omega) (by have := hy.1; omega)
        have := e3 (by have := hx.1; omega) (by have := hy.1; omega)
        exact fLe (hA.new _) (nExt_app _ _ _ _ ex) (by omega)
      · cases hq
  · show sGd hb ub ρ ν h u succ (zDv pc lv st (fun x y => .int (x - x / y * y)))
    exact sDiv_ok ha hA (fun x y a b ex ey hx hy hb0 => ⟨tFull _, nil_ok⟩)
  · refine sUn_int ha hA (fun x a ex hx => ⟨?_, nil_ok⟩)
    exact tRng_ok (n := -a.toInt) (by have := hx.2; omega) (by have := hx.1; omega) (Int32.toInt_neg a)
  · refine sUn_int ha hA (fun x a ex hx => ⟨⟨_, rfl⟩, fun q hq => ?_⟩)
    simp only [List.mem_cons, List.not_mem_nil, or_false] at hq
    subst hq
    exact ⟨a, nExt_app _ _ _ _ ex, hA.new _⟩
  · have eq : ∀ a : Int32, -128 ≤ a.toInt → a.toInt ≤ 127 → a.toInt8.toInt32.toInt = a.toInt := fun a h1 h2 => by
      rw [Int8.toInt_toInt32, Int32.toInt_toInt8]
      exact Int.bmod_eq_of_le (by omega) (by omega)
    refine sUn_int ha hA (fun x a ex hx => ⟨?_, gSame_ok hA ex hx (eq a)⟩)
    unfold tByte
    split
    · have := eq a (by have := hx.1; omega) (by have := hx.2; omega)
      exact ⟨_, rfl, by dsimp only; have := hx.1; omega, by dsimp only; have := hx.2; omega⟩
    · have h1 := a.toInt8.le_toInt
      have h2 := a.toInt8.toInt_lt
      exact ⟨_, rfl, by dsimp only; rw [Int8.toInt_toInt32]; omega, by dsimp only; rw [Int8.toInt_toInt32]; omega⟩
  · have bd : ∀ a : Int32, 0 ≤ (a.toUInt32 % 65536).toInt32.toInt ∧ (a.toUInt32 % 65536).toInt32.toInt ≤ 65535 := fun a => by
      have e1 : (a.toUInt32 % 65536).toNat = a.toUInt32.toNat % 65536 := by rw [UInt32.toNat_mod]; rfl
      have e2 : (a.toUInt32 % 65536).toInt32.toInt = ((a.toUInt32 % 65536).toNat : Int) := by
        show (a.toUInt32 % 65536).toBitVec.toInt = ((a.toUInt32 % 65536).toBitVec.toNat : Int)
        rw [BitVec.toInt_eq_toNat_cond, if_pos]
        have : (a.toUInt32 % 65536).toBitVec.toNat = a.toUInt32.toNat % 65536 := e1
        omega
      rw [e2, e1]
      omega
    have eq : ∀ a : Int32, 0 ≤ a.toInt → a.toInt ≤ 65535 → (a.toUInt32 % 65536).toInt32.toInt = a.toInt := fun a h1 h2 => by
      have e0 : a.toUInt32.toNat = a.toInt.toNat := by
        have : a.toInt = (a.toBitVec.toNat : Int) := by
          have e : a.toInt = a.toBitVec.toInt := rfl
          rw [e] at h1 ⊢
          rw [BitVec.toInt_eq_toNat_cond] at h1 ⊢
          have := a.toBitVec.isLt
          split at h1
          · rename_i q; rw [if_pos q]
          · omega
        have e : a.toUInt32.toNat = a.toBitVec.toNat := rfl
        omega
      have e1 : (a.toUInt32 % 65536).toNat = a.toUInt32.toNat % 65536 := by rw [UInt32.toNat_mod]; rfl
      have e2 : (a.toUInt32 % 65536).toInt32.toInt = ((a.toUInt32 % 65536).toNat : Int) := by
        show (a.toUInt32 % 65536).toBitVec.toInt = ((a.toUInt32 % 65536).toBitVec.toNat : Int)
        rw [BitVec.toInt_eq_toNat_cond, if_pos]
        have : (a.toUInt32 % 65536).toBitVec.toNat = a.toUInt32.toNat % 65536 := e1
        omega
      rw [e2, e1, e0, Nat.mod_eq_of_lt (by omega)]
      omega
    refine sId_ok (fun a h1 h2 => congrArg Value.int (Int32.toInt_inj.mp (eq a h1 h2))) ha hA (fun ha => sUn_int ha hA (fun x a ex hx => ⟨?_, gSame_ok hA ex hx (eq a)⟩))
    unfold tChar
    split
    · have := eq a (by have := hx.1; omega) (by have := hx.2; omega)
      exact ⟨_, rfl, by dsimp only; have := hx.1; omega, by dsimp only; have := hx.2; omega⟩
    · exact ⟨_, rfl, (bd a).1, (bd a).2⟩
  · refine sUn_int ha hA (fun x a ex hx => ⟨⟨_, rfl⟩, fun q hq => ?_⟩)
    simp only [List.mem_cons, List.not_mem_nil, or_false] at hq
    subst hq
    exact ⟨a, nExt_app _ _ _ _ ex, hA.new _⟩
  · exact sBinK_long ha hA (fun x y => ⟨_, rfl⟩)
  · exact sBinK_long ha hA (fun x y => ⟨_, rfl⟩)
  · exact sLc_ok ha hA
  · exact sUn_double ha hA (fun x => ⟨_, rfl⟩)
  · exact sBinK_double ha hA (fun x y => tFull _)
  · exact sB1_ok (by decide) (fun x => cH0 x 0) ha hA
  · exact sB1_ok (by decide) (fun x => cH1 x 0) ha hA
  · exact sB1_ok (by decide) (fun x => cH2 x 0) ha hA
  · exact sB1_ok (by decide) (fun x => cH3 x 0) ha hA
  · exact sB1_ok (by decide) (fun x => cH4 x 0) ha hA
  · exact sB1_ok (by decide) (fun x => cH5 x 0) ha hA
  · exact sB2_ok (by decide) cH0 ha hA
  · exact sB2_ok (by decide) cH1 ha hA
  · exact sB2_ok (by decide) cH2 ha hA
  · exact sB2_ok (by decide) cH3 ha hA
  · exact sB2_ok (by decide) cH4 ha hA
  · exact sB2_ok (by decide) cH5 ha hA
  · exact sGo_ok ha hA
  · exact sSw_ok ha hA
  · exact sDup_ok ha hA
  · exact sPop_ok ha hA
  · exact sDupx_ok ha hA
  · exact sDup2_ok ha hA
  · exact sPop2_ok ha hA
  · cases ha
end sPall
