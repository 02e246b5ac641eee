/-! ===== the law's loop: all its turns ===== -/
def lKK : zK := fun o _ _ => o = .inl (some (.int 1))
theorem gA.rebase {hb ub : Nat} {ρ : List Nat} {ν : List Value} {S S' : sS} {lv : List (Nat × Value)} {st : List Value} {h : List zC} {u : Nat} (m : List Nat) (hA : gA hb ub ρ ν S lv st h u) (h7 : S.2.2.2.1.all (fun f => !(f.1 == 7)) = true) (hm : mOk m (S.1, S.2.1, S.2.2.1, S.2.2.2.1, 0, 0, []) S' = true) :
    gA h.length u ρ (mv ν m) S' lv st h u ∧ ∀ s x : Nat, m[s]? = some x → ∃ v : Value, ν[x]? = some v ∧ (mv ν m)[s]? = some v := by
  have hA' : gA h.length u ρ ν (S.1, S.2.1, S.2.2.1, S.2.2.2.1, 0, 0, []) lv st h u := by
    refine ⟨hA.1, hA.2.1, hA.2.2.1, fun f hf => ?_, ?_, ?_⟩
    · have h8 := List.all_eq_true.mp h7 f hf
      exact (hA.2.2.2.1 f hf).base (by simpa using h8)
    · show (h.length : Int) - h.length ≤ 0
      omega
    · show (u : Int) - u ≤ 0
      omega
  exact mOk_ok hA' hm
theorem fAt {hb ub : Nat} {ρ : List Nat} {ν : List Value} {S : sS} {lv : List (Nat × Value)} {st : List Value} {h : List zC} {u : Nat} (k : Nat) {f : sF} (hA : gA hb ub ρ ν S lv st h u) (hf : S.2.2.2.1[k]? = some f) : fHold hb ν h f := hA.2.2.2.1 f (List.mem_of_getElem? hf)
/-- the dearest turn's slots and cells -/
def lD (R C A : Int) : Int := iMx 11800 (6030 + 72 * R + 207 * C + 169 * A)
def lDc (R C A : Int) : Int := iMx 110 (170 + 6 * R + 18 * C + 13 * A)
def lS (f : Bool) : sS := if f = true then lS_f else lS_e
/-- what holds of the numbers before a turn: i the place, R, C, A the sizes, F the feeds -/
def lAcc (f : Bool) (H U i R C A F : Int) : Prop := ∃ t : Int, 0 ≤ t ∧ i = 8 * (t + (R + C + A) + F) ∧ A + (if f = true then 1 else 0) ≤ F ∧ U ≤ 10000 + 100 * (R + C + A) + 280 * F + t * lD R C A ∧ H ≤ 3000 + 8 * (R + C + A) + 8 * F + t * lDc R C A
theorem lD_mono {R C A R' C' A' : Int} (h1 : R ≤ R') (h2 : C ≤ C') (h3 : A ≤ A') : lD R C A ≤ lD R' C' A' ∧ lDc R C A ≤ lDc R' C' A' := by
  unfold lD lDc
  obtain ⟨a1, a2, a3⟩ := iMx_ok 11800 (6030 + 72 * R + 207 * C + 169 * A)
  obtain ⟨b1, b2, b3⟩ := iMx_ok 11800 (6030 + 72 * R' + 207 * C' + 169 * A')
  obtain ⟨c1, c2, c3⟩ := iMx_ok 110 (170 + 6 * R + 18 * C + 13 * A)
  obtain ⟨d1, d2, d3⟩ := iMx_ok 110 (170 + 6 * R' + 18 * C' + 13 * A')
  omega
/-- a turn that makes nothing grow -/
theorem lAcc.dear {f : Bool} {H U H' U' i i' R C A F : Int} (h : lAcc f H U i R C A F) (hi : i' = i + 8) (hU : U' - U ≤ lD R C A) (hH : H' - H ≤ lDc R C A) (g : Bool) (hg : g = true → f = true) : lAcc g H' U' i' R C A F := by
  obtain ⟨t, t0, t1, t2, t3, t4⟩ := h
  refine ⟨t + 1, by omega, by omega, ?_, ?_, ?_⟩
  · cases g with
    | false => cases f <;> simp at t2 ⊢ <;> omega
    | true => rw [hg rfl] at t2; exact t2
  · rw [Int.add_mul, Int.one_mul]; omega
  · rw [Int.add_mul, Int.one_mul]; omega
/-- a turn that makes one more -/
theorem lAcc.grow {f g : Bool} {H U H' U' i i' R C A R' C' A' F : Int} (h : lAcc f H U i R C A F) (hi : i' = i + 8) (h1 : R ≤ R') (h2 : C ≤ C') (h3 : A ≤ A') (hq : R' + C' + A' = R + C + A + 1) (hA : A' + (if g = true then 1 else 0) ≤ A + (if f = true then 1 else 0)) (hU : U' - U ≤ 100) (hH : H' - H ≤ 8) : lAcc g H' U' i' R' C' A' F := by
  obtain ⟨t, t0, t1, t2, t3, t4⟩ := h
  obtain ⟨d1, d2⟩ := lD_mono h1 h2 h3
  have m1 := Int.mul_le_mul_of_nonneg_left d1 t0
  have m2 := Int.mul_le_mul_of_nonneg_left d2 t0
  exact ⟨t, t0, by omega, by omega, by omega, by omega⟩
/-- a feed -/
theorem lAcc.feed {f : Bool} {H U H' U' i i' R C A F : Int} (h : lAcc f H U i R C A F) (hi : i' = i + 8) (hU : U' - U ≤ 280) (hH : H' - H ≤ 8) : lAcc true H' U' i' R C A (F + 1) := by
  obtain ⟨t, t0, t1, t2, t3, t4⟩ := h
  refine ⟨t, t0, by omega, ?_, by omega, by omega⟩
  cases f <;> simp at t2 ⊢ <;> omega
theorem lTop : (List.range 41).all (fun R => (List.range 25).all (fun C => (List.range 25).all (fun A =>
    decide (10000 + 100 * (R + C + A) + 280 * A + (512 - R - C - A - A) * (max 11800 (6030 + 72 * R + 207 * C + 169 * A)) + 17920 ≤ zSN) && decide (3000 + 8 * (R + C + A) + 8 * A + (512 - R - C - A - A) * (max 110 (170 + 6 * R + 18 * C + 13 * A)) + 1152 ≤ zCM)))) = true := by decide +kernel
theorem lAcc.room {f : Bool} {H U i R C A F : Int} (h : lAcc f H U i R C A F) (hi : i ≤ 4096) (r1 : 0 ≤ R) (r2 : R ≤ 40) (c1 : 0 ≤ C) (c2 : C ≤ 24) (a1 : 0 ≤ A) (a2 : A ≤ 24) : U + 17920 ≤ zSN ∧ H + 1152 ≤ zCM := by
  obtain ⟨t, t0, t1, t2, t3, t4⟩ := h
  have q := List.all_eq_true.mp lTop R.toNat (List.mem_range.mpr (by omega))
  have q := List.all_eq_true.mp q C.toNat (List.mem_range.mpr (by omega))
  have q := List.all_eq_true.mp q A.toNat (List.mem_range.mpr (by omega))
  obtain ⟨q1, q2⟩ := Bool.and_eq_true_iff.mp q
  have q1 := of_decide_eq_true q1
  have q2 := of_decide_eq_true q2
  have hF : A ≤ F := by cases f <;> simp at t2 <;> omega
  have e1 : lD R C A = ((max 11800 (6030 + 72 * R.toNat + 207 * C.toNat + 169 * A.toNat) : Nat) : Int) := by
    unfold lD
    obtain ⟨b1, b2, b3⟩ := iMx_ok 11800 (6030 + 72 * R + 207 * C + 169 * A)
    omega
  have e2 : lDc R C A = ((max 110 (170 + 6 * R.toNat + 18 * C.toNat + 13 * A.toNat) : Nat) : Int) := by
    unfold lDc
    obtain ⟨b1, b2, b3⟩ := iMx_ok 110 (170 + 6 * R + 18 * C + 13 * A)
    omega
  rw [e1] at t3
  rw [e2] at t4
  have g1 : 11800 ≤ max 11800 (6030 + 72 * R.toNat + 207 * C.toNat + 169 * A.toNat) := Nat.le_max_left _ _
  have g2 : 110 ≤ max 110 (170 + 6 * R.toNat + 18 * C.toNat + 13 * A.toNat) := Nat.le_max_left _ _
  generalize max 11800 (6030 + 72 * R.toNat + 207 * C.toNat + 169 * A.toNat) = D at *
  generalize max 110 (170 + 6 * R.toNat + 18 * C.toNat + 13 * A.toNat) = Dc at *
  have hT : (t + (F - A)).toNat ≤ 512 - R.toNat - C.toNat - A.toNat - A.toNat := by omega
  have m1 := Nat.mul_le_mul_right D hT
  have m2 := Nat.mul_le_mul_right Dc hT
  have s1 : ((t + (F - A)).toNat : Int) = t + (F - A) := by omega
  have p1 : (((t + (F - A)).toNat * D : Nat) : Int) = t * D + (F - A) * D := by rw [Int.natCast_mul, s1, Int.add_mul]
  have p2 : (((t + (F - A)).toNat * Dc : Nat) : Int) = t * Dc + (F - A) * Dc := by rw [Int.natCast_mul, s1, Int.add_mul]
  have k1 : (F - A) * 280 ≤ (F - A) * D := Int.mul_le_mul_of_nonneg_left (by omega) (by omega)
  have k2 : (F - A) * 8 ≤ (F - A) * Dc := Int.mul_le_mul_of_nonneg_left (by omega) (by omega)
  generalize (t + (F - A)).toNat * D = X1 at *
  generalize (t + (F - A)).toNat * Dc = X2 at *
  generalize (512 - R.toNat - C.toNat - A.toNat - A.toNat) * D = Y1 at *
  generalize (512 - R.toNat - C.toNat - A.toNat - A.toNat) * Dc = Y2 at *
  generalize t * (D : Int) = Z1 at *
  generalize t * (Dc : Int) = Z2 at *
  generalize (F - A) * (D : Int) = W1 at *
  generalize (F - A) * (Dc : Int) = W2 at *
  exact ⟨by omega, by omega⟩
