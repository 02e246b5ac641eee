/-! ===== values: numbers, and the small contracts ===== -/
/-- x stands between -/
def inB (x lo hi : Int32) : Int32 := if x < lo then 0 else if hi < x then 0 else 1
theorem vr_96_0 : zrx 96 0 = some (.iload_n 0, 0, 0) := by decide +kernel
theorem vr_96_1 : zrx 96 1 = some (.ifCond .lt 8, 0, 0) := by decide +kernel
theorem vr_96_4 : zrx 96 4 = some (.iload_n 0, 0, 0) := by decide +kernel
theorem vr_96_5 : zrx 96 5 = some (.iload_n 1, 0, 0) := by decide +kernel
theorem vr_96_6 : zrx 96 6 = some (.if_icmp .lt 14, 0, 0) := by decide +kernel
theorem vr_96_9 : zrx 96 9 = some (.new 406, 1000, 0) := by decide +kernel
theorem vr_96_20 : zrx 96 20 = some (.return_, 0, 0) := by decide +kernel
theorem vr_97_0 : zrx 97 0 = some (.iload_n 0, 0, 0) := by decide +kernel
theorem vr_97_1 : zrx 97 1 = some (.iload_n 1, 0, 0) := by decide +kernel
theorem vr_97_2 : zrx 97 2 = some (.if_icmp .lt 8, 0, 0) := by decide +kernel
theorem vr_97_5 : zrx 97 5 = some (.iload_n 0, 0, 0) := by decide +kernel
theorem vr_97_6 : zrx 97 6 = some (.iload_n 2, 0, 0) := by decide +kernel
theorem vr_97_7 : zrx 97 7 = some (.if_icmp .le 14, 0, 0) := by decide +kernel
theorem vr_97_10 : zrx 97 10 = some (.new 413, 1001, 0) := by decide +kernel
theorem vr_97_21 : zrx 97 21 = some (.return_, 0, 0) := by decide +kernel
theorem vr_98_0 : zrx 98 0 = some (.iload_n 0, 0, 0) := by decide +kernel
theorem vr_98_1 : zrx 98 1 = some (.ifCond .ne 14, 0, 0) := by decide +kernel
theorem vr_98_4 : zrx 98 4 = some (.new 418, 1002, 0) := by decide +kernel
theorem vr_98_15 : zrx 98 15 = some (.return_, 0, 0) := by decide +kernel
theorem vr_131_0 : zrx 131 0 = some (.aload_n 0, 0, 0) := by decide +kernel
theorem vr_131_1 : zrx 131 1 = some (.iload_n 1, 0, 0) := by decide +kernel
theorem vr_131_2 : zrx 131 2 = some (.putfield 55, 18, 0) := by decide +kernel
theorem vr_131_5 : zrx 131 5 = some (.iconst 0, 0, 0) := by decide +kernel
theorem vr_131_6 : zrx 131 6 = some (.ireturn, 0, 0) := by decide +kernel
theorem vr_132_0 : zrx 132 0 = some (.iload_n 0, 0, 0) := by decide +kernel
theorem vr_132_1 : zrx 132 1 = some (.iload_n 1, 0, 0) := by decide +kernel
theorem vr_132_2 : zrx 132 2 = some (.if_icmp .lt 12, 0, 0) := by decide +kernel
theorem vr_132_5 : zrx 132 5 = some (.iload_n 0, 0, 0) := by decide +kernel
theorem vr_132_6 : zrx 132 6 = some (.iload_n 2, 0, 0) := by decide +kernel
theorem vr_132_7 : zrx 132 7 = some (.if_icmp .gt 7, 0, 0) := by decide +kernel
theorem vr_132_10 : zrx 132 10 = some (.iconst 1, 0, 0) := by decide +kernel
theorem vr_132_11 : zrx 132 11 = some (.goto 4, 0, 0) := by decide +kernel
theorem vr_132_14 : zrx 132 14 = some (.iconst 0, 0, 0) := by decide +kernel
theorem vr_132_15 : zrx 132 15 = some (.ireturn, 0, 0) := by decide +kernel
theorem C_in (n : Nat) (x lo hi : Int32) (h : List zC) (u : Nat) : zL zrx zi n 132 0 [(0, .int x), (1, .int lo), (2, .int hi)] [] h u (fun o h2 _ => h2 = h ∧ o = .inl (some (.int (inB x lo hi)))) := by
  refine zSiload (m := 1) (k := 0) vr_132_0 rfl rfl rfl (fun x1 e1 => ?_)
  cases e1
  refine zSiload (m := 1) (k := 1) vr_132_1 rfl rfl rfl (fun x2 e2 => ?_)
  cases e2
  refine zSb2 (f := fun x y => decide (x < y)) (off := 12) (t := 14) vr_132_2 rfl rfl rfl (fun x3 y3 e3 f3 q3 => ?_) (fun x3 y3 e3 f3 q3 => ?_)
  · cases e3
    cases f3
    refine zSp0 (pc' := 15) (st' := .int (0) :: _) vr_132_14 rfl rfl ?_
    refine zLiret vr_132_15 rfl (fun x5 e5 => ?_)
    cases e5
    refine ⟨rfl, ?_⟩
    simp_all [inB, ← Int32.not_lt]
  · cases e3
    cases f3
    refine zSiload (m := 1) (k := 0) vr_132_5 rfl rfl rfl (fun x6 e6 => ?_)
    cases e6
    refine zSiload (m := 1) (k := 2) vr_132_6 rfl rfl rfl (fun x7 e7 => ?_)
    cases e7
    refine zSb2 (f := fun x y => decide (y < x)) (off := 7) (t := 14) vr_132_7 rfl rfl rfl (fun x8 y8 e8 f8 q8 => ?_) (fun x8 y8 e8 f8 q8 => ?_)
    · cases e8
      cases f8
      refine zSp0 (pc' := 15) (st' := .int (0) :: _) vr_132_14 rfl rfl ?_
      refine zLiret vr_132_15 rfl (fun x10 e10 => ?_)
      cases e10
      refine ⟨rfl, ?_⟩
      simp_all [inB, ← Int32.not_lt]
    · cases e8
      cases f8
      refine zSp0 (pc' := 11) (st' := .int (1) :: _) vr_132_10 rfl rfl ?_
      refine zSgo (t := 15) vr_132_11 rfl rfl ?_
      refine zLiret vr_132_15 rfl (fun x13 e13 => ?_)
      cases e13
      refine ⟨rfl, ?_⟩
      simp_all [inB, ← Int32.not_lt]
theorem C_no (n : Nat) (m : Nat) (k : Int32) (h : List zC) (u : Nat) : zL zrx zi n 131 0 [(0, .ref m), (1, .int k)] [] h u (fun o h2 _ => hPut h h2 m 0 (.int k) ∧ o = .inl (some (.int 0))) := by
  refine zSaload (m := 1) (k := 0) vr_131_0 rfl rfl rfl ?_
  refine zSiload (m := 1) (k := 1) vr_131_1 rfl rfl rfl (fun x15 e15 => ?_)
  cases e15
  refine zLput vr_131_2 rfl (fun p16 k16 e16 t16 g16 => ?_)
  cases e16
  refine zSp0 (pc' := 6) (st' := .int (0) :: _) vr_131_5 rfl rfl ?_
  refine zLiret vr_131_6 rfl (fun x18 e18 => ?_)
  cases e18
  exact ⟨by assumption, rfl⟩
theorem C_needNumber (n : Nat) (x c : Int32) (h : List zC) (u : Nat) : zL zrx zi n 96 0 [(0, .int x), (1, .int c)] [] h u (fun o h2 _ => match o with
  | .inl w => h2 = h ∧ w = none ∧ ¬ x < 0 ∧ x < c
  | .inr E => E = 0 ∧ (x < 0 ∨ c ≤ x) ∧ hExt h h2) := by
  refine zSiload (m := 1) (k := 0) vr_96_0 rfl rfl rfl (fun x19 e19 => ?_)
  cases e19
  refine zSb1 (f := fun x => decide (x < 0)) (off := 8) (t := 9) vr_96_1 rfl rfl rfl (fun x20 e20 q20 => ?_) (fun x20 e20 q20 => ?_)
  · cases e20
    refine zSthrow vr_96_9 rfl (fun x21 y21 => ?_)
    refine ⟨rfl, ?_, hExt_app _ _⟩
    simp_all
  · cases e20
    refine zSiload (m := 1) (k := 0) vr_96_4 rfl rfl rfl (fun x22 e22 => ?_)
    cases e22
    refine zSiload (m := 1) (k := 1) vr_96_5 rfl rfl rfl (fun x23 e23 => ?_)
    cases e23
    refine zSb2 (f := fun x y => decide (x < y)) (off := 14) (t := 20) vr_96_6 rfl rfl rfl (fun x24 y24 e24 f24 q24 => ?_) (fun x24 y24 e24 f24 q24 => ?_)
    · cases e24
      cases f24
      refine zSvoid vr_96_20 rfl ?_
      refine ⟨rfl, rfl, ?_, ?_⟩ <;> simp_all
    · cases e24
      cases f24
      refine zSthrow vr_96_9 rfl (fun x26 y26 => ?_)
      refine ⟨rfl, ?_, hExt_app _ _⟩
      simp_all
theorem C_needValue (n : Nat) (x lo hi : Int32) (h : List zC) (u : Nat) : zL zrx zi n 97 0 [(0, .int x), (1, .int lo), (2, .int hi)] [] h u (fun o h2 _ => match o with
  | .inl w => h2 = h ∧ w = none ∧ ¬ x < lo ∧ x ≤ hi
  | .inr E => E = 1 ∧ (x < lo ∨ hi < x) ∧ hExt h h2) := by
  refine zSiload (m := 1) (k := 0) vr_97_0 rfl rfl rfl (fun x27 e27 => ?_)
  cases e27
  refine zSiload (m := 1) (k := 1) vr_97_1 rfl rfl rfl (fun x28 e28 => ?_)
  cases e28
  refine zSb2 (f := fun x y => decide (x < y)) (off := 8) (t := 10) vr_97_2 rfl rfl rfl (fun x29 y29 e29 f29 q29 => ?_) (fun x29 y29 e29 f29 q29 => ?_)
  · cases e29
    cases f29
    refine zSthrow vr_97_10 rfl (fun x30 y30 => ?_)
    refine ⟨rfl, ?_, hExt_app _ _⟩
    simp_all
  · cases e29
    cases f29
    refine zSiload (m := 1) (k := 0) vr_97_5 rfl rfl rfl (fun x31 e31 => ?_)
    cases e31
    refine zSiload (m := 1) (k := 2) vr_97_6 rfl rfl rfl (fun x32 e32 => ?_)
    cases e32
    refine zSb2 (f := fun x y => decide (x ≤ y)) (off := 14) (t := 21) vr_97_7 rfl rfl rfl (fun x33 y33 e33 f33 q33 => ?_) (fun x33 y33 e33 f33 q33 => ?_)
    · cases e33
      cases f33
      refine zSvoid vr_97_21 rfl ?_
      refine ⟨rfl, rfl, ?_, ?_⟩ <;> simp_all
    · cases e33
      cases f33
      refine zSthrow vr_97_10 rfl (fun x35 y35 => ?_)
      refine ⟨rfl, ?_, hExt_app _ _⟩
      simp_all
theorem C_needState (n : Nat) (x : Int32) (h : List zC) (u : Nat) : zL zrx zi n 98 0 [(0, .int x)] [] h u (fun o h2 _ => match o with
  | .inl w => h2 = h ∧ w = none ∧ ¬ x = 0
  | .inr E => E = 2 ∧ (x = 0) ∧ hExt h h2) := by
  refine zSiload (m := 1) (k := 0) vr_98_0 rfl rfl rfl (fun x36 e36 => ?_)
  cases e36
  refine zSb1 (f := fun x => decide (¬ x = 0)) (off := 14) (t := 15) vr_98_1 rfl rfl rfl (fun x37 e37 q37 => ?_) (fun x37 e37 q37 => ?_)
  · cases e37
    refine zSvoid vr_98_15 rfl ?_
    refine ⟨rfl, rfl, ?_⟩ <;> simp_all
  · cases e37
    refine zSthrow vr_98_4 rfl (fun x39 y39 => ?_)
    refine ⟨rfl, ?_, hExt_app _ _⟩
    simp_all
theorem C_num6 (n : Nat) (x : Int32) (h : List zC) (u : Nat) {c : Int32} {m : Int} (hc : c.toInt = m) : zL zrx zi n 96 0 [(0, .int x), (1, .int c)] [] h u (fun o h2 _ => match o with
  | .inl w => h2 = h ∧ w = none ∧ iN m x
  | .inr E => E = 0 ∧ ¬ iN m x ∧ hExt h h2) :=
  zL_K _ _ _ _ _ _ _ _ _ (C_needNumber n x c h u) (fun o h2 _ q => by
    split at q
    · obtain ⟨q1, q2, q3, q4⟩ := q
      rw [i32_lt] at q3 q4
      have z0 : (0 : Int32).toInt = 0 := rfl
      exact ⟨q1, q2, by omega, by omega⟩
    · obtain ⟨q1, q2, q3⟩ := q
      refine ⟨q1, fun ⟨w1, w2⟩ => ?_, q3⟩
      rw [i32_lt, i32_le] at q2
      have z0 : (0 : Int32).toInt = 0 := rfl
      omega)
theorem C_val (n : Nat) (x : Int32) (h : List zC) (u : Nat) (lo hi : Int32) : zL zrx zi n 97 0 [(0, .int x), (1, .int lo), (2, .int hi)] [] h u (fun o h2 _ => match o with
  | .inl w => h2 = h ∧ w = none ∧ (lo.toInt ≤ x.toInt ∧ x.toInt ≤ hi.toInt)
  | .inr E => E = 1 ∧ ¬ (lo.toInt ≤ x.toInt ∧ x.toInt ≤ hi.toInt) ∧ hExt h h2) :=
  zL_K _ _ _ _ _ _ _ _ _ (C_needValue n x lo hi h u) (fun o h2 _ q => by
    split at q
    · obtain ⟨q1, q2, q3, q4⟩ := q
      rw [i32_lt] at q3
      rw [i32_le] at q4
      exact ⟨q1, q2, by omega, by omega⟩
    · obtain ⟨q1, q2, q3⟩ := q
      refine ⟨q1, fun ⟨w1, w2⟩ => ?_, q3⟩
      rw [i32_lt, i32_lt] at q2
      omega)
theorem inB_y {x lo hi : Int32} (h : ¬ inB x lo hi = 0) : lo.toInt ≤ x.toInt ∧ x.toInt ≤ hi.toInt := by
  unfold inB at h
  split at h
  · exact absurd rfl h
  · split at h
    · exact absurd rfl h
    · rename_i a b
      rw [i32_lt] at a b
      omega
theorem inB_n {x lo hi : Int32} (h : inB x lo hi = 0) : ¬ (lo.toInt ≤ x.toInt ∧ x.toInt ≤ hi.toInt) := by
  unfold inB at h
  split at h
  · rename_i a
    rw [i32_lt] at a
    omega
  · split at h
    · rename_i a b
      rw [i32_lt] at a b
      omega
    · exact absurd h (by decide)
