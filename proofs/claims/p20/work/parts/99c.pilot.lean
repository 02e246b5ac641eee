/-! ===== the pilot of the value layer ===== -/
theorem vr_127_0 : zrx 127 0 = some (.bipush 10, 0, 0) := by decide +kernel
theorem vr_127_2 : zrx 127 2 = some (.aload_n 0, 0, 0) := by decide +kernel
theorem vr_127_3 : zrx 127 3 = some (.getfield 22, 17, 3) := by decide +kernel
theorem vr_127_6 : zrx 127 6 = some (.invokestatic 37, 134, 1) := by decide +kernel
theorem vr_127_9 : zrx 127 9 = some (.aload_n 0, 0, 0) := by decide +kernel
theorem vr_127_10 : zrx 127 10 = some (.getfield 25, 17, 4) := by decide +kernel
theorem vr_127_13 : zrx 127 13 = some (.invokestatic 37, 134, 1) := by decide +kernel
theorem vr_127_16 : zrx 127 16 = some (.iadd, 0, 0) := by decide +kernel
theorem vr_127_17 : zrx 127 17 = some (.imul, 0, 0) := by decide +kernel
theorem vr_127_18 : zrx 127 18 = some (.aload_n 0, 0, 0) := by decide +kernel
theorem vr_127_19 : zrx 127 19 = some (.getfield 31, 17, 6) := by decide +kernel
theorem vr_127_22 : zrx 127 22 = some (.iadd, 0, 0) := by decide +kernel
theorem vr_127_23 : zrx 127 23 = some (.ireturn, 0, 0) := by decide +kernel
theorem vr_134_0 : zrx 134 0 = some (.iconst 0, 0, 0) := by decide +kernel
theorem vr_134_1 : zrx 134 1 = some (.istore_n 1, 0, 0) := by decide +kernel
theorem vr_134_2 : zrx 134 2 = some (.iload_n 0, 0, 0) := by decide +kernel
theorem vr_134_3 : zrx 134 3 = some (.istore_n 2, 0, 0) := by decide +kernel
theorem vr_134_4 : zrx 134 4 = some (.iload_n 2, 0, 0) := by decide +kernel
theorem vr_134_5 : zrx 134 5 = some (.ifCond .le 16, 0, 0) := by decide +kernel
theorem vr_134_8 : zrx 134 8 = some (.iload_n 1, 0, 0) := by decide +kernel
theorem vr_134_9 : zrx 134 9 = some (.iload_n 2, 0, 0) := by decide +kernel
theorem vr_134_10 : zrx 134 10 = some (.iconst 2, 0, 0) := by decide +kernel
theorem vr_134_11 : zrx 134 11 = some (.irem, 0, 0) := by decide +kernel
theorem vr_134_12 : zrx 134 12 = some (.iadd, 0, 0) := by decide +kernel
theorem vr_134_13 : zrx 134 13 = some (.istore_n 1, 0, 0) := by decide +kernel
theorem vr_134_14 : zrx 134 14 = some (.iload_n 2, 0, 0) := by decide +kernel
theorem vr_134_15 : zrx 134 15 = some (.iconst 2, 0, 0) := by decide +kernel
theorem vr_134_16 : zrx 134 16 = some (.idiv, 0, 0) := by decide +kernel
theorem vr_134_17 : zrx 134 17 = some (.istore_n 2, 0, 0) := by decide +kernel
theorem vr_134_18 : zrx 134 18 = some (.goto (-14), 0, 0) := by decide +kernel
theorem vr_134_21 : zrx 134 21 = some (.iload_n 1, 0, 0) := by decide +kernel
theorem vr_134_22 : zrx 134 22 = some (.ireturn, 0, 0) := by decide +kernel
/-- how many bits x has, as the reference counts them -/
def szO : Nat → Int32 → Option Int32
  | 0, _ => none
  | k + 1, x => if 0 < x then (szO k (x / 2)).map (fun s => (x - x / 2 * 2) + s) else some 0
def Psz (x s : Int32) : Prop := ∃ k, szO k x = some s
theorem Psz0 {x : Int32} (h : ¬ 0 < x) : Psz x 0 := ⟨1, by unfold szO; rw [if_neg h]⟩
theorem PszS {x s : Int32} (h : 0 < x) (q : Psz (x / 2) s) : Psz x ((x - x / 2 * 2) + s) := by
  obtain ⟨k, e⟩ := q
  exact ⟨k + 1, by unfold szO; rw [if_pos h, e]; rfl⟩
theorem C_size_loop : ∀ (n : Nat) (x m l : Int32) (h : List zC) (u : Nat), zL zrx zi n 134 4 [(2, .int l), (1, .int m), (0, .int x)] [] h u (fun o h2 _ => h2 = h ∧ ∃ s, Psz l s ∧ o = .inl (some (.int (m + s))))
  | 0, _, _, _, _, _ => trivial
  | n + 1, x, m, l, h, u => by
    refine zLp vr_134_4 rfl rfl ?_
    refine zSb1 (t := 21) vr_134_5 rfl rfl rfl (fun x1 e1 q1 => ?_) (fun x1 e1 q1 => ?_)
    · cases e1
      refine zSiload (m := 1) (k := 1) vr_134_21 rfl rfl rfl (fun x2 e2 => ?_)
      cases e2
      refine zLiret vr_134_22 (fun x3 e3 => ?_)
      cases e3
      refine ⟨rfl, 0, Psz0 ?_, ?_⟩
      · simpa using q1
      · rw [Int32.add_zero]
    · cases e1
      refine zSiload (m := 1) (k := 1) vr_134_8 rfl rfl rfl (fun x4 e4 => ?_)
      cases e4
      refine zSiload (m := 1) (k := 2) vr_134_9 rfl rfl rfl (fun x5 e5 => ?_)
      cases e5
      refine zSp0 (pc' := 11) (st' := .int (2) :: _) vr_134_10 rfl rfl ?_
      refine zSrem vr_134_11 (fun x7 y7 e7 f7 g7 => ?_)
      cases e7
      cases f7
      refine zS2 vr_134_12 rfl rfl (fun x8 y8 e8 f8 => ?_)
      cases e8
      cases f8
      refine zSistore (m := 1) (k := 1) vr_134_13 rfl rfl (fun x9 e9 => ?_)
      cases e9
      show zL zrx zi _ 134 14 [(1, _), (2, _), (0, _)] [] _ _ _
      refine zSiload (m := 1) (k := 2) vr_134_14 rfl rfl rfl (fun x10 e10 => ?_)
      cases e10
      refine zSp0 (pc' := 16) (st' := .int (2) :: _) vr_134_15 rfl rfl ?_
      refine zSdiv vr_134_16 (fun x12 y12 e12 f12 g12 => ?_)
      cases e12
      cases f12
      refine zSistore (m := 1) (k := 2) vr_134_17 rfl rfl (fun x13 e13 => ?_)
      cases e13
      show zL zrx zi _ 134 18 [(2, _), (1, _), (0, _)] [] _ _ _
      refine zSgo (t := 4) vr_134_18 rfl ?_
      refine zL_K _ _ _ _ _ _ _ _ _ (C_size_loop n _ _ _ _ _) (fun o h2 u2 q => ?_)
      obtain ⟨q1, s, q2, q3⟩ := q
      refine ⟨q1, _, PszS ?_ q2, ?_⟩
      · simpa using q1
      · rw [q3, Int32.add_assoc]
theorem C_size (n : Nat) (x : Int32) (h : List zC) (u : Nat) : zL zrx zi n 134 0 [(0, .int x)] [] h u (fun o h2 _ => h2 = h ∧ ∃ s, Psz x s ∧ o = .inl (some (.int s))) := by
  refine zSp0 (pc' := 1) (st' := .int (0) :: _) vr_134_0 rfl rfl ?_
  refine zSistore (m := 1) (k := 1) vr_134_1 rfl rfl (fun x16 e16 => ?_)
  cases e16
  show zL zrx zi _ 134 2 [(1, _), (0, _)] [] _ _ _
  refine zSiload (m := 1) (k := 0) vr_134_2 rfl rfl rfl (fun x17 e17 => ?_)
  cases e17
  refine zSistore (m := 1) (k := 2) vr_134_3 rfl rfl (fun x18 e18 => ?_)
  cases e18
  show zL zrx zi _ 134 4 [(2, _), (1, _), (0, _)] [] _ _ _
  refine zL_K _ _ _ _ _ _ _ _ _ (C_size_loop _ _ _ _ _ _) (fun o h2 u2 q => ?_)
  obtain ⟨q1, s, q2, q3⟩ := q
  exact ⟨q1, s, q2, by rw [q3, Int32.zero_add]⟩
theorem C_strength (n p : Nat) (h : List zC) (u : Nat) {a b c : Int32} (h3 : gF h p 3 = some (.int a)) (h4 : gF h p 4 = some (.int b)) (h6 : gF h p 6 = some (.int c)) : zL zrx zi n 127 0 [(0, .ref p)] [] h u (fun o h2 _ => h2 = h ∧ ∃ s t : Int32, Psz a s ∧ Psz b t ∧ o = .inl (some (.int (10 * (s + t) + c)))) := by
  refine zSp0 (pc' := 2) (st' := .int (10) :: _) vr_127_0 rfl rfl ?_
  refine zSaload (m := 1) (k := 0) vr_127_2 rfl rfl rfl ?_
  refine zLget vr_127_3 rfl (fun p21 w21 e21 g21 => ?_)
  cases e21
  first | (rw [h3] at g21; cases g21) | (rw [h4] at g21; cases g21) | (rw [h6] at g21; cases g21) | skip
  refine zScall vr_127_6 rfl rfl rfl (fun m22 _ => C_size _ _ _ _) (fun v22 h22 u22 q22 => ?_) (fun E22 h22 u22 q22 => ?_)
  · obtain ⟨rfl, s22, a22, z22⟩ := q22
    cases z22
    refine zSaload (m := 1) (k := 0) vr_127_9 rfl rfl rfl ?_
    refine zLget vr_127_10 rfl (fun p24 w24 e24 g24 => ?_)
    cases e24
    first | (rw [h3] at g24; cases g24) | (rw [h4] at g24; cases g24) | (rw [h6] at g24; cases g24) | skip
    refine zScall vr_127_13 rfl rfl rfl (fun m25 _ => C_size _ _ _ _) (fun v25 h25 u25 q25 => ?_) (fun E25 h25 u25 q25 => ?_)
    · obtain ⟨rfl, s25, a25, z25⟩ := q25
      cases z25
      refine zS2 vr_127_16 rfl rfl (fun x26 y26 e26 f26 => ?_)
      cases e26
      cases f26
      refine zS2 vr_127_17 rfl rfl (fun x27 y27 e27 f27 => ?_)
      cases e27
      cases f27
      refine zSaload (m := 1) (k := 0) vr_127_18 rfl rfl rfl ?_
      refine zLget vr_127_19 rfl (fun p29 w29 e29 g29 => ?_)
      cases e29
      first | (rw [h3] at g29; cases g29) | (rw [h4] at g29; cases g29) | (rw [h6] at g29; cases g29) | skip
      refine zS2 vr_127_22 rfl rfl (fun x30 y30 e30 f30 => ?_)
      cases e30
      cases f30
      refine zLiret vr_127_23 (fun x31 e31 => ?_)
      cases e31
      refine ⟨rfl, _, _, ?_, ?_, rfl⟩ <;> assumption
    · obtain ⟨-, _, -, z⟩ := q25
      cases z
  · obtain ⟨-, _, -, z⟩ := q22
    cases z
