/-! ===== the pilot of the value layer ===== -/
theorem vr_96_0 : zrx 96 0 = some (.iload_n 0, 0, 0) := by decide +kernel
theorem vr_96_1 : zrx 96 1 = some (.ifCond .lt 8, 0, 0) := by decide +kernel
theorem vr_96_4 : zrx 96 4 = some (.iload_n 0, 0, 0) := by decide +kernel
theorem vr_96_5 : zrx 96 5 = some (.iload_n 1, 0, 0) := by decide +kernel
theorem vr_96_6 : zrx 96 6 = some (.if_icmp .lt 14, 0, 0) := by decide +kernel
theorem vr_96_9 : zrx 96 9 = some (.new 406, 1000, 0) := by decide +kernel
theorem vr_96_20 : zrx 96 20 = some (.return_, 0, 0) := by decide +kernel
theorem vr_97_0 : zrx 97 0 = some (.iload_n 0, 0, 0) := by decide +kernel
theorem vr_97_1 : zrx 97 1 = some (.iload_n 1, 0, 0) := by decide +kernel
theorem vr_97_2 : zrx 97 2 = some (.if_icmp .lt 8, 0, 0) := by decide +kernel
theorem vr_97_5 : zrx 97 5 = some (.iload_n 0, 0, 0) := by decide +kernel
theorem vr_97_6 : zrx 97 6 = some (.iload_n 2, 0, 0) := by decide +kernel
theorem vr_97_7 : zrx 97 7 = some (.if_icmp .le 14, 0, 0) := by decide +kernel
theorem vr_97_10 : zrx 97 10 = some (.new 413, 1001, 0) := by decide +kernel
theorem vr_97_21 : zrx 97 21 = some (.return_, 0, 0) := by decide +kernel
theorem vr_127_0 : zrx 127 0 = some (.bipush 10, 0, 0) := by decide +kernel
theorem vr_127_2 : zrx 127 2 = some (.aload_n 0, 0, 0) := by decide +kernel
theorem vr_127_3 : zrx 127 3 = some (.getfield 22, 17, 3) := by decide +kernel
theorem vr_127_6 : zrx 127 6 = some (.invokestatic 37, 134, 1) := by decide +kernel
theorem vr_127_9 : zrx 127 9 = some (.aload_n 0, 0, 0) := by decide +kernel
theorem vr_127_10 : zrx 127 10 = some (.getfield 25, 17, 4) := by decide +kernel
theorem vr_127_13 : zrx 127 13 = some (.invokestatic 37, 134, 1) := by decide +kernel
theorem vr_127_16 : zrx 127 16 = some (.iadd, 0, 0) := by decide +kernel
theorem vr_127_17 : zrx 127 17 = some (.imul, 0, 0) := by decide +kernel
theorem vr_127_18 : zrx 127 18 = some (.aload_n 0, 0, 0) := by decide +kernel
theorem vr_127_19 : zrx 127 19 = some (.getfield 31, 17, 6) := by decide +kernel
theorem vr_127_22 : zrx 127 22 = some (.iadd, 0, 0) := by decide +kernel
theorem vr_127_23 : zrx 127 23 = some (.ireturn, 0, 0) := by decide +kernel
theorem vr_131_0 : zrx 131 0 = some (.aload_n 0, 0, 0) := by decide +kernel
theorem vr_131_1 : zrx 131 1 = some (.iload_n 1, 0, 0) := by decide +kernel
theorem vr_131_2 : zrx 131 2 = some (.putfield 55, 18, 0) := by decide +kernel
theorem vr_131_5 : zrx 131 5 = some (.iconst 0, 0, 0) := by decide +kernel
theorem vr_131_6 : zrx 131 6 = some (.ireturn, 0, 0) := by decide +kernel
theorem vr_132_0 : zrx 132 0 = some (.iload_n 0, 0, 0) := by decide +kernel
theorem vr_132_1 : zrx 132 1 = some (.iload_n 1, 0, 0) := by decide +kernel
theorem vr_132_2 : zrx 132 2 = some (.if_icmp .lt 12, 0, 0) := by decide +kernel
theorem vr_132_5 : zrx 132 5 = some (.iload_n 0, 0, 0) := by decide +kernel
theorem vr_132_6 : zrx 132 6 = some (.iload_n 2, 0, 0) := by decide +kernel
theorem vr_132_7 : zrx 132 7 = some (.if_icmp .gt 7, 0, 0) := by decide +kernel
theorem vr_132_10 : zrx 132 10 = some (.iconst 1, 0, 0) := by decide +kernel
theorem vr_132_11 : zrx 132 11 = some (.goto 4, 0, 0) := by decide +kernel
theorem vr_132_14 : zrx 132 14 = some (.iconst 0, 0, 0) := by decide +kernel
theorem vr_132_15 : zrx 132 15 = some (.ireturn, 0, 0) := by decide +kernel
theorem vr_134_0 : zrx 134 0 = some (.iconst 0, 0, 0) := by decide +kernel
theorem vr_134_1 : zrx 134 1 = some (.istore_n 1, 0, 0) := by decide +kernel
theorem vr_134_2 : zrx 134 2 = some (.iload_n 0, 0, 0) := by decide +kernel
theorem vr_134_3 : zrx 134 3 = some (.istore_n 2, 0, 0) := by decide +kernel
theorem vr_134_4 : zrx 134 4 = some (.iload_n 2, 0, 0) := by decide +kernel
theorem vr_134_5 : zrx 134 5 = some (.ifCond .le 16, 0, 0) := by decide +kernel
theorem vr_134_8 : zrx 134 8 = some (.iload_n 1, 0, 0) := by decide +kernel
theorem vr_134_9 : zrx 134 9 = some (.iload_n 2, 0, 0) := by decide +kernel
theorem vr_134_10 : zrx 134 10 = some (.iconst 2, 0, 0) := by decide +kernel
theorem vr_134_11 : zrx 134 11 = some (.irem, 0, 0) := by decide +kernel
theorem vr_134_12 : zrx 134 12 = some (.iadd, 0, 0) := by decide +kernel
theorem vr_134_13 : zrx 134 13 = some (.istore_n 1, 0, 0) := by decide +kernel
theorem vr_134_14 : zrx 134 14 = some (.iload_n 2, 0, 0) := by decide +kernel
theorem vr_134_15 : zrx 134 15 = some (.iconst 2, 0, 0) := by decide +kernel
theorem vr_134_16 : zrx 134 16 = some (.idiv, 0, 0) := by decide +kernel
theorem vr_134_17 : zrx 134 17 = some (.istore_n 2, 0, 0) := by decide +kernel
theorem vr_134_18 : zrx 134 18 = some (.goto (-14), 0, 0) := by decide +kernel
theorem vr_134_21 : zrx 134 21 = some (.iload_n 1, 0, 0) := by decide +kernel
theorem vr_134_22 : zrx 134 22 = some (.ireturn, 0, 0) := by decide +kernel
theorem vr_304_0 : zrx 304 0 = some (.aload_n 0, 0, 0) := by decide +kernel
theorem vr_304_1 : zrx 304 1 = some (.getfield 48, 2, 2) := by decide +kernel
theorem vr_304_4 : zrx 304 4 = some (.ireturn, 0, 0) := by decide +kernel
/-- how many bits x has, as the reference counts them -/
def szO : Nat → Int32 → Option Int32
  | 0, _ => none
  | k + 1, x => if 0 < x then (szO k (x / 2)).map (fun s => (x - x / 2 * 2) + s) else some 0
def Psz (x s : Int32) : Prop := ∃ k, szO k x = some s
theorem Psz0 {x : Int32} (h : ¬ 0 < x) : Psz x 0 := ⟨1, by unfold szO; rw [if_neg h]⟩
theorem PszS {x s : Int32} (h : 0 < x) (q : Psz (x / 2) s) : Psz x ((x - x / 2 * 2) + s) := by
  obtain ⟨k, e⟩ := q
  exact ⟨k + 1, by unfold szO; rw [if_pos h, e]; rfl⟩
/-- x stands between -/
def inB (x lo hi : Int32) : Int32 := if x < lo then 0 else if hi < x then 0 else 1
/-- h2 has all cells of h as they are -/
def hExt (h h2 : List zC) : Prop := ∀ p, p < h.length → h2[p]? = h[p]?
theorem hExt_app (h l : List zC) : hExt h (h ++ l) := fun p hp => List.getElem?_append_left hp
theorem hExt_F {h h2 : List zC} (e : hExt h h2) {p k : Nat} {w : Value} (q : gF h p k = some w) : gF h2 p k = some w := by
  have hp := gF_lt q
  unfold gF at q ⊢
  rw [e p hp]
  exact q
theorem C_size_loop : ∀ (n : Nat) (x m l : Int32) (h : List zC) (u : Nat), zL zrx zi n 134 4 [(2, .int l), (1, .int m), (0, .int x)] [] h u (fun o h2 _ => h2 = h ∧ ∃ s, Psz l s ∧ o = .inl (some (.int (m + s))))
  | 0, _, _, _, _, _ => trivial
  | n + 1, x, m, l, h, u => by
    refine zLp vr_134_4 rfl rfl ?_
    refine zSb1 (t := 21) vr_134_5 rfl rfl rfl (fun x1 e1 q1 => ?_) (fun x1 e1 q1 => ?_)
    · cases e1
      refine zSiload (m := 1) (k := 1) vr_134_21 rfl rfl rfl (fun x2 e2 => ?_)
      cases e2
      refine zLiret vr_134_22 rfl (fun x3 e3 => ?_)
      cases e3
      refine ⟨rfl, 0, Psz0 ?_, ?_⟩
      · simpa using q1
      · rw [Int32.add_zero]
    · cases e1
      refine zSiload (m := 1) (k := 1) vr_134_8 rfl rfl rfl (fun x4 e4 => ?_)
      cases e4
      refine zSiload (m := 1) (k := 2) vr_134_9 rfl rfl rfl (fun x5 e5 => ?_)
      cases e5
      refine zSp0 (pc' := 11) (st' := .int (2) :: _) vr_134_10 rfl rfl ?_
      refine zSrem vr_134_11 rfl (fun x7 y7 e7 f7 g7 => ?_)
      cases e7
      cases f7
      refine zS2 vr_134_12 rfl rfl (fun x8 y8 e8 f8 => ?_)
      cases e8
      cases f8
      refine zSistore (m := 1) (k := 1) vr_134_13 rfl rfl (fun x9 e9 => ?_)
      cases e9
      show zL zrx zi _ 134 14 [(1, _), (2, _), (0, _)] [] _ _ _
      refine zSiload (m := 1) (k := 2) vr_134_14 rfl rfl rfl (fun x10 e10 => ?_)
      cases e10
      refine zSp0 (pc' := 16) (st' := .int (2) :: _) vr_134_15 rfl rfl ?_
      refine zSdiv vr_134_16 rfl (fun x12 y12 e12 f12 g12 => ?_)
      cases e12
      cases f12
      refine zSistore (m := 1) (k := 2) vr_134_17 rfl rfl (fun x13 e13 => ?_)
      cases e13
      show zL zrx zi _ 134 18 [(2, _), (1, _), (0, _)] [] _ _ _
      refine zSgo (t := 4) vr_134_18 rfl rfl ?_
      refine zL_K _ _ _ _ _ _ _ _ _ (C_size_loop n _ _ _ _ _) (fun o h2 u2 q => ?_)
      obtain ⟨q1, s, q2, q3⟩ := q
      refine ⟨q1, _, PszS ?_ q2, ?_⟩
      · simpa using q1
      · rw [q3, Int32.add_assoc]
theorem C_size (n : Nat) (x : Int32) (h : List zC) (u : Nat) : zL zrx zi n 134 0 [(0, .int x)] [] h u (fun o h2 _ => h2 = h ∧ ∃ s, Psz x s ∧ o = .inl (some (.int s))) := by
  refine zSp0 (pc' := 1) (st' := .int (0) :: _) vr_134_0 rfl rfl ?_
  refine zSistore (m := 1) (k := 1) vr_134_1 rfl rfl (fun x16 e16 => ?_)
  cases e16
  show zL zrx zi _ 134 2 [(1, _), (0, _)] [] _ _ _
  refine zSiload (m := 1) (k := 0) vr_134_2 rfl rfl rfl (fun x17 e17 => ?_)
  cases e17
  refine zSistore (m := 1) (k := 2) vr_134_3 rfl rfl (fun x18 e18 => ?_)
  cases e18
  show zL zrx zi _ 134 4 [(2, _), (1, _), (0, _)] [] _ _ _
  refine zL_K _ _ _ _ _ _ _ _ _ (C_size_loop _ _ _ _ _ _) (fun o h2 u2 q => ?_)
  obtain ⟨q1, s, q2, q3⟩ := q
  exact ⟨q1, s, q2, by rw [q3, Int32.zero_add]⟩
theorem C_strength (n : Nat) (p : Nat) (h : List zC) (u : Nat) {a b c : Int32} (h3 : gF h p 3 = some (.int a)) (h4 : gF h p 4 = some (.int b)) (h6 : gF h p 6 = some (.int c)) : zL zrx zi n 127 0 [(0, .ref p)] [] h u (fun o h2 _ => h2 = h ∧ ∃ s t : Int32, Psz a s ∧ Psz b t ∧ o = .inl (some (.int (10 * (s + t) + c)))) := by
  refine zSp0 (pc' := 2) (st' := .int (10) :: _) vr_127_0 rfl rfl ?_
  refine zSaload (m := 1) (k := 0) vr_127_2 rfl rfl rfl ?_
  refine zLget vr_127_3 rfl (fun p21 w21 e21 t21 g21 => ?_)
  cases e21
  first | (rw [h3] at g21; cases g21) | (rw [h4] at g21; cases g21) | (rw [h6] at g21; cases g21) | skip
  refine zScall vr_127_6 rfl rfl rfl (fun m22 _ => C_size _ _ _ _) (fun v22 h22 u22 q22 => ?_) (fun E22 h22 u22 q22 => ?_)
  · obtain ⟨rfl, s22, a22, z22⟩ := q22
    cases z22
    refine zSaload (m := 1) (k := 0) vr_127_9 rfl rfl rfl ?_
    refine zLget vr_127_10 rfl (fun p24 w24 e24 t24 g24 => ?_)
    cases e24
    first | (rw [h3] at g24; cases g24) | (rw [h4] at g24; cases g24) | (rw [h6] at g24; cases g24) | skip
    refine zScall vr_127_13 rfl rfl rfl (fun m25 _ => C_size _ _ _ _) (fun v25 h25 u25 q25 => ?_) (fun E25 h25 u25 q25 => ?_)
    · obtain ⟨rfl, s25, a25, z25⟩ := q25
      cases z25
      refine zS2 vr_127_16 rfl rfl (fun x26 y26 e26 f26 => ?_)
      cases e26
      cases f26
      refine zS2 vr_127_17 rfl rfl (fun x27 y27 e27 f27 => ?_)
      cases e27
      cases f27
      refine zSaload (m := 1) (k := 0) vr_127_18 rfl rfl rfl ?_
      refine zLget vr_127_19 rfl (fun p29 w29 e29 t29 g29 => ?_)
      cases e29
      first | (rw [h3] at g29; cases g29) | (rw [h4] at g29; cases g29) | (rw [h6] at g29; cases g29) | skip
      refine zS2 vr_127_22 rfl rfl (fun x30 y30 e30 f30 => ?_)
      cases e30
      cases f30
      refine zLiret vr_127_23 rfl (fun x31 e31 => ?_)
      cases e31
      refine ⟨rfl, _, _, ?_, ?_, rfl⟩ <;> assumption
    · obtain ⟨-, _, -, z⟩ := q25
      cases z
  · obtain ⟨-, _, -, z⟩ := q22
    cases z
theorem C_in (n : Nat) (x lo hi : Int32) (h : List zC) (u : Nat) : zL zrx zi n 132 0 [(0, .int x), (1, .int lo), (2, .int hi)] [] h u (fun o h2 _ => h2 = h ∧ o = .inl (some (.int (inB x lo hi)))) := by
  refine zSiload (m := 1) (k := 0) vr_132_0 rfl rfl rfl (fun x32 e32 => ?_)
  cases e32
  refine zSiload (m := 1) (k := 1) vr_132_1 rfl rfl rfl (fun x33 e33 => ?_)
  cases e33
  refine zSb2 (t := 14) vr_132_2 rfl rfl rfl (fun x34 y34 e34 f34 q34 => ?_) (fun x34 y34 e34 f34 q34 => ?_)
  · cases e34
    cases f34
    refine zSp0 (pc' := 15) (st' := .int (0) :: _) vr_132_14 rfl rfl ?_
    refine zLiret vr_132_15 rfl (fun x36 e36 => ?_)
    cases e36
    refine ⟨rfl, ?_⟩
    simp_all [inB]
  · cases e34
    cases f34
    refine zSiload (m := 1) (k := 0) vr_132_5 rfl rfl rfl (fun x37 e37 => ?_)
    cases e37
    refine zSiload (m := 1) (k := 2) vr_132_6 rfl rfl rfl (fun x38 e38 => ?_)
    cases e38
    refine zSb2 (t := 14) vr_132_7 rfl rfl rfl (fun x39 y39 e39 f39 q39 => ?_) (fun x39 y39 e39 f39 q39 => ?_)
    · cases e39
      cases f39
      refine zSp0 (pc' := 15) (st' := .int (0) :: _) vr_132_14 rfl rfl ?_
      refine zLiret vr_132_15 rfl (fun x41 e41 => ?_)
      cases e41
      refine ⟨rfl, ?_⟩
      simp_all [inB]
    · cases e39
      cases f39
      refine zSp0 (pc' := 11) (st' := .int (1) :: _) vr_132_10 rfl rfl ?_
      refine zSgo (t := 15) vr_132_11 rfl rfl ?_
      refine zLiret vr_132_15 rfl (fun x44 e44 => ?_)
      cases e44
      refine ⟨rfl, ?_⟩
      simp_all [inB]
theorem C_no (n : Nat) (m : Nat) (k : Int32) (h : List zC) (u : Nat) : zL zrx zi n 131 0 [(0, .ref m), (1, .int k)] [] h u (fun o h2 _ => hPut h h2 m 0 (.int k) ∧ o = .inl (some (.int 0))) := by
  refine zSaload (m := 1) (k := 0) vr_131_0 rfl rfl rfl ?_
  refine zSiload (m := 1) (k := 1) vr_131_1 rfl rfl rfl (fun x46 e46 => ?_)
  cases e46
  refine zLput vr_131_2 rfl (fun p47 k47 e47 t47 g47 => ?_)
  cases e47
  refine zSp0 (pc' := 6) (st' := .int (0) :: _) vr_131_5 rfl rfl ?_
  refine zLiret vr_131_6 rfl (fun x49 e49 => ?_)
  cases e49
  exact ⟨by assumption, rfl⟩
theorem C_needNumber (n : Nat) (x c : Int32) (h : List zC) (u : Nat) : zL zrx zi n 96 0 [(0, .int x), (1, .int c)] [] h u (fun o h2 _ => match o with
  | .inl w => h2 = h ∧ w = none ∧ ¬ x < 0 ∧ x < c
  | .inr E => E = 0 ∧ (x < 0 ∨ c ≤ x) ∧ hExt h h2) := by
  refine zSiload (m := 1) (k := 0) vr_96_0 rfl rfl rfl (fun x50 e50 => ?_)
  cases e50
  refine zSb1 (t := 9) vr_96_1 rfl rfl rfl (fun x51 e51 q51 => ?_) (fun x51 e51 q51 => ?_)
  · cases e51
    refine zSthrow vr_96_9 rfl (fun x52 y52 => ?_)
    refine ⟨rfl, ?_, hExt_app _ _⟩
    simp_all
  · cases e51
    refine zSiload (m := 1) (k := 0) vr_96_4 rfl rfl rfl (fun x53 e53 => ?_)
    cases e53
    refine zSiload (m := 1) (k := 1) vr_96_5 rfl rfl rfl (fun x54 e54 => ?_)
    cases e54
    refine zSb2 (t := 20) vr_96_6 rfl rfl rfl (fun x55 y55 e55 f55 q55 => ?_) (fun x55 y55 e55 f55 q55 => ?_)
    · cases e55
      cases f55
      refine zSvoid vr_96_20 rfl ?_
      refine ⟨rfl, rfl, ?_, ?_⟩ <;> simp_all
    · cases e55
      cases f55
      refine zSthrow vr_96_9 rfl (fun x57 y57 => ?_)
      refine ⟨rfl, ?_, hExt_app _ _⟩
      simp_all
theorem C_needValue (n : Nat) (x lo hi : Int32) (h : List zC) (u : Nat) : zL zrx zi n 97 0 [(0, .int x), (1, .int lo), (2, .int hi)] [] h u (fun o h2 _ => match o with
  | .inl w => h2 = h ∧ w = none ∧ ¬ x < lo ∧ x ≤ hi
  | .inr E => E = 1 ∧ (x < lo ∨ hi < x) ∧ hExt h h2) := by
  refine zSiload (m := 1) (k := 0) vr_97_0 rfl rfl rfl (fun x58 e58 => ?_)
  cases e58
  refine zSiload (m := 1) (k := 1) vr_97_1 rfl rfl rfl (fun x59 e59 => ?_)
  cases e59
  refine zSb2 (t := 10) vr_97_2 rfl rfl rfl (fun x60 y60 e60 f60 q60 => ?_) (fun x60 y60 e60 f60 q60 => ?_)
  · cases e60
    cases f60
    refine zSthrow vr_97_10 rfl (fun x61 y61 => ?_)
    refine ⟨rfl, ?_, hExt_app _ _⟩
    simp_all
  · cases e60
    cases f60
    refine zSiload (m := 1) (k := 0) vr_97_5 rfl rfl rfl (fun x62 e62 => ?_)
    cases e62
    refine zSiload (m := 1) (k := 2) vr_97_6 rfl rfl rfl (fun x63 e63 => ?_)
    cases e63
    refine zSb2 (t := 21) vr_97_7 rfl rfl rfl (fun x64 y64 e64 f64 q64 => ?_) (fun x64 y64 e64 f64 q64 => ?_)
    · cases e64
      cases f64
      refine zSvoid vr_97_21 rfl ?_
      refine ⟨rfl, rfl, ?_, ?_⟩ <;> simp_all
    · cases e64
      cases f64
      refine zSthrow vr_97_10 rfl (fun x66 y66 => ?_)
      refine ⟨rfl, ?_, hExt_app _ _⟩
      simp_all
theorem C_lsize (n : Nat) (L : Nat) (h : List zC) (u : Nat) {s : Int32} (hs : gF h L 2 = some (.int s)) : zL zrx zi n 304 0 [(0, .ref L)] [] h u (fun o h2 _ => h2 = h ∧ o = .inl (some (.int s))) := by
  refine zSaload (m := 1) (k := 0) vr_304_0 rfl rfl rfl ?_
  refine zLget vr_304_1 rfl (fun p68 w68 e68 t68 g68 => ?_)
  cases e68
  first | (rw [hs] at g68; cases g68) | skip
  refine zLiret vr_304_4 rfl (fun x69 e69 => ?_)
  cases e69
  exact ⟨rfl, rfl⟩
