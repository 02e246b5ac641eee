/-! ===== values: heads, on ===== -/
/-! ===== values: the wordings ===== -/
theorem st_16_5 {h : List zC} (hS : Stc h) : gF h 16 5 = some (.ref 18) := hS.2 (16, 5, 18) (by decide +kernel)
theorem st_213_5 {h : List zC} (hS : Stc h) : gF h 213 5 = some (.ref 215) := hS.2 (213, 5, 215) (by decide +kernel)
theorem st_row {h : List zC} (hS : Stc h) {i : Nat} (hi : i < 6) : gF h 18 i = some (.ref (19 + i)) := hS.2 (18, i, 19 + i) (by
  have : ∀ i, i < 6 → (18, i, 19 + i) ∈ stL := by decide
  exact this i hi)
theorem st_mrow {h : List zC} (hS : Stc h) {i : Nat} (hi : i < 6) : gF h 215 i = some (.ref (216 + i)) := hS.2 (215, i, 216 + i) (by
  have : ∀ i, i < 6 → (215, i, 216 + i) ∈ stL := by decide
  exact this i hi)
theorem Stc.row {h h' : List zC} (hS : Stc h) {i b : Nat} {v : Value} (hi : i < 6) (H : hPut h h' (19 + i) b v) : Stc h' := hS.put H (stL_no (fun p => decide (19 ≤ p) && decide (p < 25)) (by decide) (by simp; omega))
theorem Stc.mrow {h h' : List zC} (hS : Stc h) {i b : Nat} {v : Value} (hi : i < 6) (H : hPut h h' (216 + i) b v) : Stc h' := hS.put H (stL_no (fun p => decide (216 ≤ p) && decide (p < 222)) (by decide) (by simp; omega))
/-- one swap in the row q -/
abbrev wSw (h h2 : List zC) (q a b : Nat) (r : Value) : Prop := ∃ (x y z : Int32) (h1 : List zC), gF h q a = some (.int x) ∧ gF h q b = some (.int y) ∧ hPut h h1 q a (.int y) ∧ hPut h1 h2 q b (.int x) ∧ gF h2 q a = some (.int z) ∧ r = .int z
theorem in6_y {x : Int32} (h : ¬ inB x 0 5 = 0) : iN 6 x := by
  obtain ⟨h1, h2⟩ := inB_y h
  have z5 : (5 : Int32).toInt = 5 := rfl
  have z0 : (0 : Int32).toInt = 0 := rfl
  exact ⟨by omega, by omega⟩
theorem in6_n {x : Int32} (h : inB x 0 5 = 0) : ¬ iN 6 x := fun ⟨h1, h2⟩ => inB_n h (by
  have z5 : (5 : Int32).toInt = 5 := rfl
  have z0 : (0 : Int32).toInt = 0 := rfl
  omega)
/-! ===== values: what is true of a clause that was read ===== -/
/-- the least and the greatest amount, as the reference reckons them of the limits -/
def lsF (F : Nat → Int32) : Nat → Int32
  | 0 => 0
  | k + 1 => if sg2 (F (9 + k)) = 2 then mxI (lsF F k) (F (11 + k) + 1) else lsF F k
def msF (F : Nat → Int32) : Nat → Int32
  | 0 => 999
  | k + 1 => if sg2 (F (9 + k)) = 1 then mnI (msF F k) (F (11 + k) - 1) else msF F k
def lmI (F : Nat → Int32) : Prop := f8 F ∧ F 4 = lsF F (F 8).toNatClampNeg ∧ F 5 = msF F (F 8).toNatClampNeg ∧ ∀ k, k < (F 8).toNatClampNeg → (F (9 + k) = 60 ∨ F (9 + k) = 62) ∧ 0 ≤ (F (11 + k)).toInt ∧ (F (11 + k)).toInt ≤ 999
def ouI (nb x : Int32) : Prop := (0 ≤ x.toInt ∧ x.toInt ≤ 100) ∨ x = -1 ∨ ∃ n : Int32, 0 ≤ n.toInt ∧ n.toInt < nb.toInt ∧ x = -2 - n
def exI (nb x : Int32) : Prop := x = -1 ∨ (0 ≤ x.toInt ∧ x.toInt < nb.toInt)
theorem lsF_same {F G : Nat → Int32} {n : Nat} (h : ∀ k, k < n → F (9 + k) = G (9 + k) ∧ F (11 + k) = G (11 + k)) : ∀ k, k ≤ n → lsF F k = lsF G k ∧ msF F k = msF G k
  | 0, _ => ⟨rfl, rfl⟩
  | k + 1, hk => by
    obtain ⟨a, b⟩ := lsF_same h k (by omega)
    obtain ⟨c, d⟩ := h k (by omega)
    unfold lsF msF
    rw [a, b, c, d]
    exact ⟨rfl, rfl⟩
theorem f8_2 {F : Nat → Int32} (h : f8 F) : (F 8).toNatClampNeg ≤ 2 := by
  rcases h with z | z | z <;> rw [z] <;> decide
theorem lmI_up {F : Nat → Int32} {k : Nat} {x : Int32} (h : lmI F) (hk : k < 4 ∨ k = 6 ∨ k = 7) : lmI (upF F k x) := by
  obtain ⟨h1, h2, h3, h4⟩ := h
  have e : ∀ j, ¬ j = k → upF F k x j = F j := fun j hj => upF_ne hj
  have n2 := f8_2 h1
  have e8 := e 8 (by omega)
  refine ⟨h1.upF (by omega), ?_, ?_, fun j hj => ?_⟩
  · rw [e 4 (by omega), e8, h2]
    exact (lsF_same (n := 2) (fun j hj => ⟨(e _ (by omega)).symm, (e _ (by omega)).symm⟩) _ n2).1
  · rw [e 5 (by omega), e8, h3]
    exact (lsF_same (n := 2) (fun j hj => ⟨(e _ (by omega)).symm, (e _ (by omega)).symm⟩) _ n2).2
  · rw [e8] at hj
    rw [e _ (by omega), e _ (by omega)]
    exact h4 j hj
theorem adL_at (F : Nat → Int32) (s x : Int32) (j : Nat) : adL F s x j = if j = 8 then F 8 + 1 else if j = 11 + (F 8).toNatClampNeg then x else if j = 9 + (F 8).toNatClampNeg then s else F j := rfl
theorem adF_at (F : Nat → Int32) (s x : Int32) (j : Nat) : adF F s x j = if s = 60 then (if j = 5 then mnI (F 5) (x - 1) else adL F s x j) else (if j = 4 then mxI (F 4) (x + 1) else adL F s x j) := by
  unfold adF
  by_cases z : s = 60
  · rw [if_pos z, if_pos z]
    rfl
  · rw [if_neg z, if_neg z]
    rfl
theorem adF_o {F : Nat → Int32} {s x : Int32} {j : Nat} (hj : j = 6 ∨ j = 7) : adF F s x j = F j := by
  rw [adF_at, adL_at, if_neg (show ¬ j = 5 by omega), if_neg (show ¬ j = 4 by omega), if_neg (show ¬ j = 8 by omega), if_neg (show ¬ j = 11 + (F 8).toNatClampNeg by omega), if_neg (show ¬ j = 9 + (F 8).toNatClampNeg by omega)]
  by_cases z : s = 60
  · rw [if_pos z]
  · rw [if_neg z]
theorem lmI.ad {F : Nat → Int32} {s x : Int32} (h : lmI F) (hs : s = 60 ∨ s = 62) (h2 : ¬ F 8 = 2) (hx : 0 ≤ x.toInt ∧ x.toInt ≤ 999) : lmI (adF F s x) := by
  obtain ⟨h1, h4, h5, h6⟩ := h
  have f := h1.ad (s := s) (x := x) h2
  have nn : (F 8).toNatClampNeg = 0 ∧ F 8 + 1 = 1 ∨ (F 8).toNatClampNeg = 1 ∧ F 8 + 1 = 2 := by
    rcases h1 with z | z | z
    · rw [z]
      exact Or.inl ⟨rfl, rfl⟩
    · rw [z]
      exact Or.inr ⟨rfl, rfl⟩
    · exact absurd z h2
  have key : ∀ j, adF F s x j = if j = 4 then (if s = 60 then F 4 else mxI (F 4) (x + 1)) else if j = 5 then (if s = 60 then mnI (F 5) (x - 1) else F 5) else if j = 8 then F 8 + 1 else if j = 11 + (F 8).toNatClampNeg then x else if j = 9 + (F 8).toNatClampNeg then s else F j := fun j => by
    rw [adF_at]
    by_cases w : j = 4
    · subst w
      rw [if_neg (show ¬ (4 : Nat) = 5 by decide), if_pos (rfl : (4 : Nat) = 4), if_pos (rfl : (4 : Nat) = 4), adL_at, if_neg (show ¬ (4 : Nat) = 8 by decide), if_neg (show ¬ 4 = 11 + (F 8).toNatClampNeg by omega), if_neg (show ¬ 4 = 9 + (F 8).toNatClampNeg by omega)]
    · rw [if_neg w, if_neg w, adL_at]
      by_cases y : j = 5
      · subst y
        rw [if_pos (rfl : (5 : Nat) = 5), if_pos (rfl : (5 : Nat) = 5), if_neg (show ¬ (5 : Nat) = 8 by decide), if_neg (show ¬ 5 = 11 + (F 8).toNatClampNeg by omega), if_neg (show ¬ 5 = 9 + (F 8).toNatClampNeg by omega)]
      · rw [if_neg y, if_neg y]
        by_cases z : s = 60
        · rw [if_pos z]
        · rw [if_neg z]
  have e8 : adF F s x 8 = F 8 + 1 := by
    rw [key 8, if_neg (by decide), if_neg (by decide), if_pos rfl]
  have old : ∀ k, k < (F 8).toNatClampNeg → adF F s x (9 + k) = F (9 + k) ∧ adF F s x (11 + k) = F (11 + k) := fun k hk => by
    rw [key, key, if_neg (by omega), if_neg (by omega), if_neg (by omega), if_neg (by omega), if_neg (by omega), if_neg (by omega), if_neg (by omega), if_neg (by omega), if_neg (by omega), if_neg (by omega)]
    exact ⟨rfl, rfl⟩
  have a9 : adF F s x (9 + (F 8).toNatClampNeg) = s := by
    rw [key, if_neg (by omega), if_neg (by omega), if_neg (by omega), if_neg (by omega), if_pos rfl]
  have a11 : adF F s x (11 + (F 8).toNatClampNeg) = x := by
    rw [key, if_neg (by omega), if_neg (by omega), if_neg (by omega), if_pos rfl]
  have n1 : (F 8 + 1).toNatClampNeg = (F 8).toNatClampNeg + 1 := by
    rcases nn with ⟨a, b⟩ | ⟨a, b⟩ <;> rw [a, b] <;> rfl
  obtain ⟨o1, o2⟩ := lsF_same (F := adF F s x) (G := F) old _ (Nat.le_refl _)
  refine ⟨f, ?_, ?_, fun k hk => ?_⟩
  · rw [e8, n1]
    unfold lsF
    rw [a9, a11, o1, ← h4, key 4, if_pos rfl]
    rcases hs with z | z
    · rw [z]
      rfl
    · rw [z]
      rfl
  · rw [e8, n1]
    unfold msF
    rw [a9, a11, o2, ← h5, key 5, if_neg (by decide), if_pos rfl]
    rcases hs with z | z
    · rw [z]
      rfl
    · rw [z]
      rfl
  · rw [e8, n1] at hk
    by_cases z : k = (F 8).toNatClampNeg
    · subst z
      rw [a9, a11]
      exact ⟨hs, hx⟩
    · obtain ⟨q1, q2⟩ := old k (by omega)
      rw [q1, q2]
      exact h6 k (by omega)
theorem lmI_z : lmI Fz := ⟨Or.inl rfl, rfl, rfl, fun k hk => absurd hk (Nat.not_lt_zero k)⟩
/-- a digit, a number -/
theorem tkD10 {T : Nat → Int32} {L p : Nat} : (tkD T L 10 p).1 = -1 ∨ (0 ≤ (tkD T L 10 p).1.toInt ∧ (tkD T L 10 p).1.toInt ≤ 9) := by
  unfold tkD
  by_cases z : sg T L p < 48 ∨ 48 + 10 ≤ sg T L p
  · rw [if_pos z]
    exact Or.inl rfl
  · rw [if_neg z]
    have z58 : ((48 : Int32) + 10).toInt = 58 := rfl
    have a : ¬ sg T L p < 48 := fun y => z (Or.inl y)
    have b : ¬ 48 + 10 ≤ sg T L p := fun y => z (Or.inr y)
    rw [i32_lt, z48] at a
    rw [i32_le, z58] at b
    have r : rI 48 57 (sg T L p) := ⟨by rw [z48]; omega, by rw [z57]; omega⟩
    have e := d48 r
    exact Or.inr ⟨by show 0 ≤ (sg T L p - 48).toInt; omega, by show (sg T L p - 48).toInt ≤ 9; omega⟩
theorem nu10 {x y : Int32} (hx : 0 ≤ x.toInt ∧ x.toInt ≤ 99) (hy : 0 ≤ y.toInt ∧ y.toInt ≤ 9) : (x * 10 + y).toInt = x.toInt * 10 + y.toInt := by
  have e : (x * 10).toInt = x.toInt * 10 := by
    rw [Int32.toInt_mul, z10]
    exact Int.bmod_eq_of_le (by omega) (by omega)
  rw [Int32.toInt_add, e]
  exact Int.bmod_eq_of_le (by omega) (by omega)
theorem nuF_1 {T : Nat → Int32} {L : Nat} (x : Int32 × Nat) (h : 0 ≤ x.1.toInt ∧ x.1.toInt ≤ 99) : 0 ≤ (nuF T L 1 x).1.toInt ∧ (nuF T L 1 x).1.toInt ≤ 999 := by
  by_cases a : x.1 = -1 ∨ L ≤ x.2 ∨ T x.2 = 32
  · rw [nuF_s a]
    omega
  · rcases tkD10 (T := T) (L := L) (p := x.2) with d | d
    · rw [nuF_n a d]
      exact ⟨h.1, by show x.1.toInt ≤ 999; omega⟩
    · rw [nuF_y a (nn1 d.1)]
      show 0 ≤ (x.1 * 10 + (tkD T L 10 x.2).1).toInt ∧ (x.1 * 10 + (tkD T L 10 x.2).1).toInt ≤ 999
      rw [nu10 h d]
      omega
theorem nuF_2 {T : Nat → Int32} {L : Nat} (x : Int32 × Nat) (h : x.1 = -1 ∨ (0 ≤ x.1.toInt ∧ x.1.toInt ≤ 9)) : (nuF T L 2 x).1 = -1 ∨ (0 ≤ (nuF T L 2 x).1.toInt ∧ (nuF T L 2 x).1.toInt ≤ 999) := by
  by_cases a : x.1 = -1 ∨ L ≤ x.2 ∨ T x.2 = 32
  · rw [nuF_s a]
    rcases h with h | h
    · exact Or.inl h
    · exact Or.inr ⟨h.1, by omega⟩
  · have h : 0 ≤ x.1.toInt ∧ x.1.toInt ≤ 9 := by
      rcases h with h | h
      · exact absurd (Or.inl h) a
      · exact h
    rcases tkD10 (T := T) (L := L) (p := x.2) with d | d
    · rw [nuF_n a d]
      exact Or.inr ⟨h.1, by show x.1.toInt ≤ 999; omega⟩
    · rw [nuF_y a (nn1 d.1)]
      refine Or.inr (nuF_1 _ ?_)
      show 0 ≤ (x.1 * 10 + (tkD T L 10 x.2).1).toInt ∧ (x.1 * 10 + (tkD T L 10 x.2).1).toInt ≤ 99
      rw [nu10 ⟨h.1, by omega⟩ d]
      omega
theorem tkN_v {T : Nat → Int32} {L p : Nat} {m : Int32} (h : ¬ (tkN T L m p).1 = -1) : 0 ≤ (tkN T L m p).1.toInt ∧ (tkN T L m p).1.toInt ≤ 999 ∧ (tkN T L m p).1.toInt ≤ m.toInt := by
  have e : (tkN T L m p).1 = if m < (nuF T L 2 (tkD T L 10 p)).1 then -1 else (nuF T L 2 (tkD T L 10 p)).1 := rfl
  rw [e] at h ⊢
  by_cases z : m < (nuF T L 2 (tkD T L 10 p)).1
  · rw [if_pos z] at h
    exact absurd rfl h
  · rw [if_neg z] at h ⊢
    rw [i32_lt] at z
    rcases nuF_2 (T := T) (L := L) (tkD T L 10 p) tkD10 with q | q
    · exact absurd q h
    · exact ⟨q.1, q.2, by omega⟩
/-- a condition, the conditions -/
theorem pCon_i {T : Nat → Int32} {L p : Nat} {F : Nat → Int32} {y : Nat × (Nat → Int32)} (e : pCon T L p F = some y) (h : lmI F) : lmI y.2 ∧ y.2 6 = F 6 ∧ y.2 7 = F 7 := by
  unfold pCon at e
  have up : ∀ k x, k < 4 → lmI (upF F k x) ∧ upF F k x 6 = F 6 ∧ upF F k x 7 = F 7 := fun k x hk => ⟨lmI_up h (Or.inl hk), upF_ne (by omega), upF_ne (by omega)⟩
  by_cases a : sg T L p = 43 ∨ sg T L p = 45
  · rw [if_pos a] at e
    by_cases b : (tkD T L 6 (skp T L p + 1)).1 = -1
    · rw [if_pos b] at e
      cases e
    · rw [if_neg b] at e
      cases e
      dsimp only
      by_cases c : sg T L p = 43
      · rw [if_pos c]
        exact up 2 _ (by omega)
      · rw [if_neg c]
        exact up 3 _ (by omega)
  · rw [if_neg a] at e
    by_cases b : sg T L p = 60 ∨ sg T L p = 62
    · rw [if_pos b] at e
      by_cases c : (tkN T L 999 (skp T L p + 1)).1 = -1
      · rw [if_pos c] at e
        cases e
      · rw [if_neg c] at e
        by_cases d : 2 ≤ F 8
        · rw [if_pos d] at e
          cases e
        · rw [if_neg d] at e
          cases e
          obtain ⟨v1, v2, -⟩ := tkN_v c
          have d2 : ¬ F 8 = 2 := fun z => d ((le2 h.1).mpr z)
          exact ⟨h.ad b d2 ⟨v1, v2⟩, adF_o (Or.inl rfl), adF_o (Or.inr rfl)⟩
    · rw [if_neg b] at e
      cases e
theorem coF_i {T : Nat → Int32} {L : Nat} : ∀ (n p : Nat) (F : Nat → Int32) (y : Nat × (Nat → Int32)), coF T L n p F = some y → lmI F → lmI y.2 ∧ y.2 6 = F 6 ∧ y.2 7 = F 7
  | 0, _, _, _, e, _ => by cases e
  | n + 1, p, F, y, e, h => by
    by_cases a : (tkS T L 61 p).1 = 0
    · cases c : pCon T L (tkS T L 61 p).2 F with
      | none =>
        rw [coF_n a c] at e
        cases e
      | some w =>
        rw [coF_y a c] at e
        obtain ⟨q1, q2, q3⟩ := pCon_i c h
        obtain ⟨r1, r2, r3⟩ := coF_i n _ _ y e q1
        exact ⟨r1, r2.trans q2, r3.trans q3⟩
    · rw [coF_e a] at e
      cases e
      exact ⟨h, rfl, rfl⟩
theorem clF_i {T : Nat → Int32} {L : Nat} : ∀ (n : Nat) (last : Int32) (p : Nat) (F : Nat → Int32) (y : Nat × (Nat → Int32)), clF T L n last p F = some y → lmI F → lmI y.2 ∧ y.2 6 = F 6 ∧ y.2 7 = F 7
  | 0, last, p, F, y, e, h => by
    rw [clF_0] at e
    by_cases z : last = -1
    · rw [if_pos z] at e
      cases e
    · rw [if_neg z] at e
      cases e
      exact ⟨h, rfl, rfl⟩
  | n + 1, last, p, F, y, e, h => by
    by_cases a : (tkD T L 4 p).1 = -1
    · rw [clF_b a] at e
      by_cases z : last = -1
      · rw [if_pos z] at e
        cases e
      · rw [if_neg z] at e
        cases e
        exact ⟨h, rfl, rfl⟩
    · by_cases b : (tkD T L 4 p).1 ≤ last
      · rw [clF_l a b] at e
        cases e
      · rw [clF_y a b] at e
        obtain ⟨r1, r2, r3⟩ := clF_i n _ _ _ y e (lmI_up h (Or.inl (by omega)))
        exact ⟨r1, r2, r3⟩
theorem read_inv {T : Nat → Int32} {L p : Nat} {nb : Int32} {F : Nat → Int32} (hb : 0 ≤ nb.toInt ∧ nb.toInt ≤ 1000) (e : pRead T L nb Fz = some (p, F)) : lmI F ∧ ouI nb (F 6) ∧ exI nb (F 7) := by
  unfold pRead at e
  obtain ⟨a, ea, e⟩ := Option.bind_eq_some_iff.mp e
  obtain ⟨b, eb, e⟩ := Option.bind_eq_some_iff.mp e
  obtain ⟨c, ec, e⟩ := Option.bind_eq_some_iff.mp e
  obtain ⟨d, ed, e⟩ := Option.bind_eq_some_iff.mp e
  obtain ⟨f, ef, e⟩ := Option.bind_eq_some_iff.mp e
  have n1 : (nb - 1).toInt = nb.toInt - 1 := by
    rw [Int32.toInt_sub, show (1 : Int32).toInt = 1 from rfl]
    exact Int.bmod_eq_of_le (by omega) (by omega)
  have a1 : lmI a.2 ∧ a.2 7 = -1 := by
    unfold pMat at ea
    split at ea
    · cases ea
    · split at ea
      · cases ea
      · cases ea
        exact ⟨lmI_up lmI_z (Or.inl (by omega)), rfl⟩
  have b1 : lmI b.2 ∧ b.2 7 = -1 := by
    unfold pCls at eb
    split at eb
    · cases eb
    · obtain ⟨q1, -, q3⟩ := clF_i _ _ _ _ _ eb a1.1
      exact ⟨q1, q3.trans a1.2⟩
  have c1 : lmI c.2 ∧ c.2 7 = -1 := by
    obtain ⟨q1, -, q3⟩ := coF_i _ _ _ _ ec b1.1
    exact ⟨q1, q3.trans b1.2⟩
  have d1 : lmI d.2 ∧ d.2 7 = -1 ∧ ouI nb (d.2 6) := by
    unfold pOut at ed
    split at ed
    · split at ed
      · split at ed
        · cases ed
        · rename_i z
          cases ed
          obtain ⟨v1, v2, v3⟩ := tkN_v z
          exact ⟨lmI_up c1.1 (Or.inr (Or.inl rfl)), c1.2, Or.inl ⟨v1, v3⟩⟩
      · split at ed
        · cases ed
        · rename_i z
          cases ed
          obtain ⟨v1, v2, v3⟩ := tkN_v z
          exact ⟨lmI_up c1.1 (Or.inr (Or.inl rfl)), c1.2, Or.inr (Or.inr ⟨_, v1, by rw [n1] at v3; omega, rfl⟩)⟩
    · cases ed
      exact ⟨lmI_up c1.1 (Or.inr (Or.inl rfl)), c1.2, Or.inr (Or.inl rfl)⟩
  have f1 : lmI f.2 ∧ exI nb (f.2 7) ∧ ouI nb (f.2 6) := by
    unfold pExc at ef
    split at ef
    · cases ef
      exact ⟨d1.1, Or.inl d1.2.1, d1.2.2⟩
    · split at ef
      · cases ef
      · rename_i z
        cases ef
        obtain ⟨v1, v2, v3⟩ := tkN_v z
        exact ⟨lmI_up d1.1 (Or.inr (Or.inr rfl)), Or.inr ⟨v1, by rw [n1] at v3; exact Int.lt_of_le_of_lt v3 (by omega)⟩, d1.2.2⟩
  split at e
  · cases e
    exact ⟨f1.1, f1.2.2, f1.2.1⟩
  · cases e

/-! ===== values: sets of numbers as numbers ===== -/
def tb (x : Int32) (j : Nat) : Bool := x.toBitVec.getLsbD j
theorem tb_ext {x y : Int32} (h : ∀ j, j < 32 → tb x j = tb y j) : x = y := Int32.toBitVec_inj.1 (BitVec.eq_of_getLsbD_eq_iff.mpr h)
theorem tb_or (x y : Int32) (j : Nat) : tb (x ||| y) j = (tb x j || tb y j) := by
  unfold tb
  rw [Int32.toBitVec_or, BitVec.getLsbD_or]
theorem tb_and (x y : Int32) (j : Nat) : tb (x &&& y) j = (tb x j && tb y j) := by
  unfold tb
  rw [Int32.toBitVec_and, BitVec.getLsbD_and]
theorem tb_xor (x y : Int32) (j : Nat) : tb (x ^^^ y) j = (tb x j ^^ tb y j) := by
  unfold tb
  rw [Int32.toBitVec_xor, BitVec.getLsbD_xor]
theorem tb_zero (j : Nat) : tb 0 j = false := by
  unfold tb
  exact BitVec.getLsbD_zero
theorem tb_ones : ∀ j, j < 32 → tb (-1) j = true := by decide +kernel
abbrev b1 (k : Nat) : Int32 := (1 : Int32) <<< (Int32.ofNat k &&& 31)
theorem tb_one : ∀ k, k < 32 → ∀ j, j < 32 → tb (b1 k) j = decide (j = k) := by decide +kernel
theorem sh_nat : ∀ k, k < 32 → ((Int32.ofNat k &&& 31).toBitVec.smod 32).toNat = k := by decide +kernel
/-- whether a bit is set, as both sides ask it -/
theorem tb_shr {x : Int32} {k : Nat} (hk : k < 32) : (x >>> (Int32.ofNat k &&& 31)) &&& 1 = if tb x k = true then 1 else 0 := by
  have e : (x >>> (Int32.ofNat k &&& 31)).toBitVec.getLsbD 0 = tb x k := by
    rw [Int32.toBitVec_shiftRight, BitVec.getLsbD_sshiftRight', sh_nat k hk]
    unfold tb
    simp [hk]
  refine Int32.toBitVec_inj.1 ?_
  rw [Int32.toBitVec_and]
  show (x >>> (Int32.ofNat k &&& 31)).toBitVec &&& 1#32 = _
  rw [BitVec.and_one_eq_setWidth_ofBool_getLsbD, e]
  cases tb x k <;> rfl
theorem tb_y {x : Int32} {k : Nat} (hk : k < 32) (h : (x >>> (Int32.ofNat k &&& 31)) &&& 1 = 1) : tb x k = true := by
  rw [tb_shr hk] at h
  by_cases z : tb x k = true
  · exact z
  · rw [if_neg z] at h
    exact absurd h (by decide)
theorem tb_n {x : Int32} {k : Nat} (hk : k < 32) (h : ¬ (x >>> (Int32.ofNat k &&& 31)) &&& 1 = 1) : tb x k = false := by
  rw [tb_shr hk] at h
  by_cases z : tb x k = true
  · rw [if_pos z] at h
    exact absurd rfl h
  · simpa using z
theorem tb_z {x : Int32} {k : Nat} (hk : k < 32) (h : (x >>> (Int32.ofNat k &&& 31)) &&& 1 = 0) : tb x k = false := tb_n hk (fun z => by rw [h] at z; exact absurd z (by decide))
/-- the set of those below n that P is true of -/
def bS (P : Nat → Bool) : Nat → Int32
  | 0 => 0
  | k + 1 => if P k = true then bS P k ||| b1 k else bS P k
theorem bS_y {P : Nat → Bool} {k : Nat} (h : P k = true) : bS P (k + 1) = bS P k ||| b1 k := by
  conv => lhs; unfold bS
  rw [if_pos h]
theorem bS_n {P : Nat → Bool} {k : Nat} (h : P k = false) : bS P (k + 1) = bS P k := by
  conv => lhs; unfold bS
  rw [if_neg (by rw [h]; decide)]
theorem bS_same {P Q : Nat → Bool} {n : Nat} (h : ∀ k, k < n → P k = Q k) : ∀ k, k ≤ n → bS P k = bS Q k
  | 0, _ => rfl
  | k + 1, hk => by
    unfold bS
    rw [bS_same h k (by omega), h k (by omega)]
theorem tb_bS (P : Nat → Bool) : ∀ n, n ≤ 32 → ∀ j, j < 32 → tb (bS P n) j = (decide (j < n) && P j)
  | 0, _, j, _ => by
    show tb 0 j = _
    rw [tb_zero]
    simp
  | k + 1, hn, j, hj => by
    cases p : P k with
    | true =>
      rw [bS_y p, tb_or, tb_bS P k (by omega) j hj, tb_one k (by omega) j hj]
      by_cases z : j = k
      · subst z
        simp [p]
      · have e : decide (j < k + 1) = decide (j < k) := decide_eq_decide.mpr (by omega)
        rw [e, decide_eq_false z, Bool.or_false]
    | false =>
      rw [bS_n p, tb_bS P k (by omega) j hj]
      by_cases z : j = k
      · subst z
        simp [p]
      · have e : decide (j < k + 1) = decide (j < k) := decide_eq_decide.mpr (by omega)
        rw [e]
theorem bS_eq {P : Nat → Bool} {n : Nat} {x : Int32} (hn : n ≤ 32) (h : ∀ j, j < 32 → tb x j = (decide (j < n) && P j)) : x = bS P n := tb_ext (fun j hj => by rw [h j hj, tb_bS P n hn j hj])
theorem bS_and {P Q : Nat → Bool} {n : Nat} (hn : n ≤ 32) : bS P n &&& bS Q n = bS (fun k => P k && Q k) n := bS_eq hn (fun j hj => by
  rw [tb_and, tb_bS P n hn j hj, tb_bS Q n hn j hj]
  cases decide (j < n) <;> simp)
theorem bS_or {P : Nat → Bool} {n k : Nat} (hn : n ≤ 32) (hk : k < n) : bS P n ||| b1 k = bS (fun j => P j || decide (j = k)) n := bS_eq hn (fun j hj => by
  rw [tb_or, tb_bS P n hn j hj, tb_one k (by omega) j hj]
  by_cases z : j = k
  · subst z
    simp [hk]
  · simp [z])
theorem bS_out {P : Nat → Bool} {n k : Nat} (hn : n ≤ 32) (hk : k < n) : bS P n &&& (b1 k ^^^ -1) = bS (fun j => P j && !decide (j = k)) n := bS_eq hn (fun j hj => by
  rw [tb_and, tb_xor, tb_bS P n hn j hj, tb_one k (by omega) j hj, tb_ones j hj]
  cases decide (j < n) <;> simp)
theorem bS_0 {P : Nat → Bool} {n : Nat} (hn : n ≤ 32) : bS P n = 0 ↔ ∀ k, k < n → P k = false := by
  constructor
  · intro h k hk
    have t := tb_bS P n hn k (by omega)
    rw [h, tb_zero, decide_eq_true hk, Bool.true_and] at t
    exact t.symm
  · intro h
    exact (bS_eq (P := P) hn (fun j hj => by
      rw [tb_zero]
      by_cases z : j < n
      · rw [h j z, Bool.and_false]
      · rw [decide_eq_false z, Bool.false_and])).symm
/-! what is told: of one article, and of all -/
def andT (t m : Int32) : Int32 := if t = -9 ∨ t = m then m else -2
def foldT (S : Nat → Bool) (f : Nat → Int32) : Nat → Int32
  | 0 => -9
  | k + 1 => if S k = true then andT (foldT S f k) (f k) else foldT S f k
theorem foldT_y {S : Nat → Bool} {f : Nat → Int32} {k : Nat} (h : S k = true) : foldT S f (k + 1) = andT (foldT S f k) (f k) := by
  conv => lhs; unfold foldT
  rw [if_pos h]
theorem foldT_n {S : Nat → Bool} {f : Nat → Int32} {k : Nat} (h : S k = false) : foldT S f (k + 1) = foldT S f k := by
  conv => lhs; unfold foldT
  rw [if_neg (by rw [h]; decide)]
theorem foldT_same {S R : Nat → Bool} {f g : Nat → Int32} {n : Nat} (h : ∀ k, k < n → S k = R k) (e : ∀ k, k < n → S k = true → f k = g k) : ∀ k, k ≤ n → foldT S f k = foldT R g k
  | 0, _ => rfl
  | k + 1, hk => by
    cases p : S k with
    | true => rw [foldT_y p, foldT_y ((h k (by omega)).symm.trans p), foldT_same h e k (by omega), e k (by omega) p]
    | false => rw [foldT_n p, foldT_n ((h k (by omega)).symm.trans p), foldT_same h e k (by omega)]
theorem andT_c (m : Int32) : andT (-2) m = -2 := by
  unfold andT
  by_cases z : (-2 : Int32) = -9 ∨ (-2 : Int32) = m
  · rw [if_pos z]
    rcases z with z | z
    · exact absurd z (by decide)
    · exact z.symm
  · rw [if_neg z]
theorem foldT_c {S : Nat → Bool} {f : Nat → Int32} {k : Nat} (h : foldT S f k = -2) : ∀ n, k ≤ n → foldT S f n = -2
  | 0, hn => by
    have e : k = 0 := by omega
    subst e
    exact h
  | n + 1, hn => by
    by_cases z : k = n + 1
    · subst z
      exact h
    · have q := foldT_c h n (by omega)
      cases p : S n with
      | true => rw [foldT_y p, q, andT_c]
      | false => rw [foldT_n p, q]
/-- nothing is told of none -/
theorem foldT_0 {S : Nat → Bool} {f : Nat → Int32} {n : Nat} (h : ∀ k, k < n → S k = false) : ∀ k, k ≤ n → foldT S f k = -9
  | 0, _ => rfl
  | k + 1, hk => by rw [foldT_n (h k (by omega)), foldT_0 h k (by omega)]
abbrev rT (x : Int32) : Prop := -3 ≤ x.toInt ∧ x.toInt ≤ 100
theorem rT_9 {x : Int32} (h : rT x) : ¬ x = -9 ∧ ¬ x = -4 := ⟨fun z => by rw [z] at h; exact absurd h (by decide), fun z => by rw [z] at h; exact absurd h (by decide)⟩
theorem andT_r {t m : Int32} (h : rT m) : rT (andT t m) := by
  unfold andT
  split
  · exact h
  · decide
theorem foldT_r {S : Nat → Bool} {f : Nat → Int32} {n : Nat} (h : ∀ k, k < n → S k = true → rT (f k)) : ∀ k, k ≤ n → (foldT S f k = -9 ∧ ∀ j, j < k → S j = false) ∨ (rT (foldT S f k) ∧ ∃ j, j < k ∧ S j = true)
  | 0, _ => Or.inl ⟨rfl, fun j hj => absurd hj (Nat.not_lt_zero j)⟩
  | k + 1, hk => by
    cases p : S k with
    | true =>
      rw [foldT_y p]
      exact Or.inr ⟨andT_r (h k (by omega) p), k, by omega, p⟩
    | false =>
      rw [foldT_n p]
      rcases foldT_r h k (by omega) with ⟨a, b⟩ | ⟨a, j, b, c⟩
      · refine Or.inl ⟨a, fun j hj => ?_⟩
        by_cases z : j = k
        · subst z
          exact p
        · exact b j (by omega)
      · exact Or.inr ⟨a, j, by omega, c⟩
/-- what one article tells: cnt articles, ex k a: k is an exception to a, ap: in force and applies, fo: in force, oc: outcomes, cu: what custom tells; d more may be opened -/
def tlT (cnt : Nat) (ex : Nat → Nat → Bool) (ap fo : Nat → Bool) (oc : Nat → Int32) (cu : Int32) : Nat → Nat → (Nat → Bool) → Int32
  | 0, _, _ => -3
  | d + 1, a, op => if op a = true then -3 else
    if foldT (fun k => ex k a && ap k) (fun k => tlT cnt ex ap fo oc cu d k (fun j => op j || decide (j = a))) cnt = -9 then
      if 0 ≤ oc a then oc a else if oc a = -1 then cu else if fo (-2 - oc a).toNatClampNeg = true then tlT cnt ex ap fo oc cu d (-2 - oc a).toNatClampNeg (fun j => op j || decide (j = a)) else -1
    else foldT (fun k => ex k a && ap k) (fun k => tlT cnt ex ap fo oc cu d k (fun j => op j || decide (j = a))) cnt
theorem tlT_r {cnt : Nat} {ex : Nat → Nat → Bool} {ap fo : Nat → Bool} {oc : Nat → Int32} {cu : Int32} (ho : ∀ k, k < cnt → (oc k).toInt ≤ 100) (h5 : ∀ k, k < cnt → ¬ 0 ≤ oc k → ¬ oc k = -1 → (-2 - oc k).toNatClampNeg < cnt) (hc : rT cu) : ∀ d a op, a < cnt → rT (tlT cnt ex ap fo oc cu d a op)
  | 0, _, _, _ => by
    unfold tlT
    decide
  | d + 1, a, op, la => by
    unfold tlT
    by_cases z : op a = true
    · rw [if_pos z]
      decide
    · rw [if_neg z]
      rcases foldT_r (S := fun k => ex k a && ap k) (f := fun k => tlT cnt ex ap fo oc cu d k (fun j => op j || decide (j = a))) (n := cnt) (fun k hk _ => tlT_r ho h5 hc d k _ hk) cnt (Nat.le_refl _) with ⟨e, -⟩ | ⟨e, -⟩
      · rw [if_pos e]
        by_cases y : 0 ≤ oc a
        · rw [if_pos y]
          rw [i32_le, show (0 : Int32).toInt = 0 from rfl] at y
          exact ⟨by omega, ho a la⟩
        · rw [if_neg y]
          by_cases w : oc a = -1
          · rw [if_pos w]
            exact hc
          · rw [if_neg w]
            by_cases v : fo (-2 - oc a).toNatClampNeg = true
            · rw [if_pos v]
              exact tlT_r ho h5 hc d _ _ (h5 a la y w)
            · rw [if_neg v]
              decide
      · rw [if_neg (rT_9 e).1]
        exact e
/-- custom is not asked where no article in force is left to it -/
theorem tlT_cu {cnt : Nat} {ex : Nat → Nat → Bool} {ap fo : Nat → Bool} {oc : Nat → Int32} {cu cv : Int32} (hf : ∀ k, k < cnt → ap k = true → fo k = true) (hn : ∀ k, k < cnt → fo k = true → ¬ oc k = -1) (h5 : ∀ k, k < cnt → ¬ 0 ≤ oc k → ¬ oc k = -1 → (-2 - oc k).toNatClampNeg < cnt) : ∀ d a op, a < cnt → fo a = true → tlT cnt ex ap fo oc cu d a op = tlT cnt ex ap fo oc cv d a op
  | 0, _, _, _, _ => rfl
  | d + 1, a, op, la, ha => by
    have e : foldT (fun k => ex k a && ap k) (fun k => tlT cnt ex ap fo oc cu d k (fun j => op j || decide (j = a))) cnt = foldT (fun k => ex k a && ap k) (fun k => tlT cnt ex ap fo oc cv d k (fun j => op j || decide (j = a))) cnt :=
      foldT_same (n := cnt) (fun k _ => rfl) (fun k hk p => tlT_cu hf hn h5 d k _ hk (hf k hk (by
        have p : (ex k a && ap k) = true := p
        exact (Bool.and_eq_true_iff.mp p).2))) cnt (Nat.le_refl _)
    unfold tlT
    rw [e]
    by_cases z : op a = true
    · rw [if_pos z, if_pos z]
    · rw [if_neg z, if_neg z]
      by_cases y : foldT (fun k => ex k a && ap k) (fun k => tlT cnt ex ap fo oc cv d k (fun j => op j || decide (j = a))) cnt = -9
      · rw [if_pos y, if_pos y, if_neg (hn a la ha), if_neg (hn a la ha)]
        by_cases w : 0 ≤ oc a
        · rw [if_pos w, if_pos w]
        · rw [if_neg w, if_neg w]
          by_cases v : fo (-2 - oc a).toNatClampNeg = true
          · rw [if_pos v, if_pos v, tlT_cu hf hn h5 d _ _ (h5 a la w (hn a la ha)) v]
          · rw [if_neg v, if_neg v]
      · rw [if_neg y, if_neg y]
/-- only what lies below cnt matters -/
theorem tlT_same {cnt : Nat} {ex ex2 : Nat → Nat → Bool} {ap fo ap2 fo2 : Nat → Bool} {oc oc2 : Nat → Int32} {cu : Int32} (h1 : ∀ k a, k < cnt → a < cnt → ex k a = ex2 k a) (h2 : ∀ k, k < cnt → ap k = ap2 k) (h3 : ∀ k, k < cnt → fo k = fo2 k) (h4 : ∀ k, k < cnt → oc k = oc2 k) (h5 : ∀ k, k < cnt → ¬ 0 ≤ oc k → ¬ oc k = -1 → (-2 - oc k).toNatClampNeg < cnt) : ∀ d a op, a < cnt → tlT cnt ex ap fo oc cu d a op = tlT cnt ex2 ap2 fo2 oc2 cu d a op
  | 0, _, _, _ => rfl
  | d + 1, a, op, ha => by
    have e : foldT (fun k => ex k a && ap k) (fun k => tlT cnt ex ap fo oc cu d k (fun j => op j || decide (j = a))) cnt = foldT (fun k => ex2 k a && ap2 k) (fun k => tlT cnt ex2 ap2 fo2 oc2 cu d k (fun j => op j || decide (j = a))) cnt :=
      foldT_same (n := cnt) (fun k hk => by
        show (ex k a && ap k) = (ex2 k a && ap2 k)
        rw [h1 k a hk ha, h2 k hk]) (fun k hk _ => tlT_same h1 h2 h3 h4 h5 d k _ hk) cnt (Nat.le_refl _)
    unfold tlT
    rw [e, ← h4 a ha]
    by_cases z : op a = true
    · rw [if_pos z, if_pos z]
    · rw [if_neg z, if_neg z]
      by_cases y : foldT (fun k => ex2 k a && ap2 k) (fun k => tlT cnt ex2 ap2 fo2 oc2 cu d k (fun j => op j || decide (j = a))) cnt = -9
      · rw [if_pos y, if_pos y]
        by_cases w : 0 ≤ oc a
        · rw [if_pos w, if_pos w]
        · rw [if_neg w, if_neg w]
          by_cases v : oc a = -1
          · rw [if_pos v, if_pos v]
          · rw [if_neg v, if_neg v, ← h3 _ (h5 a ha w v), tlT_same h1 h2 h3 h4 h5 d _ _ (h5 a ha w v)]
      · rw [if_neg y, if_neg y]
/-- how many of n are in a set -/
def cdT (P : Nat → Bool) : Nat → Nat
  | 0 => 0
  | k + 1 => cdT P k + if P k = true then 1 else 0
theorem cdT_le (P : Nat → Bool) : ∀ n, cdT P n ≤ n
  | 0 => Nat.le_refl _
  | k + 1 => by
    unfold cdT
    have := cdT_le P k
    split <;> omega
theorem cdT_add {P : Nat → Bool} {a : Nat} (h : P a = false) : ∀ n, cdT (fun j => P j || decide (j = a)) n = cdT P n + if a < n then 1 else 0
  | 0 => rfl
  | k + 1 => by
    unfold cdT
    rw [cdT_add h k]
    by_cases z : k = a
    · subst z
      simp [h]
    · have e : decide (k = a) = false := decide_eq_false z
      rw [e, Bool.or_false]
      by_cases y : a < k
      · rw [if_pos y, if_pos (show a < k + 1 by omega)]
        omega
      · rw [if_neg y, if_neg (show ¬ a < k + 1 by omega)]
        omega

/-! ===== values: what a parish's customs tell ===== -/
/-- a rule (its fields by the class' places) is for a case: matter, rank, facts, amount, day -/
abbrev okP (R : Nat → Int32) (m r f a d : Int32) : Prop := m = R 1 ∧ R 2 >>> (r &&& 31) &&& 1 = 1 ∧ f &&& R 3 = R 3 ∧ f &&& R 4 = 0 ∧ R 7 ≤ a ∧ a ≤ R 8 ∧ R 9 ≤ d
/-- told and strength, rule by rule: the class' way, the reference's way -/
def stC (x : Int32 × Int32) : Option (Int32 × Int32) → Int32 × Int32
  | none => x
  | some (st, sh) => if x.2 < st then (sh, st) else if st = x.2 ∧ ¬ x.1 = sh then (-2, x.2) else x
def stM (x : Int32 × Int32) : Option (Int32 × Int32) → Int32 × Int32
  | none => x
  | some (st, sh) => if st < x.2 then x else (if x.2 < st ∨ x.1 = sh then sh else -2, st)
def cuC (D : Nat → Option (Int32 × Int32)) : Nat → Int32 × Int32
  | 0 => (-1, 0)
  | k + 1 => stC (cuC D k) (D k)
def cuM (D : Nat → Option (Int32 × Int32)) : Nat → Int32 × Int32
  | 0 => (-1, -1)
  | k + 1 => stM (cuM D k) (D k)
/-- both ways tell the same, where strengths are above 0 -/
theorem cu_eq {D : Nat → Option (Int32 × Int32)} {n : Nat} (hD : ∀ k, k < n → ∀ st sh, D k = some (st, sh) → 0 < st.toInt) : ∀ k, k ≤ n → (cuC D k).1 = (cuM D k).1 ∧ ((cuC D k).2 = (cuM D k).2 ∧ 0 < (cuC D k).2.toInt ∨ (cuC D k) = (-1, 0) ∧ cuM D k = (-1, -1))
  | 0, _ => ⟨rfl, Or.inr ⟨rfl, rfl⟩⟩
  | k + 1, hk => by
    obtain ⟨e1, e2⟩ := cu_eq hD k (by omega)
    unfold cuC cuM
    cases e : D k with
    | none => exact ⟨e1, e2⟩
    | some y =>
      obtain ⟨st, sh⟩ := y
      have hp := hD k (by omega) st sh e
      unfold stC stM
      dsimp only
      have z0 : (0 : Int32).toInt = 0 := rfl
      have z1 : (-1 : Int32).toInt = -1 := rfl
      rcases e2 with ⟨e2, e3⟩ | ⟨e2, e3⟩
      · rw [← e2, ← e1]
        simp only [i32_lt]
        by_cases a : (cuC D k).2.toInt < st.toInt
        · rw [if_pos a, if_neg (by omega), if_pos (Or.inl a)]
          exact ⟨rfl, Or.inl ⟨rfl, hp⟩⟩
        · rw [if_neg a]
          by_cases b : st.toInt < (cuC D k).2.toInt
          · rw [if_pos b, if_neg (fun z => by rw [z.1] at b; omega)]
            exact ⟨e1, Or.inl ⟨e2, e3⟩⟩
          · have c : st = (cuC D k).2 := Int32.toInt_inj.mp (by omega)
            rw [if_neg b]
            by_cases d : (cuC D k).1 = sh
            · rw [if_neg (fun z => z.2 d), if_pos (Or.inr d)]
              exact ⟨d, Or.inl ⟨c.symm, e3⟩⟩
            · rw [if_pos ⟨c, d⟩, if_neg (fun z => by rcases z with z | z; exact a z; exact d z)]
              exact ⟨rfl, Or.inl ⟨c.symm, e3⟩⟩
      · rw [e2, e3]
        dsimp only
        simp only [i32_lt, z0, z1]
        rw [if_pos hp, if_neg (by omega), if_pos (Or.inl (by omega))]
        exact ⟨rfl, Or.inl ⟨rfl, hp⟩⟩
theorem cu_same {D E : Nat → Option (Int32 × Int32)} {n : Nat} (h : ∀ k, k < n → D k = E k) : ∀ k, k ≤ n → cuM D k = cuM E k
  | 0, _ => rfl
  | k + 1, hk => by
    unfold cuM
    rw [cu_same h k (by omega), h k (by omega)]
/-- the class' rule k for a parish and a case -/
def dC (h : List zC) (p m r f a d : Int32) (k : Nat) : Option (Int32 × Int32) := if iv h (31 + k) 0 = p ∧ okP (iv h (31 + k)) m r f a d then some (iv h (31 + k) 10, iv h (31 + k) 5) else none
theorem dC_n {h : List zC} {p m r f a d : Int32} {k : Nat} (z : ¬ (iv h (31 + k) 0 = p ∧ okP (iv h (31 + k)) m r f a d)) {D : Nat → Option (Int32 × Int32)} (e : D = dC h p m r f a d) : cuC D (k + 1) = cuC D k := by
  subst e
  conv => lhs; unfold cuC
  unfold dC
  rw [if_neg z]
  rfl
theorem dC_y {h : List zC} {p m r f a d : Int32} {k : Nat} (z : iv h (31 + k) 0 = p ∧ okP (iv h (31 + k)) m r f a d) : cuC (dC h p m r f a d) (k + 1) = stC (cuC (dC h p m r f a d) k) (some (iv h (31 + k) 10, iv h (31 + k) 5)) := by
  conv => lhs; unfold cuC
  conv => lhs; arg 2; unfold dC
  rw [if_pos z]
/-- the fields of a rule, of a case, are numbers -/
def RI (h : List zC) (x : Nat) : Prop := ∀ j, j < 10 → ∃ z : Int32, gF h x j = some (.int z)
def CI (h : List zC) (x : Nat) : Prop := ∀ j, j < 7 → ∃ z : Int32, gF h x j = some (.int z)
theorem RI.at {h : List zC} {x j : Nat} (r : RI h x) (hj : j < 10) : gF h x j = some (.int (iv h x j)) := by
  obtain ⟨z, e⟩ := r j hj
  rw [iv_of e]
  exact e
theorem CI.at {h : List zC} {x j : Nat} (r : CI h x) (hj : j < 7) : gF h x j = some (.int (iv h x j)) := by
  obtain ⟨z, e⟩ := r j hj
  rw [iv_of e]
  exact e
theorem RI.same {h h' : List zC} {x : Nat} (r : RI h x) (e : ∀ j, j < 10 → gF h' x j = gF h x j) : RI h' x := fun j hj => by
  obtain ⟨z, e1⟩ := r j hj
  exact ⟨z, (e j hj).trans e1⟩
theorem CI.same {h h' : List zC} {x : Nat} (r : CI h x) (e : ∀ j, j < 7 → gF h' x j = gF h x j) : CI h' x := fun j hj => by
  obtain ⟨z, e1⟩ := r j hj
  exact ⟨z, (e j hj).trans e1⟩
theorem RI.lt {h : List zC} {x : Nat} (r : RI h x) : x < h.length := by
  obtain ⟨z, e⟩ := r 0 (by omega)
  exact gF_lt e
/-- a reference's rule by the class' places -/
def mR (h : List zC) (q k : Nat) : Int32 := if k = 7 then iv h q 8 else if k = 8 then iv h q 9 else if k = 9 then iv h q 7 else iv h q k
def rf (h : List zC) (el k : Nat) : Nat := match gF h el k with
  | some (.ref q) => q
  | _ => 0
theorem rf_of {h : List zC} {el k q : Nat} (e : gF h el k = some (.ref q)) : rf h el k = q := by
  unfold rf
  rw [e]
def stV (h : List zC) (q : Nat) : Int32 := 10 * (szF (iv h q 3) + szF (iv h q 4)) + iv h q 6
def dM (h : List zC) (el : Nat) (p m r f a d : Int32) (k : Nat) : Option (Int32 × Int32) := if iv h (rf h el k) 0 = p ∧ okP (mR h (rf h el k)) m r f a d then some (stV h (rf h el k), iv h (rf h el k) 5) else none
theorem dM_n {h : List zC} {el : Nat} {p m r f a d : Int32} {k : Nat} (z : ¬ (iv h (rf h el k) 0 = p ∧ okP (mR h (rf h el k)) m r f a d)) : cuM (dM h el p m r f a d) (k + 1) = cuM (dM h el p m r f a d) k := by
  conv => lhs; unfold cuM
  conv => lhs; arg 2; unfold dM
  rw [if_neg z]
  rfl
theorem dM_y {h : List zC} {el : Nat} {p m r f a d : Int32} {k : Nat} (z : iv h (rf h el k) 0 = p ∧ okP (mR h (rf h el k)) m r f a d) : cuM (dM h el p m r f a d) (k + 1) = stM (cuM (dM h el p m r f a d) k) (some (stV h (rf h el k), iv h (rf h el k) 5)) := by
  conv => lhs; unfold cuM
  conv => lhs; arg 2; unfold dM
  rw [if_pos z]
theorem psz_f {a s : Int32} (ha : rI 0 63 a) (h : Psz a s) : s = szF a := by
  obtain ⟨h3, h4⟩ := ha
  have z0 : (0 : Int32).toInt = 0 := rfl
  have z1 : (63 : Int32).toInt = 63 := rfl
  have e : a = Int32.ofNat a.toInt.toNat := Int32.toInt_inj.mp (by
    rw [Int32.toInt_ofNat_of_lt (by omega)]
    omega)
  rw [e] at h ⊢
  exact Psz_det h ⟨7, szF_tab _ (by omega)⟩
theorem hs_y {x y : Int32} (h : ¬ (if x >>> (y &&& 31) &&& 1 = 1 then (1 : Int32) else 0) = 0) : x >>> (y &&& 31) &&& 1 = 1 := by
  by_cases z : x >>> (y &&& 31) &&& 1 = 1
  · exact z
  · rw [if_neg z] at h
    exact absurd rfl h
theorem hs_n {x y : Int32} (h : (if x >>> (y &&& 31) &&& 1 = 1 then (1 : Int32) else 0) = 0) : ¬ x >>> (y &&& 31) &&& 1 = 1 := fun z => by
  rw [if_pos z] at h
  exact absurd h (by decide)
theorem inB_b {x lo hi : Int32} (h : ¬ inB x lo hi = 0) : lo ≤ x ∧ x ≤ hi := by
  obtain ⟨h1, h2⟩ := inB_y h
  exact ⟨i32_le.mpr h1, i32_le.mpr h2⟩
theorem inB_c {x lo hi : Int32} (h : inB x lo hi = 0) : ¬ (lo ≤ x ∧ x ≤ hi) := fun z => inB_n h ⟨i32_le.mp z.1, i32_le.mp z.2⟩
theorem stV_eq {h k : List zC} {q : Nat} (e : ∀ x, gF k q x = gF h q x) : stV k q = stV h q := by
  unfold stV
  rw [iv_eq (e 3), iv_eq (e 4), iv_eq (e 6)]
theorem dM_same {h h2 : List zC} {el : Nat} {p m r f a d : Int32} {k : Nat} (e1 : gF h2 el k = gF h el k) (e2 : ∀ x, gF h2 (rf h el k) x = gF h (rf h el k) x) : dM h2 el p m r f a d k = dM h el p m r f a d k := by
  have e3 : rf h2 el k = rf h el k := by
    unfold rf
    rw [e1]
  have e4 : iv h2 (rf h el k) = iv h (rf h el k) := funext (fun x => iv_eq (e2 x))
  have e5 : mR h2 (rf h el k) = mR h (rf h el k) := by
    unfold mR
    rw [e4]
  unfold dM
  rw [e3, e4, e5, stV_eq e2]
/-! ===== values: the code of the class ===== -/
theorem st_71_1 {h : List zC} (hS : Stc h) : gF h 71 1 = some (.ref 28) := hS.2 (71, 1, 28) (by decide +kernel)
theorem st_28_1 {h : List zC} (hS : Stc h) : gF h 28 1 = some (.ref 30) := hS.2 (28, 1, 30) (by decide +kernel)
/-- in force from fr, before en, on the day d -/
abbrev foP (fr en d : Int32) : Prop := ¬ fr = -1 ∧ fr ≤ d ∧ (en = -1 ∨ d < en)
def foC (h : List zC) (d : Int32) (k : Nat) : Bool := decide (foP (iv h (73 + 4 * k) 3) (iv h (73 + 4 * k) 4) d)
/-- a clause is for a case -/
abbrev okC (F : Nat → Int32) (m r f a : Int32) : Prop := m = F 0 ∧ F 1 >>> (r &&& 31) &&& 1 = 1 ∧ f &&& F 2 = F 2 ∧ f &&& F 3 = 0 ∧ F 4 ≤ a ∧ a ≤ F 5
def apC (h : List zC) (D k : Nat) : Bool := decide (okC (iv h (rf h (73 + 4 * k) 1)) (iv h D 3) (iv h D 2) (iv h D 4) (iv h D 5))
theorem bS_ty {P : Nat → Bool} {n k : Nat} (hn : n ≤ 32) (hk : k < n) (h : (bS P n >>> (Int32.ofNat k &&& 31)) &&& 1 = 1) : P k = true := by
  have t := tb_y (by omega) h
  rw [tb_bS P n hn k (by omega), decide_eq_true hk, Bool.true_and] at t
  exact t
theorem bS_tn {P : Nat → Bool} {n k : Nat} (hn : n ≤ 32) (hk : k < n) (h : ¬ (bS P n >>> (Int32.ofNat k &&& 31)) &&& 1 = 1) : P k = false := by
  have t := tb_n (by omega) h
  rw [tb_bS P n hn k (by omega), decide_eq_true hk, Bool.true_and] at t
  exact t
theorem bS_tz {P : Nat → Bool} {n k : Nat} (hn : n ≤ 32) (hk : k < n) (h : (bS P n >>> (Int32.ofNat k &&& 31)) &&& 1 = 0) : P k = false := bS_tn hn hk (fun z => by rw [h] at z; exact absurd z (by decide))
theorem bS_tnz {P : Nat → Bool} {n k : Nat} (hn : n ≤ 32) (hk : k < n) (h : ¬ (bS P n >>> (Int32.ofNat k &&& 31)) &&& 1 = 0) : P k = true := by
  rw [tb_shr (by omega)] at h
  by_cases z : tb (bS P n) k = true
  · rw [tb_bS P n hn k (by omega), decide_eq_true hk, Bool.true_and] at z
    exact z
  · rw [if_neg z] at h
    exact absurd rfl h
theorem ofn_nat {x : Int32} (h : 0 ≤ x.toInt) : x = Int32.ofNat x.toNatClampNeg := Int32.toInt_inj.mp (by
  have l := x.toInt_lt
  rw [(toNat_ofNat (m := x.toNatClampNeg) (by show x.toInt.toNat < _; omega)).2]
  show x.toInt = (x.toInt.toNat : Int)
  omega)
/-- what the articles of a set tell, as one: nothing is a gap -/
def alT (S : Nat → Bool) (f : Nat → Int32) (n : Nat) : Int32 := if foldT S f n = -9 then -1 else foldT S f n
theorem alT_c {S : Nat → Bool} {f : Nat → Int32} {k n : Nat} (h : foldT S f k = -2) (hk : k ≤ n) : alT S f n = -2 := by
  unfold alT
  rw [foldT_c h n hk]
  rfl
theorem alT_n {S : Nat → Bool} {f : Nat → Int32} {n : Nat} (h : foldT S f n = -9) : alT S f n = -1 := by
  unfold alT
  rw [if_pos h]
theorem alT_y {S : Nat → Bool} {f : Nat → Int32} {n : Nat} (h : ¬ foldT S f n = -9) : alT S f n = foldT S f n := by
  unfold alT
  rw [if_neg h]
/-- where the loop over a set stands: nothing told yet, or told t -/
def tlS (S : Nat → Bool) (f : Nat → Int32) (k : Nat) (t : Int32) : Prop := (t = -4 ∧ foldT S f k = -9) ∨ (¬ t = -9 ∧ ¬ t = -4 ∧ ¬ t = -2 ∧ foldT S f k = t)
theorem tlS.skip {S : Nat → Bool} {f : Nat → Int32} {k : Nat} {t : Int32} (q : tlS S f k t) (h : S k = false) : tlS S f (k + 1) t := by
  unfold tlS at q ⊢
  rw [foldT_n h]
  exact q
theorem tlS.first {S : Nat → Bool} {f : Nat → Int32} {k : Nat} {t : Int32} (q : tlS S f k t) (h : S k = true) (ht : t = -4) (hr : rT (f k)) (hc : ¬ f k = -2) : tlS S f (k + 1) (f k) := by
  rcases q with ⟨-, e⟩ | ⟨-, n, -⟩
  · refine Or.inr ⟨(rT_9 hr).1, (rT_9 hr).2, hc, ?_⟩
    rw [foldT_y h, e]
    unfold andT
    rw [if_pos (Or.inl rfl)]
  · exact absurd ht n
theorem tlS.again {S : Nat → Bool} {f : Nat → Int32} {k : Nat} {t : Int32} (q : tlS S f k t) (h : S k = true) (e1 : f k = t) (hr : rT (f k)) (hc : ¬ f k = -2) : tlS S f (k + 1) (f k) := by
  rcases q with ⟨e, -⟩ | ⟨-, -, -, e⟩
  · rw [e] at e1
    exact absurd e1 (rT_9 hr).2
  · refine Or.inr ⟨(rT_9 hr).1, (rT_9 hr).2, hc, ?_⟩
    rw [foldT_y h, e]
    unfold andT
    rw [if_pos (Or.inr e1.symm)]
theorem tlS.clash {S : Nat → Bool} {f : Nat → Int32} {k : Nat} {t : Int32} (q : tlS S f k t) (h : S k = true) (hn : f k = -2 ∨ (¬ t = -4 ∧ ¬ f k = t)) : foldT S f (k + 1) = -2 := by
  rw [foldT_y h]
  unfold andT
  rcases hn with e | ⟨n1, n2⟩
  · by_cases z : foldT S f k = -9 ∨ foldT S f k = f k
    · rw [if_pos z]
      exact e
    · rw [if_neg z]
  · rcases q with ⟨e, -⟩ | ⟨m1, -, -, e⟩
    · exact absurd e n1
    · rw [e, if_neg (fun z => by
        rcases z with z | z
        · exact m1 z
        · exact n2 z.symm)]
theorem tlS.end {S : Nat → Bool} {f : Nat → Int32} {k : Nat} {t : Int32} (q : tlS S f k t) : alT S f k = if t = -4 then -1 else t := by
  rcases q with ⟨e, z⟩ | ⟨n9, n4, -, z⟩
  · rw [if_pos e, alT_n z]
  · rw [if_neg n4, alT_y (by rw [z]; exact n9), z]
/-- one article of the class: what is asked of it; the set's -/
abbrev clO (h : List zC) (k : Nat) : Int32 := iv h (rf h (73 + 4 * k) 1) 6
def tOne (J : Nat) (h : List zC) (cnt : Nat) (ex : Nat → Nat → Bool) (A P : Nat → Bool) (cu : Int32) (m : Nat) : Prop := ∀ (a d : Nat) (op : Nat → Bool) (opn dep : Int32) (u : Nat), a < cnt → (∀ j, j < cnt → tb opn j = op j) → dep.toInt = 25 - (d : Int) → d ≤ 25 → zL zrx zi m J 0 [(0, .ref 71), (1, .int (Int32.ofNat a)), (2, .int (bS P cnt)), (3, .int (bS A cnt)), (4, .int cu), (5, .int opn), (6, .int dep)] [] h u (fun o h2 _ => h2 = h ∧ o = .inl (some (.int (tlT cnt ex A P (clO h) cu d a op))))
def tAll (J : Nat) (h : List zC) (cnt : Nat) (ex : Nat → Nat → Bool) (A P : Nat → Bool) (cu : Int32) (m : Nat) : Prop := ∀ (S : Nat → Bool) (d : Nat) (op : Nat → Bool) (opn dep : Int32) (u : Nat), (∀ j, j < cnt → tb opn j = op j) → dep.toInt = 25 - (d : Int) → d ≤ 25 → zL zrx zi m J 0 [(0, .ref 71), (1, .int (bS S cnt)), (2, .int (bS P cnt)), (3, .int (bS A cnt)), (4, .int cu), (5, .int opn), (6, .int dep)] [] h u (fun o h2 _ => h2 = h ∧ o = .inl (some (.int (alT S (fun k => tlT cnt ex A P (clO h) cu d k op) cnt))))
/-- a tie of customs -/
def milT (a b : Int32) : Int32 := if 0 ≤ a ∧ 0 ≤ b then mnI a b else if 0 ≤ a ∨ 0 ≤ b then mxI a b else if a = -2 ∨ b = -2 then -2 else -1
def cuP (h : List zC) (cr par : Int32) (q : Nat) (d : Int32) : Int32 := (cuC (dC h par (iv h q 3) (iv h q 2) (iv h q 4) (iv h q 5) d) cr.toNatClampNeg).1
def tieC (h : List zC) (cr : Int32) (q : Nat) (d : Int32) : Int32 := if iv h 30 (iv h q 3).toNatClampNeg = 0 then cuP h cr (iv h q 0) q d else if iv h 30 (iv h q 3).toNatClampNeg = 1 then cuP h cr (iv h q 1) q d else milT (cuP h cr (iv h q 0) q d) (cuP h cr (iv h q 1) q d)
/-- what the code tells -/
def cdC (h : List zC) (cnt : Nat) (ex : Nat → Nat → Bool) (gen P : Nat → Bool) (cu : Int32) (q : Nat) : Int32 := alT (fun k => (P k && apC h q k) && gen k) (fun k => tlT cnt ex (fun k => P k && apC h q k) P (clO h) cu 25 k (fun _ => false)) cnt
theorem cdC_cu {h : List zC} {cnt : Nat} {ex : Nat → Nat → Bool} {gen P : Nat → Bool} {cu cv : Int32} {q : Nat} (hn : ∀ k, k < cnt → P k = true → ¬ clO h k = -1) (h5 : ∀ k, k < cnt → ¬ 0 ≤ clO h k → ¬ clO h k = -1 → (-2 - clO h k).toNatClampNeg < cnt) : cdC h cnt ex gen P cu q = cdC h cnt ex gen P cv q := by
  unfold cdC
  have e : foldT (fun k => (P k && apC h q k) && gen k) (fun k => tlT cnt ex (fun k => P k && apC h q k) P (clO h) cu 25 k (fun _ => false)) cnt = foldT (fun k => (P k && apC h q k) && gen k) (fun k => tlT cnt ex (fun k => P k && apC h q k) P (clO h) cv 25 k (fun _ => false)) cnt :=
    foldT_same (n := cnt) (fun _ _ => rfl) (fun k hk p => tlT_cu (fun j _ pj => (Bool.and_eq_true_iff.mp (show (P j && apC h q j) = true from pj)).1) hn h5 25 k _ hk (by
      have p : ((P k && apC h q k) && gen k) = true := p
      exact (Bool.and_eq_true_iff.mp (Bool.and_eq_true_iff.mp p).1).1)) cnt (Nat.le_refl _)
  unfold alT
  rw [e]
/-! ===== values: what the reference tells ===== -/
theorem st_213_6 {h : List zC} (hS : Stc h) : gF h 213 6 = some (.ref 222) := hS.2 (213, 6, 222) (by decide +kernel)
/-- in force by its state -/
abbrev foA (st fr en d : Int32) : Prop := (st = 1 ∨ st = 2) ∧ fr ≤ d ∧ (st = 1 ∨ d < en)
/-- the articles of the reference: their clauses are Fk -/
def aZs (h : List zC) (el n : Nat) (Fk : Nat → Nat → Int32) : Prop := ∀ k, k < n → ∃ A AS AN : Nat, gF h el k = some (.ref A) ∧ AZ A AS AN h (Fk k) ∧ lmI (Fk k)
def foM (h : List zC) (el : Nat) (d wo : Int32) (k : Nat) : Bool := decide (¬ Int32.ofNat k = wo ∧ foA (iv h (rf h el k) 9) (iv h (rf h el k) 10) (iv h (rf h el k) 11) d)
def apM (h : List zC) (el : Nat) (Fk : Nat → Nat → Int32) (D : Nat) (d wo : Int32) (k : Nat) : Bool := foM h el d wo k && decide (okC (Fk k) (iv h D 3) (iv h D 2) (iv h D 4) (iv h D 5))
abbrev exM (Fk : Nat → Nat → Int32) (k a : Nat) : Bool := decide (Fk k 7 = Int32.ofNat a)
abbrev geM (Fk : Nat → Nat → Int32) (k : Nat) : Bool := decide (Fk k 7 = -1)
abbrev ocM (Fk : Nat → Nat → Int32) (k : Nat) : Int32 := Fk k 6
/-- customs and their tie -/
def cuQ (h : List zC) (rl : Nat) (cr par : Int32) (q : Nat) : Int32 := (cuM (dM h rl par (iv h q 3) (iv h q 2) (iv h q 4) (iv h q 5) (iv h q 6)) cr.toNatClampNeg).1
def tieM (h : List zC) (rl : Nat) (cr : Int32) (q : Nat) : Int32 := if iv h 222 (iv h q 3).toNatClampNeg = 0 then cuQ h rl cr (iv h q 0) q else if iv h 222 (iv h q 3).toNatClampNeg = 1 then cuQ h rl cr (iv h q 1) q else milT (cuQ h rl cr (iv h q 0) q) (cuQ h rl cr (iv h q 1) q)
def tlM (h : List zC) (el N : Nat) (Fk : Nat → Nat → Int32) (D : Nat) (dd wo cu : Int32) (d a : Nat) (op : Nat → Bool) : Int32 := tlT N (exM Fk) (apM h el Fk D dd wo) (foM h el dd wo) (ocM Fk) cu d a op
def mTold (J : Nat) (h : List zC) (el N : Nat) (Fk : Nat → Nat → Int32) (D : Nat) (dd wo cu : Int32) (m : Nat) : Prop := ∀ (a d : Nat) (op : Nat → Bool) (pth : Int32) (u : Nat), a < N → (∀ j, j < N → tb pth j = op j) → N + 1 ≤ cdT op N + d → zL zrx zi m J 0 [(0, .ref 213), (1, .int (Int32.ofNat a)), (2, .ref D), (3, .int dd), (4, .int wo), (5, .int pth)] [] h u (fun o h2 _ => h2 = h ∧ o = .inl (some (.int (tlM h el N Fk D dd wo cu d a op))))
/-- what the reference's code tells -/
def cdM (h : List zC) (el N : Nat) (Fk : Nat → Nat → Int32) (D : Nat) (dd wo cu : Int32) : Int32 := alT (fun k => geM Fk k && apM h el Fk D dd wo k) (fun k => tlM h el N Fk D dd wo cu 25 k (fun _ => false)) N
theorem ofn_inj {a b : Nat} (ha : a < 2147483648) (hb : b < 2147483648) (e : Int32.ofNat a = Int32.ofNat b) : a = b := by
  have x := (toNat_ofNat ha).1
  rw [e, (toNat_ofNat hb).1] at x
  exact x.symm
/-! ===== values: the code sorted out ===== -/
def toK (h : List zC) (k : Nat) : Int32 := iv h (rf h (73 + 4 * k) 1) 7
abbrev exK (h : List zC) (k a : Nat) : Bool := decide (toK h k = Int32.ofNat a)
abbrev geK (h : List zC) (c : Int32) (k : Nat) : Bool := decide (toK h k < 0 ∨ c ≤ toK h k)
abbrev cuK (h : List zC) (k : Nat) : Bool := decide (clO h k = -1)
def srtF (h : List zC) (c : Int32) : Prop := (∀ a, a < c.toNatClampNeg → gF h (73 + 4 * a) 5 = some (.int (bS (fun k => exK h k a) c.toNatClampNeg))) ∧ gF h 71 3 = some (.int (bS (geK h c) c.toNatClampNeg)) ∧ gF h 71 4 = some (.int (bS (cuK h) c.toNatClampNeg))
def so2I (h hk : List zC) (c : Int32) (i : Nat) : Prop := FS h hk ∧ (∀ a, a < c.toNatClampNeg → gF hk (73 + 4 * a) 5 = some (.int (bS (fun k => exK h k a) i))) ∧ gF hk 71 3 = some (.int (bS (geK h c) i)) ∧ gF hk 71 4 = some (.int (bS (cuK h) i))
def so1I (h hk : List zC) (i : Nat) : Prop := FS h hk ∧ (∀ a, a < i → gF hk (73 + 4 * a) 5 = some (.int 0)) ∧ gF hk 71 3 = some (.int 0) ∧ gF hk 71 4 = some (.int 0)
theorem rf_eq {h h2 : List zC} {x k : Nat} (e : gF h2 x k = gF h x k) : rf h2 x k = rf h x k := by
  unfold rf
  rw [e]
theorem so2I.done {h h2 : List zC} {c : Int32} (q : so2I h h2 c c.toNatClampNeg) (h0 : 0 ≤ c.toInt) (h24 : c.toInt ≤ 24) (hCl : ∀ k, k < c.toNatClampNeg → ∃ C : Nat, gF h (73 + 4 * k) 1 = some (.ref C) ∧ 239 ≤ C) : srtF h2 c := by
  obtain ⟨f, q1, q2, q3⟩ := q
  have ck : c.toNatClampNeg = c.toInt.toNat := rfl
  have key : ∀ k, k < c.toNatClampNeg → ∀ j, iv h2 (rf h2 (73 + 4 * k) 1) j = iv h (rf h (73 + 4 * k) 1) j := fun k hk j => by
    obtain ⟨C, c1, c2⟩ := hCl k hk
    have r1 : rf h (73 + 4 * k) 1 = C := rf_of c1
    have r2 : rf h2 (73 + 4 * k) 1 = C := (rf_eq (f.2.1 _ _ (by omega) (by omega))).trans r1
    rw [r1, r2]
    exact iv_eq (f.2.1 _ _ (by omega) (by omega))
  refine ⟨fun a ha => ?_, ?_, ?_⟩
  · rw [q1 a ha, bS_same (n := c.toNatClampNeg) (fun k hk => ?_) _ (Nat.le_refl _)]
    show decide (toK h k = Int32.ofNat a) = decide (toK h2 k = Int32.ofNat a)
    unfold toK
    rw [key k hk]
  · rw [q2, bS_same (n := c.toNatClampNeg) (fun k hk => ?_) _ (Nat.le_refl _)]
    show decide (toK h k < 0 ∨ c ≤ toK h k) = decide (toK h2 k < 0 ∨ c ≤ toK h2 k)
    unfold toK
    rw [key k hk]
  · rw [q3, bS_same (n := c.toNatClampNeg) (fun k hk => ?_) _ (Nat.le_refl _)]
    show decide (clO h k = -1) = decide (clO h2 k = -1)
    rw [show clO h2 k = clO h k from key k hk 6]
theorem mx_ge {c x : Int32} : c.toInt ≤ (mxI c x).toInt := by
  unfold mxI
  by_cases z : c < x
  · rw [if_pos z]
    rw [i32_lt] at z
    omega
  · rw [if_neg z]
    exact Int.le_refl _
theorem nb0 {c nb : Int32} (h1 : 0 ≤ nb.toInt) (hc0 : 0 ≤ c.toInt) : 0 ≤ (mxI c (nb + 1)).toInt := Int.le_trans hc0 mx_ge
theorem nb2 {c nb : Int32} {k : Nat} (h1 : 0 ≤ nb.toInt) (h2 : nb.toInt < 24) (hc0 : 0 ≤ c.toInt) (hc : c.toInt ≤ 24) (hnc : nb.toInt ≤ c.toInt) (hk : k < (mxI c (nb + 1)).toNatClampNeg) (z : ¬ k = nb.toNatClampNeg) : k < c.toNatClampNeg := by
  have e := (nb1 h1 h2 hc).1
  have ck : c.toNatClampNeg = c.toInt.toNat := rfl
  have nk : nb.toNatClampNeg = nb.toInt.toNat := rfl
  have hk : k < (mxI c (nb + 1)).toInt.toNat := hk
  unfold mxI at hk
  by_cases y : c < nb + 1
  · rw [if_pos y, e] at hk
    omega
  · rw [if_neg y] at hk
    exact hk
/-- what takeDraft leaves, with the code sorted out -/
def TDF (T : Nat → Int32) (L : Nat) (nb cnt : Int32) (h h2 : List zC) (o : Sum (Option Value) Nat) : Prop := TD T L nb cnt h h2 o ∧ ∀ b : Int32, o = .inl (some (.int b)) → (b = 0 ∧ ∀ x k, x < h.length → ¬ (x = 183 ∧ (k = 1 ∨ k = 2)) → gF h2 x k = gF h x k) ∨ (b = 1 ∧ srtF h2 (mxI cnt (nb + 1)))
/-! ===== values: ties and ways ===== -/
theorem st_16_6 {h : List zC} (hS : Stc h) : gF h 16 6 = some (.ref 25) := hS.2 (16, 6, 25) (by decide +kernel)
theorem st_28_1' {h : List zC} (hS : Stc h) : gF h 28 1 = some (.ref 30) := hS.2 (28, 1, 30) (by decide +kernel)
theorem st_213_6' {h : List zC} (hS : Stc h) : gF h 213 6 = some (.ref 222) := hS.2 (213, 6, 222) (by decide +kernel)
theorem st_213_15 {h : List zC} (hS : Stc h) : gF h 213 15 = some (.ref 237) := hS.2 (213, 15, 237) (by decide +kernel)
/-! ===== values: disputes, days ===== -/
/-- the facts as they are, of those that are said (k of them looked at) -/
def rfF (w : Nat → Int32) (f : Int32) : Nat → Int32
  | 0 => 0
  | k + 1 => if f >>> (Int32.ofNat k &&& 31) &&& 1 = 1 then rfF w f k ||| 1 <<< (w k &&& 31) else rfF w f k
theorem rfF_same {w v : Nat → Int32} {f : Int32} {n : Nat} (h : ∀ k, k < n → w k = v k) : ∀ k, k ≤ n → rfF w f k = rfF v f k
  | 0, _ => rfl
  | k + 1, hk => by
    unfold rfF
    rw [rfF_same h k (by omega), h k (by omega)]
theorem rfF_y {w : Nat → Int32} {f : Int32} {k : Nat} (h : f >>> (Int32.ofNat k &&& 31) &&& 1 = 1) : rfF w f (k + 1) = rfF w f k ||| 1 <<< (w k &&& 31) := by
  conv => lhs; unfold rfF
  rw [if_pos h]
theorem rfF_n {w : Nat → Int32} {f : Int32} {k : Nat} (h : ¬ f >>> (Int32.ofNat k &&& 31) &&& 1 = 1) : rfF w f (k + 1) = rfF w f k := by
  conv => lhs; unfold rfF
  rw [if_neg h]
theorem st_16_8 {h : List zC} (hS : Stc h) : gF h 16 8 = some (.ref 27) := hS.2 (16, 8, 27) (by decide +kernel)
theorem st_213_8 {h : List zC} (hS : Stc h) : gF h 213 8 = some (.ref 224) := hS.2 (213, 8, 224) (by decide +kernel)
theorem st_case {h : List zC} (hS : Stc h) {i : Nat} (hi : i < 24) : gF h 27 i = some (.ref (189 + i)) := hS.2 (27, i, 189 + i) (by
  have : ∀ i, i < 24 → (27, i, 189 + i) ∈ stL := by decide +kernel
  exact this i hi)
/-- but one cell without pointers is written -/
theorem Stc.one {h h2 : List zC} {P : Nat} (hS : Stc h) (hl : h2.length = h.length) (e : ∀ q k, ¬ q = P → gF h2 q k = gF h q k) (hP : stL.all (fun e => !(e.1 == P)) = true) : Stc h2 := by
  refine ⟨by rw [hl]; exact hS.1, fun x hx => ?_⟩
  have q := List.all_eq_true.mp hP x hx
  have q : ¬ x.1 = P := by simpa using q
  rw [e _ _ q]
  exact hS.2 x hx
theorem stL_case {i : Nat} (hi : i < 24) : stL.all (fun e => !(e.1 == 189 + i)) = true := by
  have : ∀ i, i < 24 → stL.all (fun e => !(e.1 == 189 + i)) = true := by decide +kernel
  exact this i hi
def okD (p q r m f a g day cnt : Int32) : Prop := (iN 6 p ∧ iN 6 q ∧ iN 4 r ∧ iN 4 m) ∧ (rI 0 63 f ∧ rI 0 999 a ∧ rI 0 day g) ∧ cnt.toInt < 24
/-- a dispute of the class' is told: its cell is P -/
def DM (h h2 : List zC) (P : Nat) (cnt p q r m f a d : Int32) : Prop := (∀ x k, ¬ x = P → ¬ (x = 16 ∧ k = 3) → gF h2 x k = gF h x k) ∧ gF h2 16 3 = some (.int (cnt + 1)) ∧ (gF h2 P 0 = some (.int p) ∧ gF h2 P 1 = some (.int q) ∧ gF h2 P 2 = some (.int r) ∧ gF h2 P 3 = some (.int m) ∧ gF h2 P 4 = some (.int f) ∧ gF h2 P 5 = some (.int a) ∧ gF h2 P 6 = some (.int d)) ∧
  gF h2 P 7 = gF h P 7 ∧ gF h2 P 8 = gF h P 8 ∧ h2.length = h.length ∧ ∀ x, gT h2 x = gT h x ∧ gN h2 x = gN h x
/-- a new case of the reference's -/
def IC (h h2 : List zC) (q : Nat) (p q2 r m f a d : Int32) : Prop := (∀ x k, ¬ x = q → gF h2 x k = gF h x k) ∧ (gF h2 q 0 = some (.int p) ∧ gF h2 q 1 = some (.int q2) ∧ gF h2 q 2 = some (.int r) ∧ gF h2 q 3 = some (.int m) ∧ gF h2 q 4 = some (.int f) ∧ gF h2 q 5 = some (.int a) ∧ gF h2 q 6 = some (.int d) ∧ gF h2 q 7 = some (.int (-1)) ∧ gF h2 q 8 = some (.int (-1))) ∧
  h2.length = h.length ∧ ∀ x, gT h2 x = gT h x ∧ gN h2 x = gN h x
/-- the reference's list of cases has one more -/
def MC (h h2 : List zC) (lc : Nat) (cnt p q2 r m f a d : Int32) : Prop := ∃ q lc' : Nat, h.length ≤ q ∧ gF h2 224 1 = some (.ref lc') ∧ gF h2 224 2 = some (.int (cnt + 1)) ∧ (∀ k, k < cnt.toNatClampNeg → gF h2 lc' k = gF h lc k) ∧ gF h2 lc' cnt.toNatClampNeg = some (.ref q) ∧ (lc' = lc ∨ h.length ≤ lc') ∧ ¬ q = lc' ∧
  (gF h2 q 0 = some (.int p) ∧ gF h2 q 1 = some (.int q2) ∧ gF h2 q 2 = some (.int r) ∧ gF h2 q 3 = some (.int m) ∧ gF h2 q 4 = some (.int f) ∧ gF h2 q 5 = some (.int a) ∧ gF h2 q 6 = some (.int d) ∧ gF h2 q 7 = some (.int (-1)) ∧ gF h2 q 8 = some (.int (-1))) ∧
  ¬ cnt < 0 ∧ ∀ x k, x < h.length → ¬ x = 224 → ¬ x = lc → ¬ (x = 213 ∧ k = 0) → gF h2 x k = gF h x k
theorem mc_end {h k0 k1 i1 h2 : List zC} {lc : Nat} {cnt p q2 r m f a d : Int32} {v : Value} {cc : zC} (hl : 239 ≤ h.length) (hel : lc < h.length) (h213 : ¬ lc = 213) (t0 : hPut h k0 213 0 v) (g : vNew k0 k1 cc) (im : IC k1 i1 k0.length p q2 r m f a d) (ad : lAdd i1 h2 224 lc cnt k0.length) : MC h h2 lc cnt p q2 r m f a d := by
  obtain ⟨a1, a2, a3, el', a4, a5, a6, a7, a8, a9, a10⟩ := ad
  obtain ⟨i2, i3, i6, i7⟩ := im
  have l0 := t0.1
  have l1 := g.len
  have key : ∀ x k, x < h.length → gF i1 x k = if x = 213 ∧ k = 0 then some v else gF h x k := fun x k hx => by
    rw [i2 x k (by omega), g.ext.fld (by omega), t0.2.1]
  have fq : ∀ k, gF h2 k0.length k = gF i1 k0.length k := fun k => a9 _ (by omega) (by omega) (by omega) k
  refine ⟨k0.length, el', by omega, a4, a5, fun k hk => ?_, a7, ?_, ?_, ?_, a1, fun x k hx x1 x2 x3 => ?_⟩
  · rw [a6 k hk, key lc k hel, if_neg (fun z => h213 z.1)]
  · rcases a8 with a8 | a8
    · exact Or.inl a8
    · exact Or.inr (by omega)
  · rcases a8 with a8 | a8 <;> omega
  · simp only [fq]
    exact i3
  · rw [a9 x (by omega) x1 x2, key x k hx, if_neg x3]
/-! ===== values: judges, and what is told of cases ===== -/
/-- the code of the class, all that is asked of it -/
def kC (h : List zC) (cnt cr : Int32) (ex : Nat → Nat → Bool) (gen : Nat → Bool) : Prop := Stc h ∧ gF h 71 2 = some (.int cnt) ∧ 0 ≤ cnt.toInt ∧ cnt.toInt ≤ 24 ∧ (∀ k, k < cnt.toNatClampNeg → ∃ C : Nat, gF h (73 + 4 * k) 1 = some (.ref C) ∧ 239 ≤ C) ∧ (∀ a, a < cnt.toNatClampNeg → gF h (73 + 4 * a) 5 = some (.int (bS (fun k => ex k a) cnt.toNatClampNeg))) ∧
  (∀ k, k < cnt.toNatClampNeg → ¬ 0 ≤ clO h k → ¬ clO h k = -1 → (-2 - clO h k).toNatClampNeg < cnt.toNatClampNeg ∧ 0 ≤ (-2 - clO h k).toInt) ∧ (∀ k, k < cnt.toNatClampNeg → (clO h k).toInt ≤ 100) ∧ gF h 28 2 = some (.int cr) ∧ 0 ≤ cr.toInt ∧ cr.toInt ≤ 40 ∧ gF h 71 3 = some (.int (bS gen cnt.toNatClampNeg)) ∧ gF h 71 4 = some (.int (bS (fun k => decide (clO h k = -1)) cnt.toNatClampNeg)) ∧ (∀ par m r f a d, rT (cuC (dC h par m r f a d) cr.toNatClampNeg).1)
/-- the reference's -/
def mC (h : List zC) (el : Nat) (cnt : Int32) (Fk : Nat → Nat → Int32) (cr : Int32) (rl : Nat) : Prop := gF h 225 1 = some (.ref el) ∧ gF h 225 2 = some (.int cnt) ∧ 0 ≤ cnt.toInt ∧ cnt.toInt ≤ 24 ∧ aZs h el cnt.toNatClampNeg Fk ∧ Stc h ∧ gF h 223 2 = some (.int cr) ∧ gF h 223 1 = some (.ref rl) ∧ 0 ≤ cr.toInt ∧ cr.toInt ≤ 40 ∧ (∀ k, k < cr.toNatClampNeg → ∃ x : Nat, gF h rl k = some (.ref x) ∧ RI h x ∧ ∃ a b c : Int32, gF h x 3 = some (.int a) ∧ gF h x 4 = some (.int b) ∧ gF h x 6 = some (.int c) ∧ rI 0 63 a ∧ rI 0 63 b) ∧ (∀ k, k < cnt.toNatClampNeg → ¬ 0 ≤ Fk k 6 → ¬ Fk k 6 = -1 → (-2 - Fk k 6).toNatClampNeg < cnt.toNatClampNeg ∧ 0 ≤ (-2 - Fk k 6).toInt)
theorem mil_r {a b : Int32} (ha : rT a) (hb : rT b) : rT (milT a b) := by
  unfold milT mnI mxI
  split
  · split
    · exact hb
    · exact ha
  · split
    · split
      · exact hb
      · exact ha
    · split
      · decide
      · decide
theorem tie_r {h : List zC} {cr : Int32} {q : Nat} {d : Int32} (hT : ∀ par m r f a d, rT (cuC (dC h par m r f a d) cr.toNatClampNeg).1) : rT (tieC h cr q d) := by
  unfold tieC
  split
  · exact hT _ _ _ _ _ _
  · split
    · exact hT _ _ _ _ _ _
    · exact mil_r (hT _ _ _ _ _ _) (hT _ _ _ _ _ _)
theorem mnI_comm (a b : Int32) : mnI a b = mnI b a := by
  unfold mnI
  by_cases x : b < a
  · rw [if_pos x, if_neg (fun z => by rw [i32_lt] at x z; omega)]
  · by_cases y : a < b
    · rw [if_neg x, if_pos y]
    · rw [if_neg x, if_neg y]
      exact Int32.toInt_inj.mp (by rw [i32_lt] at x y; omega)
/-- what the code tells, of a case of the class at its day d -/
abbrev kT (h : List zC) (cnt cr : Int32) (ex : Nat → Nat → Bool) (gen : Nat → Bool) (D : Nat) (d : Int32) : Int32 := cdC h cnt.toNatClampNeg ex gen (foC h d) (tieC h cr D d) D
abbrev mT (h : List zC) (el : Nat) (cnt : Int32) (Fk : Nat → Nat → Int32) (cr : Int32) (rl D : Nat) (d wo : Int32) : Int32 := cdM h el cnt.toNatClampNeg Fk D d wo (tieM h rl cr D)
/-- stretched; judged by a way -/
def strT (x : Int32) : Int32 := if 50 < x then mnI (x + 10) 100 else if 0 ≤ x ∧ x < 50 then mxI (x - 10) 0 else x
def jdT (w told cu : Int32) : Int32 := if w = 1 then strT told else if w = 2 ∨ w = 3 then (if cu < 0 then told else if w = 2 then cu else if told < 0 then told else (told + cu) / 2) else told
theorem z50 : (50 : Int32).toInt = 50 := rfl
theorem z49 : (49 : Int32).toInt = 49 := rfl
theorem st_213_8' {h : List zC} (hS : Stc h) : gF h 213 8 = some (.ref 224) := hS.2 (213, 8, 224) (by decide +kernel)
theorem st_16_6' {h : List zC} (hS : Stc h) : gF h 16 6 = some (.ref 25) := hS.2 (16, 6, 25) (by decide +kernel)
theorem st_213_15' {h : List zC} (hS : Stc h) : gF h 213 15 = some (.ref 237) := hS.2 (213, 15, 237) (by decide +kernel)
theorem n24c {c x : Int32} (h : iN c.toInt x) (hc : c.toInt ≤ 24) : x.toNatClampNeg < 24 := by
  obtain ⟨h1, h2⟩ := h
  show x.toInt.toNat < 24
  omega
theorem iN_cc {c x : Int32} (h0 : 0 ≤ c.toInt) (h : iN c.toInt x) : x.toNatClampNeg < c.toNatClampNeg := by
  obtain ⟨a, b⟩ := h
  show x.toInt.toNat < c.toInt.toNat
  omega
theorem n4c {x : Int32} (h : iN 4 x) : x.toNatClampNeg < 4 := iN_lt (m := 4) h
/-- a case of the class judged, of the reference -/
theorem mC.thr {h h0 : List zC} {el : Nat} {cnt : Int32} {Fk : Nat → Nat → Int32} {cr : Int32} {rl : Nat} {v : Value} (m : mC h el cnt Fk cr rl) (g : hPut h h0 213 0 v) (nel : ¬ el = 213) (nrl : ¬ rl = 213) (nA : ∀ k, k < cnt.toNatClampNeg → ¬ gF h el k = some (.ref 213)) (nR : ∀ k, k < cr.toNatClampNeg → ¬ gF h rl k = some (.ref 213)) : mC h0 el cnt Fk cr rl := by
  have f0 : ∀ q k, ¬ (q = 213 ∧ k = 0) → gF h0 q k = gF h q k := fun q k z => by rw [g.2.1, if_neg z]
  obtain ⟨hL, hs, h0', h24, hA, hS, hrs, hrl, r0, r40, hrq, hO⟩ := m
  refine ⟨(f0 225 1 (by omega)).trans hL, (f0 225 2 (by omega)).trans hs, h0', h24, fun k hk => ?_, hS.thr g, (f0 223 2 (by omega)).trans hrs, (f0 223 1 (by omega)).trans hrl, r0, r40, fun k hk => ?_, hO⟩
  · obtain ⟨A, AS, AN, a1, ⟨z1, z2, z3, z4, z5, z6, z7, z8, z9, z10⟩, a3⟩ := hA k hk
    exact ⟨A, AS, AN, (f0 el k (fun z => nel z.1)).trans a1, ⟨fun e he => (f0 A _ (by omega)).trans (z1 e he), (f0 A 4 (by omega)).trans z2, (f0 A 5 (by omega)).trans z3, fun j hj => (f0 AS j (by omega)).trans (z4 j hj), fun j hj => (f0 AN j (by omega)).trans (z5 j hj), z6, z7, z8, z9, z10⟩, a3⟩
  · obtain ⟨x, x1, ri, a, b, c, f3, f4, f6, ra, rb⟩ := hrq k hk
    have nx : ¬ x = 213 := fun z => nR k hk (by rw [x1, z])
    exact ⟨x, (f0 rl k (fun z => nrl z.1)).trans x1, ri.same (fun j _ => f0 x j (fun z => nx z.1)), a, b, c, (f0 x 3 (fun z => nx z.1)).trans f3, (f0 x 4 (fun z => nx z.1)).trans f4, (f0 x 6 (fun z => nx z.1)).trans f6, ra, rb⟩
theorem mC.rev {h h0 : List zC} {el : Nat} {cnt : Int32} {Fk : Nat → Nat → Int32} {cr : Int32} {rl : Nat} {v : Value} (m : mC h el cnt Fk cr rl) (g : hPut h h0 213 2 v) (nel : ¬ el = 213) (nrl : ¬ rl = 213) (nA : ∀ k, k < cnt.toNatClampNeg → ¬ gF h el k = some (.ref 213)) (nR : ∀ k, k < cr.toNatClampNeg → ¬ gF h rl k = some (.ref 213)) : mC h0 el cnt Fk cr rl := by
  have f0 : ∀ q k, ¬ (q = 213 ∧ k = 2) → gF h0 q k = gF h q k := fun q k z => by rw [g.2.1, if_neg z]
  obtain ⟨hL, hs, h0', h24, hA, hS, hrs, hrl, r0, r40, hrq, hO⟩ := m
  refine ⟨(f0 225 1 (by omega)).trans hL, (f0 225 2 (by omega)).trans hs, h0', h24, fun k hk => ?_, ?_, (f0 223 2 (by omega)).trans hrs, (f0 223 1 (by omega)).trans hrl, r0, r40, fun k hk => ?_, hO⟩
  · obtain ⟨A, AS, AN, a1, ⟨z1, z2, z3, z4, z5, z6, z7, z8, z9, z10⟩, a3⟩ := hA k hk
    exact ⟨A, AS, AN, (f0 el k (fun z => nel z.1)).trans a1, ⟨fun e he => (f0 A _ (by omega)).trans (z1 e he), (f0 A 4 (by omega)).trans z2, (f0 A 5 (by omega)).trans z3, fun j hj => (f0 AS j (by omega)).trans (z4 j hj), fun j hj => (f0 AN j (by omega)).trans (z5 j hj), z6, z7, z8, z9, z10⟩, a3⟩
  · exact ⟨by rw [g.1]; exact hS.1, fun e he => (f0 e.1 e.2.1 (fun z => by
      have w := List.all_eq_true.mp (show stL.all (fun e => !(e.1 == 213 && e.2.1 == 2)) = true by decide +kernel) e he
      simp [z.1, z.2] at w)).trans (hS.2 e he)⟩
  · obtain ⟨x, x1, ri, a, b, c, f3, f4, f6, ra, rb⟩ := hrq k hk
    have nx : ¬ x = 213 := fun z => nR k hk (by rw [x1, z])
    exact ⟨x, (f0 rl k (fun z => nrl z.1)).trans x1, ri.same (fun j _ => f0 x j (fun z => nx z.1)), a, b, c, (f0 x 3 (fun z => nx z.1)).trans f3, (f0 x 4 (fun z => nx z.1)).trans f4, (f0 x 6 (fun z => nx z.1)).trans f6, ra, rb⟩
